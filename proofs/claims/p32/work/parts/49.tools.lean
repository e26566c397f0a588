/-! ===== worlds as lists of cells; what is made; calls from any frame ===== -/
theorem vP_iff {D : va_G} {cl : List vw_C} {ws : va_W} {H : Heap} : va_P D cl ws H ↔ ∀ q ∈ ws, va_at D cl q H := ⟨fun h q hq => by
    obtain ⟨k, hk⟩ := List.getElem?_of_mem hq
    exact h k q hk, fun h k q hk => h q (List.mem_of_getElem? hk)⟩
theorem vP_app {D : va_G} {cl : List vw_C} {w1 w2 : va_W} {H : Heap} : va_P D cl (w1 ++ w2) H ↔ va_P D cl w1 H ∧ va_P D cl w2 H := by
  rw [vP_iff, vP_iff, vP_iff]
  exact ⟨fun h => ⟨fun q hq => h q (List.mem_append_left _ hq), fun q hq => h q (List.mem_append_right _ hq)⟩, fun h q hq => (List.mem_append.mp hq).elim (h.1 q) (h.2 q)⟩
theorem vD_iff {A : Nat → Prop} {ws : va_W} : va_D A ws ↔ (ws.map Prod.fst).Nodup ∧ ∀ q ∈ ws, A q.1 := by
  constructor
  · intro h
    refine ⟨?_, fun q hq => ?_⟩
    · rw [List.Nodup, List.pairwise_iff_getElem]
      intro i j hi hj hij e
      rw [List.length_map] at hi hj
      rw [List.getElem_map, List.getElem_map] at e
      have := h.1 i j _ _ (List.getElem?_eq_getElem hi) (List.getElem?_eq_getElem hj) e
      omega
    · obtain ⟨k, hk⟩ := List.getElem?_of_mem hq
      exact h.2 k q hk
  · rintro ⟨hn, h⟩
    refine ⟨fun i j p q hi hj e => ?_, fun k q hk => h q (List.mem_of_getElem? hk)⟩
    have hl : i < (ws.map Prod.fst).length := by
      rw [List.length_map]
      exact (List.getElem?_eq_some_iff.mp hi).1
    refine (List.getElem?_inj hl hn).mp ?_
    rw [List.getElem?_map, List.getElem?_map, hi, hj]
    exact congrArg some e
theorem vD_addr {A : Nat → Prop} {ws ws' : va_W} (h : ws.map Prod.fst = ws'.map Prod.fst) (hD : va_D A ws) : va_D A ws' := by
  rw [vD_iff] at hD ⊢
  refine ⟨h ▸ hD.1, fun q hq => ?_⟩
  have hm : q.1 ∈ ws.map Prod.fst := by
    rw [h]
    exact List.mem_map.mpr ⟨q, hq, rfl⟩
  obtain ⟨x, hx, e⟩ := List.mem_map.mp hm
  rw [← e]
  exact hD.2 x hx
theorem wl_fst {ks : Nat → Sh} {cy : Nat → ClassId} {ρ : Nat → Nat → Nat} {I : List KI} {σ : Mem} : (wl ks cy ρ I σ).map Prod.fst = I.map (fun q => ρ q.1 q.2) := by
  simp [wl]
theorem W_mono {p : Program} {l : Launch} {e : Env} {R : Room} {s : State} {m : MethodId} {args : Array Value} {below : List Frame} {meth : Method} {c : Code} {H : Heap} {locs : List Loc} {cells slots : Nat} {Q Q' : State → Prop} {g : JFrame} (h : ∀ t, Q t → Q' t) (k : W p l e R s m args below meth c H locs cells slots Q g) : W p l e R s m args below meth c H locs cells slots Q' g := fun T hT X => by
  obtain ⟨t, a, b⟩ := k T hT X
  exact ⟨t, a, h t b⟩
theorem MQ_mono {below : List Frame} {Qc Qc' : Array Value → State → Outcome → State → Prop} {a : Array Value} {s : State} {mc ms : Nat} {free : Addr → Prop} (h : ∀ o t, Qc a s o t → Qc' a s o t) : ∀ t, MQ below Qc a s mc ms free t → MQ below Qc' a s mc ms free t := fun _ ⟨o, h1, h2, h3, h4⟩ => ⟨o, h1, h2, h _ _ h3, h4⟩
theorem vRA_inj {U : State} {a b : ClassId} {ty : FieldType} (h1 : va_RA U a ty) (h2 : va_RA U b ty) : a = b := by
  cases ty with
  | object C =>
    obtain ⟨_, _, _, _, _, e1⟩ := h1
    obtain ⟨_, _, _, _, _, e2⟩ := h2
    exact Option.some.inj (e1.symm.trans e2)
  | _ => exact Option.some.inj (Eq.trans (Eq.symm (show U.vm.findClass _ = some a from h1)) h2)
theorem cy_inj {D : va_G} {cy : Nat → ClassId} {s : State} {cA : ClassId} {t : Nat} (hK : va_K D vwCl (tysOf cy) s) (ht : t ≤ 5) (hK1 : va_K D vwCl (tysOf cy ++ [(cA, tyT t)]) s) : cA = cy t := vRA_inj (hK1.2 6 _ rfl).2 (hK.2 t _ (tys_at cy ht)).2
section Back
variable {p : Program} {l : Launch} {e : Env} {R : Room} {s : State} {m : MethodId} {args : Array Value} {below : List Frame} {meth : Method} {c : Code} {H H0 : Heap} {locs : List Loc} {cells slots : Nat} {Qf : State → Prop} {D : va_G} {cy : Nat → ClassId} {ρ : Nat → Nat → Nat} {A : Nat → Prop} {I : List KI} {σ : Mem} {Q' : Option AV → Mem → Prop} {a : Array Value} {pc : Nat} {ls : Array Slot} {st rest : List Value} {wr ws : va_W} {own : String} {cc : ByteArray} {nL : Nat}
theorem W_back (run : va_Run p l e R s m args below meth c H locs cells slots 0 0 (F0 m pc ls st) rest (QQ I D cy ρ (va_A (wl kS cy ρ I σ) H.size) Q' a) (va_A (wl kS cy ρ I σ) H.size)) (hPr : va_P D vwCl wr H) (hD : va_D A (wl kS cy ρ I σ ++ wr)) (hS : va_S A H0 H locs) (hA : ∀ q, H0.size ≤ q → A q)
    (kk : ∀ v σ' H1 locs1, Q' v σ' → va_P D vwCl (wl kS cy ρ I σ') H1 → va_P D vwCl wr H1 → va_S A H0 H1 locs1 → W p l e R s m args below meth c H1 locs1 cells slots Qf (F0 m (pc + 3) ls ((v.map (toV ρ)).toList ++ rest))) : W p l e R s m args below meth c H locs cells slots Qf (F0 m pc ls st) := by
  have hFc : ∀ q, va_A (wl kS cy ρ I σ) H.size q → A q := by
    intro q h
    rcases h with ⟨k, e, h⟩ | h
    · exact (vD_iff.mp hD).2 _ (List.mem_append_left _ (List.mem_of_getElem? h))
    · exact hA q (Nat.le_trans hS.1 h)
  have hap : ∀ q ∈ wr, q.1 < H.size ∧ ¬ va_A (wl kS cy ρ I σ) H.size q.1 := by
    intro q hq
    have hl := (vP_iff.mp hPr q hq).lt
    refine ⟨hl, fun h => ?_⟩
    rcases h with ⟨k, e, h⟩ | h
    · have hn := (vD_iff.mp hD).1
      rw [List.map_append, List.nodup_append] at hn
      exact hn.2.2 _ (List.mem_map.mpr ⟨_, List.mem_of_getElem? h, rfl⟩) _ (List.mem_map.mpr ⟨q, hq, rfl⟩) rfl
    · omega
  intro T hT X
  obtain ⟨v, st₀, t, T', L, h0, X', hL, e1, e2, ⟨⟨v', σ', hv, hq, hP1, hK1, hD1, hok1⟩, hz, hkp⟩, stp⟩ := run T hT X
  cases hv
  rw [h0] at hz hkp
  have hS1 : va_S A H0 T'.heap (locs ++ L) := ⟨Nat.le_trans hS.1 (by rw [e1]; exact hz), fun q g1 g2 => by
      rw [e1, hkp q (Nat.lt_of_lt_of_le g1 hS.1) (fun z => g2 (hFc q z))]; exact hS.2.1 q g1 g2, fun q hq2 => by
      rcases List.mem_append.mp hq2 with h | h
      · exact hS.2.2 q h
      · exact hFc _ (hL q h)⟩
  have hPr1 : va_P D vwCl wr T'.heap := vP_iff.mpr (fun q hq => (vP_iff.mp hPr q hq).kept (by
    obtain ⟨g1, g2⟩ := hap q hq
    rw [e1]
    exact hkp q.1 g1 g2))
  obtain ⟨t2, a1, b1⟩ := kk v' σ' T'.heap (locs ++ L) hq (by rw [e1]; exact hP1) hPr1 hS1 T' rfl X'
  exact ⟨t2, stp t2 a1, b1⟩
/-- a virtual call out of any frame, into a world of the machine's -/
theorem W_virt {S : SR} {idx ci k i d : Nat} {as : List AV} {fl : List (Option Nat)} (hX : ¬ Off I) (hS : Sok S) (hci : S.2.2.2.2.2 = some ci) (hx : p.tables.exec = Jvm.exec) (hb : c.code = cc) (hml : c.maxLocals = nL) (hown : s.vm.findClass own = some m.cls) (hts : ∀ w ∈ TB, w.before args s = true) (hlink : (Cond.methodLink own idx S.1).before args s = true) (hK : va_K D vwCl (tysOf cy) s) (hNw : NwOK s) (hfr : d + 1 ≤ R.frames) (hlo : 40 * (d + 1) ≤ R.locals) (hc : cells ≤ R.cells) (hsl : slots ≤ R.slots) (hki : (k, i) ∈ I) (hk : kS k = .inl (ci, fl)) (hok : okS I as) (hlen : as.length = S.2.2.2.2.1) (hdg : decode cc pc = .ok (.invokevirtual idx, 3)) (hls : ls.size = nL) (hr8 : (rest.map fun v => v.category).sum ≤ 8) (hC : Cal I d S (ar k i :: as) σ Q')
    (hP : va_P D vwCl (wl kS cy ρ I σ) H) (hPr : va_P D vwCl wr H) (hD : va_D A (wl kS cy ρ I σ ++ wr)) (hSS : va_S A H0 H locs) (hA : ∀ q, H0.size ≤ q → A q)
    (kk : ∀ v σ' H1 locs1, Q' v σ' → va_P D vwCl (wl kS cy ρ I σ') H1 → va_P D vwCl wr H1 → va_S A H0 H1 locs1 → W p l e R s m args below meth c H1 locs1 cells slots Qf (F0 m (pc + 3) ls ((v.map (toV ρ)).toList ++ rest))) : W p l e R s m args below meth c H locs cells slots Qf (F0 m pc ls ((as.map (toV ρ)).reverse ++ .ref (ρ k i) :: rest)) := by
  obtain ⟨hcode, hini, hd, h21, hpl, hsel⟩ := id hS
  rw [hci] at hsel
  obtain ⟨hinst, hsel, hcl⟩ := hsel
  obtain ⟨n, hn⟩ := place_of hki
  have he := wl_get (ks := kS) (cy := cy) (ρ := ρ) hn σ
  rw [ent_obj hk] at he
  obtain ⟨q, hq1, hq2⟩ : ∃ q, vwCl[ci]? = some q ∧ q.1 = S.1.cls := by
    cases hq : vwCl[ci]? with
    | none => rw [hq] at hcl; cases hcl
    | some q => rw [hq] at hcl; exact ⟨q, rfl, Option.some.inj hcl⟩
  have hrecv := va_recv hK hP hq1 he
  rw [hq2] at hrecv
  have hroom : (rmD d).frames + 1 ≤ R.frames ∧ 8 + (S.2.2.1 + 11) + (rmD d).locals ≤ R.locals := by
    show d + 1 ≤ R.frames ∧ 8 + (S.2.2.1 + 11) + 40 * d ≤ R.locals
    omega
  have hDc : va_D A (wl kS cy ρ I σ) := by
    rw [vD_iff] at hD ⊢
    rw [List.map_append, List.nodup_append] at hD
    exact ⟨hD.1.1, fun q hq => hD.2 q (List.mem_append_left _ hq)⟩
  have hokA : okS I (ar k i :: as) := fun v hv => by
    rcases List.mem_cons.mp hv with rfl | hv
    · exact Or.inl hki
    · exact hok v hv
  have hMet := hC hX l D cy ρ H.size hokA
  have pre : PreV s H S.1.cls (ρ k i) (va_Pc ((ar k i :: as).map (toV ρ)) (fun U => U.heap.size = H.size ∧ va_P D vwCl (wl kS cy ρ I σ) U.heap ∧ va_K D vwCl (tysOf cy) U ∧ va_D (fun _ => True) (wl kS cy ρ I σ) ∧ NwOK U)) (as.map (toV ρ)) := ⟨blindC, hrecv, fun U hU hW => ⟨rfl, by rw [hU], by rw [hU]; exact hP, va_K.moved hW.alike hK, hDc.weaken (fun _ _ _ _ => trivial), hNw.warm hW⟩⟩
  have run := va_runV (l := l) (p := p) (R := R) (s := s) (m := m) (c := c) (cc := cc) (nL := nL) (As := as.map (toV ρ)) (rest := rest) (b := ρ k i) (C := S.1.cls) (Ts := TB) (own := own) (index := idx) (n := S.2.2.2.2.1) (g := F0 m pc ls ((as.map (toV ρ)).reverse ++ .ref (ρ k i) :: rest)) (locs := locs) (cells := cells) (slots := slots) (H := H) (args := args) (below := below) (meth := meth) (e := e) ⟨hx, hb, hml, hown, hts⟩ hMet
    ⟨callB_of S.2.2.2.2.1 hts (goodC hS) rfl rfl rfl (hts _ hini) hlink hd hroom, hts _ hinst, hts _ hsel⟩
    pre rfl (by simp [hlen]) hls rfl (lv_room hr8) hdg ⟨by simpa using hc, by simpa using hsl⟩
  exact W_back (Q' := Q') run hPr hD hSS hA kk
theorem W_stat {S : SR} {idx d : Nat} {as : List AV} (hX : ¬ Off I) (hS : Sok S) (hci : S.2.2.2.2.2 = none) (hx : p.tables.exec = Jvm.exec) (hb : c.code = cc) (hml : c.maxLocals = nL) (hown : s.vm.findClass own = some m.cls) (hts : ∀ w ∈ TB, w.before args s = true) (hlink : (Cond.methodLink own idx S.1).before args s = true) (hK : va_K D vwCl (tysOf cy) s) (hNw : NwOK s) (hfr : d + 1 ≤ R.frames) (hlo : 40 * (d + 1) ≤ R.locals) (hc : cells ≤ R.cells) (hsl : slots ≤ R.slots) (hok : okS I as) (hlen : as.length = S.2.2.2.2.1) (hdg : decode cc pc = .ok (.invokestatic idx, 3)) (hls : ls.size = nL) (hr8 : (rest.map fun v => v.category).sum ≤ 8) (hC : Cal I d S as σ Q')
    (hP : va_P D vwCl (wl kS cy ρ I σ) H) (hPr : va_P D vwCl wr H) (hD : va_D A (wl kS cy ρ I σ ++ wr)) (hSS : va_S A H0 H locs) (hA : ∀ q, H0.size ≤ q → A q)
    (kk : ∀ v σ' H1 locs1, Q' v σ' → va_P D vwCl (wl kS cy ρ I σ') H1 → va_P D vwCl wr H1 → va_S A H0 H1 locs1 → W p l e R s m args below meth c H1 locs1 cells slots Qf (F0 m (pc + 3) ls ((v.map (toV ρ)).toList ++ rest))) : W p l e R s m args below meth c H locs cells slots Qf (F0 m pc ls ((as.map (toV ρ)).reverse ++ rest)) := by
  obtain ⟨hcode, hini, hd, h21, hpl, hsel⟩ := id hS
  rw [hci] at hsel
  have hroom : (rmD d).frames + 1 ≤ R.frames ∧ 8 + (S.2.2.1 + 11) + (rmD d).locals ≤ R.locals := by
    show d + 1 ≤ R.frames ∧ 8 + (S.2.2.1 + 11) + 40 * d ≤ R.locals
    omega
  have hDc : va_D A (wl kS cy ρ I σ) := by
    rw [vD_iff] at hD ⊢
    rw [List.map_append, List.nodup_append] at hD
    exact ⟨hD.1.1, fun q hq => hD.2 q (List.mem_append_left _ hq)⟩
  have hMet := hC hX l D cy ρ H.size hok
  have pre : PreS s H (va_Pc (as.map (toV ρ)) (fun U => U.heap.size = H.size ∧ va_P D vwCl (wl kS cy ρ I σ) U.heap ∧ va_K D vwCl (tysOf cy) U ∧ va_D (fun _ => True) (wl kS cy ρ I σ) ∧ NwOK U)) (as.map (toV ρ)) := ⟨blindC, fun U hU hW => ⟨rfl, by rw [hU], by rw [hU]; exact hP, va_K.moved hW.alike hK, hDc.weaken (fun _ _ _ _ => trivial), hNw.warm hW⟩⟩
  have run := va_runS (l := l) (p := p) (R := R) (s := s) (m := m) (c := c) (cc := cc) (nL := nL) (As := as.map (toV ρ)) (rest := rest) (Ts := TB) (own := own) (index := idx) (n := S.2.2.2.2.1) (g := F0 m pc ls ((as.map (toV ρ)).reverse ++ rest)) (locs := locs) (cells := cells) (slots := slots) (H := H) (args := args) (below := below) (meth := meth) (e := e) ⟨hx, hb, hml, hown, hts⟩ hMet
    ⟨callB_of S.2.2.2.2.1 hts (goodC hS) rfl rfl rfl (hts _ hini) hlink hd hroom, hts _ hsel⟩
    pre rfl (by simp [hlen]) hls rfl (lv_room hr8) hdg ⟨by simpa using hc, by simpa using hsl⟩
  exact W_back (Q' := Q') run hPr hD hSS hA kk
/-- an array of zeros -/
theorem N_newa {at_ : ArrayType} {t n : Nat} {a0 : vp_A} (ha : ∀ cA : ClassId, vp_cell cA a0 = arrV cA n (fun _ => defaultValue (newarray.typeOf at_))) (hat : newarray.typeOf at_ = tyT t) (ht : t ≤ 5) (harr : Cond.arrayClass (newarray.typeOf at_) ∈ TB) (hx : p.tables.exec = Jvm.exec) (hb : c.code = cc) (hts : ∀ w ∈ TB, w.before args s = true) (hK : va_K D vwCl (tysOf cy) s) (hP : va_P D vwCl ws H) (hD : va_D A ws) (hS : va_S A H0 H locs) (hA : ∀ q, H0.size ≤ q → A q) (hn : n ≤ 1000) (hbytes : n * componentBytes (newarray.typeOf at_) ≤ 536870912) (hcells : cells + 1 ≤ R.cells) (hslots : slots + n ≤ R.slots) (hdg : decode cc pc = .ok (.newarray at_, 2))
    (kk : ∀ q H1, va_P D vwCl (ws ++ [(q, .inl (cy t, a0))]) H1 → va_D A (ws ++ [(q, .inl (cy t, a0))]) → va_S A H0 H1 locs → W p l e R s m args below meth c H1 locs (cells + 1) (slots + n) Qf (F0 m (pc + 2) ls (.ref q :: rest))) : W p l e R s m args below meth c H locs cells slots Qf (F0 m pc ls (.int (nI n) :: rest)) := by
  refine va_newa (atype := at_) (N' := n) (a0 := a0) hx hb (hts _ harr) rfl hK hP hD hS hA ha (by rw [Int32.lt_iff_toInt_lt, nI_toInt (by omega)]; exact Int.not_lt.mpr (Int.natCast_nonneg n)) (nI_clamp (by omega)) hbytes hcells hslots hdg (fun q cA H1 hK1 hP1 hD1 hS1 => ?_)
  rw [hat] at hK1
  have e := cy_inj hK ht hK1
  subst e
  exact kk q H1 hP1 hD1 hS1
end Back
