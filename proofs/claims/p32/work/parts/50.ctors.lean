/-! ===== constructors ===== -/
/-- what holds when all has been made -/
def mem0X : Mem := (fun k _ j => bif Nat.beq k 7 && (Nat.beq j 1 || Nat.beq j 2) then -1 else bif Nat.beq k 10 && Nat.blt j 12 then 5 else bif Nat.beq k 12 && Nat.blt j 48 then -1 else bif Nat.beq k 23 && Nat.beq j 1 then -1 else 0, fun _ _ _ => 0)
def CQ (μ : Mem) (I : List KI) (k : Nat) (D : va_G) (cy : Nat → ClassId) (h : Nat) (A : Nat → Prop) : Array Value → State → Outcome → State → Prop := fun _ st oc t => (∃ ρ : Nat → Nat → Nat, oc = .returned none ∧ ρ k 0 = h ∧ va_P D vwCl (wl kS cy ρ I μ) t.heap ∧ va_D A (wl kS cy ρ I μ)) ∧ va_F A st t
/-- the array classes over the class's own parts -/
def exA (b : Bool) (U : State) : Prop := b = true → va_AO "TownFolk$Shelf" U ∧ va_AO "TownFolk$Resident" U ∧ va_AO "TownFolk$Gathering" U
theorem exA.moved {b : Bool} {u U : State} (hvm : u.vm.Alike U.vm) (h : exA b u) : exA b U := fun hb => ⟨(h hb).1.moved hvm, (h hb).2.1.moved hvm, (h hb).2.2.moved hvm⟩
def CP (b : Bool) (ci : Nat) (fs : List Value) (D : va_G) (cy : Nat → ClassId) (sz h : Nat) : State → Prop := fun U => U.heap.size = sz ∧ va_P D vwCl [(h, .inr (ci, fs))] U.heap ∧ va_K D vwCl (tysOf cy) U ∧ va_D (fun _ => True) [(h, .inr (ci, fs))] ∧ NwOK U ∧ exA b U
def rmC (d mc ms : Nat) : Room := { frames := d, cells := mc, slots := ms, locals := 40 * d }
def Ctor (l : Launch) (μ : Mem) (b : Bool) (S : SR) (d mc ms ci k : Nat) (fs : List Value) (I : List KI) : Prop := ∀ (D : va_G) (cy : Nat → ClassId) (h sz : Nat), Met l S.1 (Jvm.Cond.code S.1 S.2.1 S.2.2.1 none :: TB) (rmC d mc ms) (va_Pc [.ref h] (CP b ci fs D cy sz h)) (CQ μ I k D cy h (va_A [(h, .inr (ci, fs))] sz)) mc ms (va_A [(h, .inr (ci, fs))] sz)
/-- what holds in a constructor's frame -/
def CxN (b : Bool) (S : SR) (d mc ms : Nat) (p : Program) (R : Room) (s : State) (m : MethodId) (args : Array Value) (meth : Method) (c : Code) (D : va_G) (cy : Nat → ClassId) (A : Nat → Prop) : Prop :=
  p.tables.exec = Jvm.exec ∧ c.code = S.2.1 ∧ c.maxLocals = S.2.2.1 ∧ meth.sig.returnType = none ∧ meth.locks = false ∧ s.vm.findClass S.1.cls = some m.cls ∧ (∀ w ∈ TB, w.before args s = true) ∧ (∀ q : Nat, s.heap.size ≤ q → A q) ∧ meth.name = "<init>" ∧ NwOK s ∧ va_K D vwCl (tysOf cy) s ∧ d ≤ R.frames ∧ 40 * d ≤ R.locals ∧ R.cells = mc ∧ R.slots = ms ∧ exA b s
theorem Ctor_of {l : Launch} {μ : Mem} {b : Bool} {S : SR} {d mc ms ci k : Nat} {fs : List Value} {I : List KI} (hplain : plainName S.1.cls = true) (hmx : 1 ≤ S.2.2.1) (hname : S.1.name = "<init>")
    (body : ∀ (p : Program) (e : Env) (s : State) (m : MethodId) (args : Array Value) (below : List Frame) (meth : Method) (c : Code) (D : va_G) (cy : Nat → ClassId) (h : Nat) (A : Nat → Prop) (ls : Array Slot), CxN b S d mc ms p (rmC d mc ms) s m args meth c D cy A → lv_has ls S.2.2.1 [(0, .ref h)] → va_P D vwCl [(h, .inr (ci, fs))] s.heap → va_D A [(h, .inr (ci, fs))] → W p l e (rmC d mc ms) s m args below meth c s.heap [] 0 0 (MQ below (CQ μ I k D cy h A) args s mc ms A) (F0 m 0 ls [])) : Ctor l μ b S d mc ms ci k fs I := by
  intro D cy h sz
  refine Met.ofW (cc := S.2.1) (maxL := S.2.2.1) (ret := none) hplain rfl ?_
  intro p e s m args below meth c s₁ B hml hv
  obtain ⟨rfl, hsz, hP, hK, hD0, hNw, hEx⟩ := hv
  have hts0 := atoms_spec (ws := Jvm.Cond.code S.1 S.2.1 S.2.2.1 none :: TB) B.pre
  have hown : s.vm.findClass S.1.cls = some m.cls := findClass_of_methodNamed B.named
  have hin : meth.name = "<init>" := (name_of_methodNamed B.named B.method).1.trans hname
  subst hsz
  have hD := hD0.self (sz := s.heap.size)
  have hA : ∀ q : Nat, s.heap.size ≤ q → va_A [(h, .inr (ci, fs))] s.heap.size q := fun q h => Or.inr h
  have hl := lv_entry ([.ref h]) (n := S.2.2.1) (by show 1 ≤ S.2.2.1; exact hmx)
  rw [lg_entry_eq]
  exact body p e s m _ below meth c D cy h _ _ ⟨B.exec, B.bytes, hml, B.returns, B.notSynchronized, hown, fun w hw => hts0 w (List.mem_cons_of_mem _ hw), hA, hin, hNw, hK, Nat.le_refl _, Nat.le_refl _, rfl, rfl, hEx⟩ hl hP hD
section Ctors
variable {p : Program} {l : Launch} {e : Env} {R : Room} {s : State} {m : MethodId} {args : Array Value} {below : List Frame} {meth : Method} {c : Code} {H : Heap} {locs : List Loc} {cells slots : Nat} {Qf : State → Prop} {D : va_G} {cy : Nat → ClassId} {A : Nat → Prop} {pc : Nat} {ls : Array Slot} {rest : List Value} {wt ws : va_W} {S : SR} {d mc ms : Nat} {b : Bool}
theorem N_obj {idx h : Nat} (Cx : CxN b S d mc ms p R s m args meth c D cy A) (hd1 : 1 ≤ d) (hl0 : ls[0]? = some (.val (.ref h))) (hls : ls.size = S.2.2.1) (hlink : Cond.methodLink S.1.cls idx Lib.objectInit ∈ TB) (hinst : Cond.instanceMethod Lib.objectInit ∈ TB) (hcode : Cond.code Lib.objectInit ⟨#[0xb1]⟩ 1 none ∈ TB) (d0 : decode S.2.1 0 = .ok (.aload_n 0, 1)) (d1 : decode S.2.1 1 = .ok (.invokespecial idx, 3))
    (kk : W p l e R s m args below meth c H locs cells slots Qf (F0 m 4 ls [])) : W p l e R s m args below meth c H locs cells slots Qf (F0 m 0 ls []) := by
  obtain ⟨hx, hb, hml, hr, hlocks, hown, hts, hA, hin, hNw, hK, hfr, hlo, hRc, hRs, hEx⟩ := Cx
  refine lv_aload_n hx hb d0 rfl hl0 ?_
  refine W.objInit hx hb hown (hts _ hlink) (hts _ hinst) (hts _ hcode) rfl (hls.trans hml.symm) rfl d1 (by omega) ?_ kk
  show 2 * 0 + 0 + 12 ≤ R.locals
  omega
/-- aload_0, a number, newarray, putfield of a final field -/
theorem N_fld {at_ : ArrayType} {t n pc2 idx j ci N h : Nat} {T : u_T} {ty : Nat → FieldType} {a0 : vp_A} {fs : List Value} (Cx : CxN b S d mc ms p R s m args meth c D cy A) (hcl : vwCl[ci]? = some (S.1.cls, T, N)) (hinT : ∀ w ∈ u_ws S.1.cls T N, w ∈ TB) (hty : ∀ k, k < N → parseFieldDescriptor (T k).2.2.1 = some (ty k)) (hnm : ∀ a, a < N → ∀ b, b < N → a ≠ b → (T a).2.1 ≠ (T b).2.1) (hlen : fs.length = N) (hl0 : ls[0]? = some (.val (.ref h)))
    (hj : j < N) (hlink : Cond.fieldLink S.1.cls idx (T j).1 (T j).2.1 (T j).2.2.1 ∈ TB) (hfin : (T j).2.2.2 = true) (hdecl : (T j).1 = S.1.cls) (hnar : ∀ q, narrow (ty j) (.ref q) = .ref q) (hfit : ∀ q, fits (ty j) (.ref q) = true)
    (ha : ∀ cA : ClassId, vp_cell cA a0 = arrV cA n (fun _ => defaultValue (newarray.typeOf at_))) (hat : newarray.typeOf at_ = tyT t) (ht : t ≤ 5) (harr : Cond.arrayClass (newarray.typeOf at_) ∈ TB) (hn : n ≤ 1000) (hbytes : n * componentBytes (newarray.typeOf at_) ≤ 536870912)
    (push : ∀ rest, W p l e R s m args below meth c H locs cells slots Qf (F0 m pc2 ls (.int (nI n) :: rest)) → W p l e R s m args below meth c H locs cells slots Qf (F0 m (pc + 1) ls rest))
    (d0 : decode S.2.1 pc = .ok (.aload_n 0, 1)) (d2 : decode S.2.1 pc2 = .ok (.newarray at_, 2)) (d3 : decode S.2.1 (pc2 + 2) = .ok (.putfield idx, 3))
    (hcells : cells + 1 ≤ mc) (hslots : slots + n ≤ ms) (hP : va_P D vwCl ((h, .inr (ci, fs)) :: wt) H) (hD : va_D A ((h, .inr (ci, fs)) :: wt)) (hS : va_S A s.heap H locs)
    (kk : ∀ q H1 locs1, va_P D vwCl ((h, .inr (ci, fs.set j (.ref q))) :: (wt ++ [(q, .inl (cy t, a0))])) H1 → va_D A ((h, .inr (ci, fs.set j (.ref q))) :: (wt ++ [(q, .inl (cy t, a0))])) → va_S A s.heap H1 locs1 → W p l e R s m args below meth c H1 locs1 (cells + 1) (slots + n) Qf (F0 m (pc2 + 5) ls [])) : W p l e R s m args below meth c H locs cells slots Qf (F0 m pc ls []) := by
  obtain ⟨hx, hb, hml, hr, hlocks, hown, hts, hA, hin, hNw, hK, hfr, hlo, hRc, hRs, hEx⟩ := Cx
  refine lv_aload_n hx hb d0 rfl hl0 (push _ ?_)
  refine N_newa (t := t) ha hat ht harr hx hb hts hK hP hD hS hA hn hbytes (by omega) (by omega) d2 (fun q H1 hP1 hD1 hS1 => ?_)
  exact va_putF (D := D) (ci := ci) (v := .ref q) (ty := ty j) hx hb hts hinT ty hty hnm hown hK hP1 hD1 hS1 0 rfl hcl j hj (hts _ hlink) (fun _ h9 => h9) hfin hin hdecl (hty j hj) (hnar q) (hfit q) (by omega) d3 (fun H2 locs2 hP2 hD2 hS2 => kk q H2 locs2 hP2 hD2 hS2)
/-- aload_0, iconst_m1, putfield -/
theorem N_m1 {idx j ci N h : Nat} {T : u_T} {ty : Nat → FieldType} {fs : List Value} (Cx : CxN b S d mc ms p R s m args meth c D cy A) (hcl : vwCl[ci]? = some (S.1.cls, T, N)) (hinT : ∀ w ∈ u_ws S.1.cls T N, w ∈ TB) (hty : ∀ k, k < N → parseFieldDescriptor (T k).2.2.1 = some (ty k)) (hnm : ∀ a, a < N → ∀ b, b < N → a ≠ b → (T a).2.1 ≠ (T b).2.1) (hlen : fs.length = N) (hl0 : ls[0]? = some (.val (.ref h)))
    (hj : j < N) (hlink : Cond.fieldLink S.1.cls idx (T j).1 (T j).2.1 (T j).2.2.1 ∈ TB) (hfin : (T j).2.2.2 = false) (htj : ty j = .int)
    (d0 : decode S.2.1 pc = .ok (.aload_n 0, 1)) (d1 : decode S.2.1 (pc + 1) = .ok (.iconst (-1), 1)) (d2 : decode S.2.1 (pc + 2) = .ok (.putfield idx, 3))
    (hP : va_P D vwCl ((h, .inr (ci, fs)) :: wt) H) (hD : va_D A ((h, .inr (ci, fs)) :: wt)) (hS : va_S A s.heap H locs)
    (kk : ∀ H1 locs1, va_P D vwCl ((h, .inr (ci, fs.set j (.int (-1)))) :: wt) H1 → va_D A ((h, .inr (ci, fs.set j (.int (-1)))) :: wt) → va_S A s.heap H1 locs1 → W p l e R s m args below meth c H1 locs1 cells slots Qf (F0 m (pc + 5) ls [])) : W p l e R s m args below meth c H locs cells slots Qf (F0 m pc ls []) := by
  obtain ⟨hx, hb, hml, hr, hlocks, hown, hts, hA, hin, hNw, hK, hfr, hlo, hRc, hRs, hEx⟩ := Cx
  refine lv_aload_n hx hb d0 rfl hl0 ?_
  refine lv_iconst (v := -1) hx hb d1 (by decide) ?_
  exact va_put (D := D) (ci := ci) (v := .int (-1)) (ty := ty j) hx hb hts hinT ty hty hnm hown hK hP hD hS 0 rfl hcl j hj (hts _ hlink) (fun _ h9 => h9) hfin (hty j hj) (by rw [htj]; rfl) (by rw [htj]; rfl) (by omega) d2 (fun H2 locs2 hP2 hD2 hS2 => kk H2 locs2 hP2 hD2 hS2)
/-- a constructor's call: what was new is its world -/
theorem W_ctor {μ : Mem} {b' : Bool} {S' : SR} {idx q ci k d' mc' ms' : Nat} {fs : List Value} {I : List KI} {own : String} {cc : ByteArray} {nL : Nat} {H0 : Heap} (hC : Ctor l μ b' S' d' mc' ms' ci k fs I) (hx : p.tables.exec = Jvm.exec) (hb : c.code = cc) (hml : c.maxLocals = nL) (hown : s.vm.findClass own = some m.cls) (hts : ∀ w ∈ TB, w.before args s = true) (hK : va_K D vwCl (tysOf cy) s) (hNw : NwOK s) (hEx : exA b' s) (hA : ∀ q : Nat, H0.size ≤ q → A q) (hcode : Jvm.Cond.code S'.1 S'.2.1 S'.2.2.1 none ∈ TB) (hini : Cond.initialized S'.1.cls ∈ TB) (hinst : Cond.instanceMethod S'.1 ∈ TB) (hname : S'.1.name = "<init>") (hd : S'.1.cls ≠ "java/lang/invoke/MethodHandle" ∧ S'.1.cls ≠ "java/lang/invoke/VarHandle" ∧ (parseMethodDescriptor S'.1.desc).map (fun d => d.parameters.length) = some 0) (h21 : S'.2.2.1 ≤ 21) (hlink : (Cond.methodLink own idx S'.1).before args s = true ∨ ∃ host, (own, idx, S'.1, host) ∈ NWm) (hfr : d' + 1 ≤ R.frames) (hlo : 40 * (d' + 1) ≤ R.locals) (hcells : cells + mc' ≤ R.cells) (hslots : slots + ms' ≤ R.slots) (hdg : decode cc pc = .ok (.invokespecial idx, 3)) (hls : ls.size = nL) (hr8 : (rest.map fun v => v.category).sum ≤ 8)
    (hP : va_P D vwCl (ws ++ [(q, .inr (ci, fs))]) H) (hD : va_D A (ws ++ [(q, .inr (ci, fs))])) (hS : va_S A H0 H locs)
    (kk : ∀ (ρ : Nat → Nat → Nat) (H1 : Heap) (locs1 : List Loc), ρ k 0 = q → va_P D vwCl (ws ++ wl kS cy ρ I μ) H1 → va_D A (ws ++ wl kS cy ρ I μ) → va_S A H0 H1 locs1 → W p l e R s m args below meth c H1 locs1 (cells + mc') (slots + ms') Qf (F0 m (pc + 3) ls rest)) : W p l e R s m args below meth c H locs cells slots Qf (F0 m pc ls (.ref q :: rest)) := by
  have hroom : (rmC d' mc' ms').frames + 1 ≤ R.frames ∧ 8 + (S'.2.2.1 + 11) + (rmC d' mc' ms').locals ≤ R.locals := by
    show d' + 1 ≤ R.frames ∧ 8 + (S'.2.2.1 + 11) + 40 * d' ≤ R.locals
    omega
  have hPq := (vP_app.mp hP).2
  have hPw := (vP_app.mp hP).1
  have hDq : va_D A [(q, .inr (ci, fs))] := by
    rw [vD_iff] at hD ⊢
    rw [List.map_append, List.nodup_append] at hD
    exact ⟨hD.1.2.1, fun x hx => hD.2 x (List.mem_append_right _ hx)⟩
  have hMet := hC D cy q H.size
  have blind : FrameBlind (va_Pc [.ref q] (CP b' ci fs D cy H.size q)) := by
    intro a U g mk z
    obtain ⟨q0, q1, qP, qK, qD, qN, qE⟩ := z
    exact ⟨q0, q1, qP, va_K.moved (u := U) (U := U.calling g mk a) (Vm.Alike.refl U.vm) qK, qD, qN.same rfl, exA.moved (u := U) (U := U.calling g mk a) (Vm.Alike.refl U.vm) qE⟩
  have pre : PreS s H (va_Pc [.ref q] (CP b' ci fs D cy H.size q)) [.ref q] := ⟨blind, fun U hU hW => ⟨rfl, by rw [hU], by rw [hU]; exact hPq, va_K.moved hW.alike hK, hDq.weaken (fun _ _ _ _ => trivial), hNw.warm hW, hEx.moved hW.alike⟩⟩
  have hGood : GoodIn TB (Jvm.Cond.code S'.1 S'.2.1 S'.2.2.1 none :: TB) := by
    intro w hw
    rcases List.mem_cons.mp hw with rfl | hw
    · exact tb_good _ hcode
    · exact tb_good _ hw
  have run : va_Run p l e R s m args below meth c H locs cells slots mc' ms' (F0 m pc ls (.ref q :: rest)) rest (CQ μ I k D cy q (va_A [(q, .inr (ci, fs))] H.size) (Value.ref q :: []).toArray) (va_A [(q, .inr (ci, fs))] H.size) := by
    rcases hlink with hlink | ⟨host, hlink⟩
    · exact va_runI (As := []) (rest := rest) (b := q) (Ts := TB) (own := own) (index := idx) (n := 0) (g := F0 m pc ls (.ref q :: rest)) ⟨hx, hb, hml, hown, hts⟩ hMet ⟨callB_of 0 hts hGood rfl rfl rfl (hts _ hini) hlink hd hroom, hname, hts _ hinst⟩ pre rfl rfl hls rfl (lv_room hr8) hdg ⟨hcells, hslots⟩
    · exact va_runIN (As := []) (rest := rest) (b := q) (Ts := TB) (own := own) (index := idx) (host := host) (n := 0) (g := F0 m pc ls (.ref q :: rest)) ⟨hx, hb, hml, hown, hts⟩ hMet ⟨va_cnB 0 hts hGood rfl rfl rfl (hNw.2 _ hlink) (hts _ hini) hd hroom, hname, hts _ hinst⟩ pre rfl rfl hls rfl (lv_room hr8) hdg ⟨hcells, hslots⟩
  have hFc : ∀ x, va_A [(q, .inr (ci, fs))] H.size x → A x := by
    intro x h
    rcases h with ⟨k, e, h⟩ | h
    · exact (vD_iff.mp hDq).2 _ (List.mem_of_getElem? h)
    · exact hA x (Nat.le_trans hS.1 h)
  have hap : ∀ x ∈ ws, x.1 < H.size ∧ ¬ va_A [(q, .inr (ci, fs))] H.size x.1 := by
    intro x hx'
    have hl := (vP_iff.mp hPw x hx').lt
    refine ⟨hl, fun h => ?_⟩
    rcases h with ⟨k, e, h⟩ | h
    · have hn := (vD_iff.mp hD).1
      rw [List.map_append, List.nodup_append] at hn
      exact hn.2.2 _ (List.mem_map.mpr ⟨x, hx', rfl⟩) _ (List.mem_map.mpr ⟨_, List.mem_of_getElem? h, rfl⟩) rfl
    · omega
  intro T hT X
  obtain ⟨v, st₀, t, T', L, h0, X', hL, e1, e2, ⟨⟨r, hv, hrk, hP1, hD1⟩, hz, hkp⟩, stp⟩ := run T hT X
  cases hv
  rw [h0] at hz hkp
  have hS1 : va_S A H0 T'.heap (locs ++ L) := ⟨Nat.le_trans hS.1 (by rw [e1]; exact hz), fun x g1 g2 => by
      rw [e1, hkp x (Nat.lt_of_lt_of_le g1 hS.1) (fun z => g2 (hFc x z))]; exact hS.2.1 x g1 g2, fun x hq2 => by
      rcases List.mem_append.mp hq2 with h | h
      · exact hS.2.2 x h
      · exact hFc _ (hL x h)⟩
  have hPw1 : va_P D vwCl ws T'.heap := vP_iff.mpr (fun x hx' => (vP_iff.mp hPw x hx').kept (by
    obtain ⟨g1, g2⟩ := hap x hx'
    rw [e1]
    exact hkp x.1 g1 g2))
  have hDn : va_D A (ws ++ wl kS cy r I μ) := by
    rw [vD_iff] at hD hD1 ⊢
    rw [List.map_append, List.nodup_append] at hD ⊢
    refine ⟨⟨hD.1.1, hD1.1, fun a ha b hb' e => ?_⟩, fun x hx' => ?_⟩
    · obtain ⟨x, hx', rfl⟩ := List.mem_map.mp ha
      obtain ⟨y, hy, rfl⟩ := List.mem_map.mp hb'
      exact (hap x hx').2 (by rw [e]; exact hD1.2 y hy)
    · rcases List.mem_append.mp hx' with h | h
      · exact hD.2 x (List.mem_append_left _ h)
      · exact hFc _ (hD1.2 x h)
  obtain ⟨t2, a1, b1⟩ := kk r T'.heap (locs ++ L) hrk (vP_app.mpr ⟨hPw1, by rw [e1]; exact hP1⟩) hDn hS1 T' rfl X'
  exact ⟨t2, stp t2 a1, b1⟩
end Ctors
