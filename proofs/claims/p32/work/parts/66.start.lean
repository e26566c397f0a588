/-! THE CLAIM OUT OF ONE WALK OF THE LAW'S BODY. Your part is whole_start (and what it stands on); all else here is the same for every law, but numbers. -/
def R_law : String := "TownFolkLaw"
def lw_P (b : Addr) (xs : List Int32) (args : Array Value) (s : State) : Prop := args = #[.ref b] ∧ s.IntsAt b xs ∧ xs.length ≤ 260 ∧ (Jvm.Cond.and given_1 narrow_1).before args s = true
def lw_Q (_ : Array Value) (s : State) (o : Outcome) (t : State) : Prop := o = .returned (some (.int 1)) ∧ Framed s o t [] 600000 7302250
def lw_Z (below : List Frame) (a : Array Value) (s : State) : State → Prop := fun t => ∃ o, t.status = .running ∧ Ended t below o ∧ lw_Q a s o t
/-- the law's own end, with 1 on the stack, nothing written that was there before, its room as the claim has it -/
theorem lw_ret {p : Program} {l : Launch} {e : Env} {s : State} {m : MethodId} {below : List Frame} {meth : Method} {c : Code} {b : Nat} (hx : p.tables.exec = Jvm.exec) (hb : c.code = code) (hr : meth.sig.returnType = ret) (hlocks : meth.locks = false) {pc : Nat} {H : Heap} {ls : Array Slot} (hdg : decode code pc = .ok (.ireturn, 1)) : W p l e room_1 s m #[Value.ref b] below meth c H [] 600000 7302250 (lw_Z below #[Value.ref b] s) (F0 m pc ls [.int 1]) := by
  intro T hT X
  obtain ⟨fs, hret, hrun, hended, hW, hframe⟩ := X.leave (v := some (.int 1)) (hlocks := hlocks) (fun h => by rw [hr] at h; cases h)
  have hmeth' : T.vm.method? m = some meth := X.method'
  refine ⟨T.setFrames fs, ?_, .returned (some (.int 1)), hrun, hended, rfl, ⟨_, rfl⟩, hW, hframe⟩
  jvm_step X.here [X.here.top, hx, hb, hdg, hmeth', hr, ret, narrow_b1]
  (try refine ⟨rfl, ?_⟩); (try refine ⟨rfl, ?_⟩)
  first | (intro acts; rw [hret _ acts rfl rfl rfl]) | rw [hret _ _ rfl rfl rfl]
  exact Steps.refl _
/-- what holds at the law's entry: the machine, the code, the tables' words (any of lw_tbl by 'hts w (by decide +kernel)'), the script of L ints xs at the cell b, what the Statement gives of the start (any of its parts by flat_of_before) -/
def lw_At (p : Program) (s : State) (m : MethodId) (meth : Method) (c : Code) (b L : Nat) (xs : Nat → Int32) : Prop :=
  p.tables.exec = Jvm.exec ∧ c.code = code ∧ meth.sig.returnType = ret ∧ c.maxLocals = 13 ∧ s.vm.findClass R_law = some m.cls ∧ (∀ w ∈ lw_tbl, w.before #[Value.ref b] s = true) ∧ va_X b L xs s s.heap ∧ b < s.heap.size ∧ meth.locks = false ∧ (Jvm.Cond.and given_1 narrow_1).before #[Value.ref b] s = true
def AL (s : State) : Nat → Prop := fun q => s.heap.size ≤ q
set_option maxHeartbeats 4000000 in
set_option maxRecDepth 20000 in
/-- the law's call of build() -/
theorem W_build {p : Program} {l : Launch} {e : Env} {s : State} {m : MethodId} {below : List Frame} {meth : Method} {c : Code} {Qf : State → Prop} {D : va_G} {cy : Nat → ClassId} {b L : Nat} {xs : Nat → Int32} {ls : Array Slot} (hL : L ≤ 260) (C0 : lw_At p s m meth c b L xs) (hK : va_K D vwCl (tysOf cy) s) (hNw : NwOK s) (hEx : exA true s) (hls : ls.size = 13)
    (kk : ∀ (ρ : Nat → Nat → Nat) (σ : Mem) (P1 F1 : Nat) (H1 : Heap) (locs1 : List Loc), 0 < P1 → P1 ≤ 12 → 0 < F1 → F1 ≤ 4 → Inv (kA P1 F1) σ → va_P D vwCl (wl kS cy ρ IX σ) H1 → va_D (AL s) (wl kS cy ρ IX σ) → va_S (AL s) s.heap H1 locs1 → W p l e room_1 s m #[Value.ref b] below meth c H1 locs1 147 6099 Qf (F0 m 4 ls [.ref (ρ 0 0)])) : W p l e room_1 s m #[Value.ref b] below meth c s.heap [] 0 0 Qf (F0 m 1 ls [.ref b]) := by
  obtain ⟨hx, hb, hr, hml, hown, hts, hX, hbl, hlocks, hgv⟩ := id C0
  have hT := tb_hts hts
  have hS : va_S (AL s) s.heap s.heap [] := va_S.rf
  have blind : FrameBlind (va_Pc [.ref b] (BP b L xs D cy s.heap.size)) := by
    intro a U g mk q
    obtain ⟨q0, q1, q2, q3, qK, qN, qE⟩ := q
    exact ⟨q0, q1, va_X.moved (u := U) (U := U.calling g mk a) (Vm.Alike.refl U.vm) q2, q3, va_K.moved (u := U) (U := U.calling g mk a) (Vm.Alike.refl U.vm) qK, qN.same rfl, exA.moved (u := U) (U := U.calling g mk a) (Vm.Alike.refl U.vm) qE⟩
  have pre : PreS s s.heap (va_Pc [.ref b] (BP b L xs D cy s.heap.size)) [.ref b] := ⟨blind, fun U hU hW => ⟨rfl, by rw [hU], by rw [hU]; exact va_X.moved hW.alike hX, by rw [hU]; exact hbl, va_K.moved hW.alike hK, hNw.warm hW, hEx.moved hW.alike⟩⟩
  have hGood : GoodIn TB (Jvm.Cond.code yL_build cL_build 7 (some (.object "TownFolk")) :: TB) := by
    intro w hw
    rcases List.mem_cons.mp hw with rfl | hw
    · exact tb_good _ (tb_1 51 (by decide +kernel) (by decide +kernel))
    · exact tb_good _ hw
  have run := va_runS (p := p) (l := l) (R := room_1) (s := s) (m := m) (c := c) (cc := code) (nL := 13) (As := [.ref b]) (rest := []) (Ts := TB) (own := "TownFolkLaw") (index := 78) (n := 1) (g := F0 m 1 ls [.ref b]) (locs := []) (cells := 0) (slots := 0) (H := s.heap) (args := #[Value.ref b]) (below := below) (meth := meth) (e := e) ⟨hx, hb, hml, hown, hT⟩ (build_met l D cy b L xs s.heap.size hL)
    ⟨callB_of 1 hT hGood rfl rfl rfl (hT _ (tb_1 0 (by decide +kernel) (by decide +kernel))) (hT _ (tb_1 49 (by decide +kernel) (by decide +kernel))) (by decide +kernel) ⟨Nat.le_of_ble_eq_true rfl, Nat.le_of_ble_eq_true rfl⟩, hT _ (tb_1 50 (by decide +kernel) (by decide +kernel))⟩
    pre rfl rfl hls rfl (lv_room (by decide)) (Mok_L_law.1 1 (.invokestatic 78, 3) rfl) ⟨Nat.le_of_ble_eq_true rfl, Nat.le_of_ble_eq_true rfl⟩
  intro T hT' X
  obtain ⟨v, st₀, t, T', L', h0, X', hL', e1, e2, ⟨⟨ρ, σ, P1, F1, hv, ⟨g1, g2, g3, g4, hI⟩, hP1, hD1⟩, hz, hkp⟩, stp⟩ := run T hT' X
  cases hv
  rw [h0] at hz hkp
  have hS1 : va_S (AL s) s.heap T'.heap ([] ++ L') := ⟨by rw [e1]; exact hz, fun q h1 h2 => by rw [e1]; exact hkp q h1 h2, fun q hq2 => hL' q (by simpa using hq2)⟩
  obtain ⟨t2, a1, b1⟩ := kk ρ σ P1 F1 T'.heap ([] ++ L') g1 g2 g3 g4 hI (by rw [e1]; exact hP1) hD1 hS1 T' rfl X'
  exact ⟨t2, stp t2 a1, b1⟩
theorem end_Z {below : List Frame} {s : State} {b cells slots : Nat} {D : va_G} {cy : Nat → ClassId} {ρ : Nat → Nat → Nat} (h1 : cells ≤ 600000) (h2 : slots ≤ 7302250) : ∀ t, MQ below (QQ IY D cy ρ (AL s) Q1) #[Value.ref b] s cells slots (AL s) t → lw_Z below #[Value.ref b] s t := by
  rintro t ⟨o, hr, he, ⟨⟨v, σ', ho, hv, -⟩, -⟩, L, ⟨hret, hW, hsame⟩, hL⟩
  have hv : v = some (ai 1) := hv
  subst hv
  refine ⟨o, hr, he, ho, hret, hW, hsame.weaken (fun y hy hlt => absurd hlt (Nat.not_lt.mpr (hL y hy))) h1 h2⟩
set_option maxHeartbeats 4000000 in
set_option maxRecDepth 20000 in
/-- the law, from its entry, for every script of at most 260 ints -/
theorem whole_start {p : Program} {e : Env} {s : State} {m : MethodId} {below : List Frame} {meth : Method} {c : Code} (l : Launch) (hflags : l.flags = flags0) {b L : Nat} {xs : Nat → Int32} (hL : L ≤ 260) (C0 : lw_At p s m meth c b L xs) : W p l e room_1 s m #[Value.ref b] below meth c s.heap [] 0 0 (lw_Z below #[Value.ref b] s) (entryFrame m ([Value.ref b] : List Value).toArray 13) := by
  obtain ⟨hx, hb, hr, hml, hown, hts, hX, hbl, hlocks, hgv⟩ := id C0
  have hT := tb_hts hts
  obtain ⟨cc0, ci0, kn0⟩ := u_known (C := RX0) (T := TX0) (N := 2) (n := 2) hT inX0 (hT _ (tb_1 131 (by decide +kernel) (by decide +kernel)))
  obtain ⟨cc1, ci1, kn1⟩ := u_known (C := RX1) (T := TX1) (N := 8) (n := 8) hT inX1 (hT _ (tb_1 233 (by decide +kernel) (by decide +kernel)))
  obtain ⟨cc2, ci2, kn2⟩ := u_known (C := RX2) (T := TX2) (N := 5) (n := 5) hT inX2 (hT _ (tb_1 109 (by decide +kernel) (by decide +kernel)))
  obtain ⟨cc3, ci3, kn3⟩ := u_known (C := RX3) (T := TX3) (N := 14) (n := 14) hT inX3 (hT _ (tb_1 166 (by decide +kernel) (by decide +kernel)))
  obtain ⟨cc4, ci4, kn4⟩ := u_known (C := RX4) (T := TX4) (N := 1) (n := 1) hT inX4 (hT _ (tb_1 99 (by decide +kernel) (by decide +kernel)))
  obtain ⟨cc5, ci5, kn5⟩ := u_known (C := RX5) (T := TX5) (N := 4) (n := 4) hT inX5 (hT _ (tb_1 144 (by decide +kernel) (by decide +kernel)))
  obtain ⟨cc6, ci6, kn6⟩ := u_known (C := RX6) (T := TX6) (N := 7) (n := 7) hT inX6 (hT _ (tb_1 60 (by decide +kernel) (by decide +kernel)))
  obtain ⟨cc7, ci7, kn7⟩ := u_known (C := RX7) (T := TX7) (N := 17) (n := 17) hT inX7 (hT _ (tb_1 19 (by decide +kernel) (by decide +kernel)))
  obtain ⟨dC, dI, hKc⟩ : ∃ (dC : Nat → ClassId) (dI : Nat → Nat → Nat), ∀ (k : Nat) (q : vw_C), vwCl[k]? = some q → u_Kn s q.1 q.2.1 q.2.2 (dC k) (dI k) := by
    refine ⟨fun k => if k = 0 then cc0 else if k = 1 then cc1 else if k = 2 then cc2 else if k = 3 then cc3 else if k = 4 then cc4 else if k = 5 then cc5 else if k = 6 then cc6 else cc7, fun k => if k = 0 then ci0 else if k = 1 then ci1 else if k = 2 then ci2 else if k = 3 then ci3 else if k = 4 then ci4 else if k = 5 then ci5 else if k = 6 then ci6 else ci7, ?_⟩
    intro k q hq
    match k, hq with
    | 0, hq => cases hq; exact kn0
    | 1, hq => cases hq; exact kn1
    | 2, hq => cases hq; exact kn2
    | 3, hq => cases hq; exact kn3
    | 4, hq => cases hq; exact kn4
    | 5, hq => cases hq; exact kn5
    | 6, hq => cases hq; exact kn6
    | 7, hq => cases hq; exact kn7
    | k + 8, hq => simp [vwCl] at hq
  obtain ⟨a0, k0, p0, f0, g0, j0⟩ := Cond.arrayClass_spec (hT (.arrayClass .int) (tb_1 91 (by decide +kernel) (by decide +kernel)))
  obtain ⟨a1, k1, p1, f1, g1, j1⟩ := Cond.arrayClass_spec (hT (.arrayClass .long) (tb_1 165 (by decide +kernel) (by decide +kernel)))
  have ao3 : va_AO "TownFolk$Shelf" s := va_AO.of (hts _ (lt_1 93 (by decide +kernel)))
  have ao4 : va_AO "TownFolk$Resident" s := va_AO.of (hts _ (lt_1 95 (by decide +kernel)))
  have ao5 : va_AO "TownFolk$Gathering" s := va_AO.of (hts _ (lt_1 97 (by decide +kernel)))
  obtain ⟨p3, a3, k3, f3, _, g3, j3, i3⟩ := Cond.arrayOver_spec ao3
  obtain ⟨p4, a4, k4, f4, _, g4, j4, i4⟩ := Cond.arrayOver_spec ao4
  obtain ⟨p5, a5, k5, f5, _, g5, j5, i5⟩ := Cond.arrayOver_spec ao5
  obtain ⟨cy, hcy⟩ : ∃ cy : Nat → ClassId, cy = fun t => if t = 0 then a0 else if t = 1 then a1 else if t = 2 then a0 else if t = 3 then a3 else if t = 4 then a4 else a5 := ⟨_, rfl⟩
  have hK : va_K (dC, dI) vwCl (tysOf cy) s := by
    refine ⟨hKc, fun k q hq => ?_⟩
    rw [hcy] at hq
    match k, hq with
    | 0, hq => cases hq; exact ⟨fun n z => ⟨fun k h => (by cases h), k0, g0, p0, j0⟩, f0⟩
    | 1, hq => cases hq; exact ⟨fun n z => ⟨fun k h => (by cases h), k1, g1, p1, j1⟩, f1⟩
    | 2, hq => cases hq; exact ⟨fun n z => ⟨fun k h => (by cases h), k0, g0, p0, j0⟩, f0⟩
    | 3, hq => cases hq; exact ⟨fun n z => ⟨fun k h => (by cases h), k3, g3, p3, j3⟩, k3, p3, g3, j3, f3, i3⟩
    | 4, hq => cases hq; exact ⟨fun n z => ⟨fun k h => (by cases h), k4, g4, p4, j4⟩, k4, p4, g4, j4, f4, i4⟩
    | 5, hq => cases hq; exact ⟨fun n z => ⟨fun k h => (by cases h), k5, g5, p5, j5⟩, k5, p5, g5, j5, f5, i5⟩
    | k + 6, hq => simp [tysOf] at hq
  have hNw : NwOK s := ⟨fun q hq => va_Nw.of rfl (hts _ (nwf_in q hq)), fun q hq => va_Nw.of rfl (hts _ (nwm_in q hq))⟩
  have hA : ∀ q : Nat, s.heap.size ≤ q → AL s q := fun q h => h
  have hl := lv_entry ([.ref b]) (n := 13) (Nat.le_of_ble_eq_true rfl)
  rw [lg_entry_eq]
  generalize (lg_sl ([.ref b]) ++ List.replicate (13 - (lg_sl ([.ref b])).length) Slot.unset).toArray = ls at hl ⊢
  have hl : lv_has ls 13 [(0, .ref b)] := hl
  refine lv_aload_n hx hb (Mok_L_law.1 0 (.aload_n 0, 1) rfl) rfl (lv_at hl 0 rfl) ?_
  refine W_build hL C0 hK hNw (fun _ => ⟨ao3, ao4, ao5⟩) hl.1 (fun ρ1 σ P1 F1 H locs hP0 hP1 hF0 hF1 hI hP hD hS => ?_)
  obtain ⟨P', F', N', B', ⟨e1, e2⟩, xP, _, xF, _, _, _⟩ := Inv_num hI
  subst e1 e2
  refine lv_astore_n (lv' := [(1, .ref (ρ1 0 0)), (0, .ref b)]) hx hb (Mok_L_law.1 4 (.astore_n 1, 1) rfl) rfl hl (by decide) rfl (fun ls hl => ?_)
  refine lv_aload_n hx hb (Mok_L_law.1 5 (.aload_n 1, 1) rfl) rfl (lv_at hl 0 rfl) ?_
  refine lv_iconst (v := 0) hx hb (Mok_L_law.1 6 (.iconst 0, 1) rfl) (by decide) ?_
  refine W_virt (I := IX) (σ := σ) (ρ := ρ1) (k := 0) (i := 0) (as := [ai 0]) (d := 7) (wr := []) (rest := []) offX Sok_X7_status rfl hx hb hml hown hT (hT _ (tb_1 24 (by decide +kernel) (by decide +kernel))) hK hNw (Nat.le_of_ble_eq_true rfl) (Nat.le_of_ble_eq_true rfl) (Nat.le_of_ble_eq_true rfl) (Nat.le_of_ble_eq_true rfl) (by decide) rfl (by intro v hv; rcases List.mem_cons.mp hv with rfl | hv; trivial; cases hv) rfl (Mok_L_law.1 7 (.invokevirtual 55, 3) rfl) hl.1 (by decide) (c_st0 (d := 5) (K := fun x s => x = σ.1 1 0 5 ∧ s = σ) ⟨rfl, rfl⟩) hP (fun k q h => by simp at h) (by rw [List.append_nil]; exact hD) hS hA (fun v σ1 H locs hq hP _ hS => ?_)
  obtain ⟨x, hv, hx1, hs1⟩ := hq
  rw [hs1] at hP
  subst hv
  subst hx1
  refine W.eq (g2 := F0 m 10 ls [.int (nI P')]) (by rw [xP]; rfl) ?_
  refine lv_istore_n (lv' := [(2, .int (nI P')), (1, .ref (ρ1 0 0)), (0, .ref b)]) hx hb (Mok_L_law.1 10 (.istore_n 2, 1) rfl) rfl hl (by decide) rfl (fun ls hl => ?_)
  refine lv_sipush (v := nI 192) hx hb (Mok_L_law.1 11 (.sipush 192, 3) rfl) (by decide) ?_
  refine N_newa (at_ := .long) (t := 1) (n := 192) (a0 := (192, .inr (.inl (fun _ => 0)))) (fun _ => rfl) rfl (by decide) (tb_1 165 (by decide +kernel) (by decide +kernel)) hx hb hT hK hP hD hS hA (by decide) (Nat.le_of_ble_eq_true rfl) (Nat.le_of_ble_eq_true rfl) (Nat.le_of_ble_eq_true rfl) (Mok_L_law.1 14 (.newarray .long, 2) rfl) (fun q H hP hD hS => ?_)
  refine lv_astore_n (lv' := [(3, .ref q), (2, .int (nI P')), (1, .ref (ρ1 0 0)), (0, .ref b)]) hx hb (Mok_L_law.1 16 (.astore_n 3, 1) rfl) rfl hl (by decide) rfl (fun ls hl => ?_)
  obtain ⟨ρ, hρ⟩ : ∃ ρ : Nat → Nat → Nat, ρ = fun k i => bif Nat.beq k 29 then b else bif Nat.beq k 62 then q else ρ1 k i := ⟨_, rfl⟩
  obtain ⟨τ, hτ⟩ : ∃ τ : Mem, τ = (σ.1, fun k i j => bif Nat.beq k 62 then 0 else σ.2 k i j) := ⟨_, rfl⟩
  have ew : wl kS cy ρ IY τ = wl kS cy ρ1 IX σ ++ [(q, .inl (cy 1, 192, .inr (.inl (fun _ => 0))))] := by
    have e62 : kS 62 = .inr (1, 192, 0) := by decide
    rw [wl_Y, ent_a1 e62, hρ, hτ, wl_q]
    rfl
  rw [← ew] at hP hD
  have r29 : ρ 29 0 = b := by rw [hρ]; rfl
  have r0 : ρ 0 0 = ρ1 0 0 := by rw [hρ]; rfl
  have r62 : ρ 62 0 = q := by rw [hρ]; rfl
  have hIt : Inv (kA P' F') τ := Inv_c (σ := σ) (by subst hτ; rfl) (by subst hτ; rfl) hI
  have hSC : SC ρ (AL s) s := ⟨L, xs, hL, by rw [r29]; exact hX, by rw [r29]; exact hbl, by rw [r29]; exact Nat.not_le.mpr hbl⟩
  have hl2 : lv_has ls 13 (toL ρ [(0, ar 29 0), (1, ar 0 0), (2, ai (nI P')), (3, ar 62 0)]) := by
    show lv_has ls 13 [(0, .ref (ρ 29 0)), (1, .ref (ρ 0 0)), (2, .int (nI P')), (3, .ref (ρ 62 0))]
    rw [r29, r0, r62]
    exact lv_sub hl [3, 2, 1, 0] rfl
  have J0 := l_all hP0 hF0 hF1 hIt offY p l e room_1 s m #[Value.ref b] below meth c (dC, dI) cy ρ (AL s) 148 6291 H locs ls ⟨hx, hb, hml, hr, hlocks, hown, hT, hA, Nat.le_of_ble_eq_true rfl, Nat.le_of_ble_eq_true rfl, hNw, hK, fun _ => hSC⟩ (Nat.le_of_ble_eq_true rfl) (Nat.le_of_ble_eq_true rfl) hP hD hS hl2 (by
    intro q hq
    rcases List.mem_cons.mp hq with rfl | hq
    · exact Or.inr rfl
    · rcases List.mem_cons.mp hq with rfl | hq
      · exact Or.inl (by decide)
      · rcases List.mem_cons.mp hq with rfl | hq
        · trivial
        · rcases List.mem_cons.mp hq with rfl | hq
          · exact Or.inl (by decide)
          · cases hq) (fun _ h => by cases h)
  exact W_mono (end_Z (Nat.le_of_ble_eq_true rfl) (Nat.le_of_ble_eq_true rfl)) J0
