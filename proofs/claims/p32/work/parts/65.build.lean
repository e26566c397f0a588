theorem lt_1 {w : Cond} (i : Nat) (h : tables_1_1[i]? = some w) : w ∈ lw_tbl := List.mem_append_right _ (List.mem_append_left _ (List.mem_of_getElem? h) : w ∈ tables_1)
theorem lt_2 {w : Cond} (i : Nat) (h : tables_1_2[i]? = some w) : w ∈ lw_tbl := List.mem_append_right _ (List.mem_append_right _ (List.mem_append_left _ (List.mem_of_getElem? h)) : w ∈ tables_1)
theorem lt_3 {w : Cond} (i : Nat) (h : tables_1_3[i]? = some w) : w ∈ lw_tbl := List.mem_append_right _ (List.mem_append_right _ (List.mem_append_right _ (List.mem_of_getElem? h)) : w ∈ tables_1)
theorem nwf_in : ∀ q ∈ NWf, Cond.fieldLinkNest q.1 q.2.1 q.2.2.1 q.2.2.2.1 q.2.2.2.2.1 q.2.2.2.2.2 ∈ lw_tbl := List.forall_mem_cons.mpr ⟨lt_1 66 (by decide +kernel), List.forall_mem_cons.mpr ⟨lt_1 72 (by decide +kernel), List.forall_mem_cons.mpr ⟨lt_1 73 (by decide +kernel), List.forall_mem_cons.mpr ⟨lt_1 74 (by decide +kernel), List.forall_mem_cons.mpr ⟨lt_1 137 (by decide +kernel), List.forall_mem_cons.mpr ⟨lt_1 152 (by decide +kernel), List.forall_mem_cons.mpr ⟨lt_1 153 (by decide +kernel), List.forall_mem_cons.mpr ⟨lt_1 155 (by decide +kernel), List.forall_mem_cons.mpr ⟨lt_1 175 (by decide +kernel), List.forall_mem_cons.mpr ⟨lt_1 177 (by decide +kernel), List.forall_mem_cons.mpr ⟨lt_1 179 (by decide +kernel), List.forall_mem_cons.mpr ⟨lt_1 180 (by decide +kernel), List.forall_mem_cons.mpr ⟨lt_1 181 (by decide +kernel), List.forall_mem_cons.mpr ⟨lt_1 183 (by decide +kernel), List.forall_mem_cons.mpr ⟨lt_1 184 (by decide +kernel), List.forall_mem_cons.mpr ⟨lt_1 187 (by decide +kernel), List.forall_mem_cons.mpr ⟨lt_1 189 (by decide +kernel), List.forall_mem_cons.mpr ⟨lt_1 190 (by decide +kernel), List.forall_mem_cons.mpr ⟨lt_1 192 (by decide +kernel), List.forall_mem_cons.mpr ⟨lt_1 194 (by decide +kernel), List.forall_mem_cons.mpr ⟨lt_1 196 (by decide +kernel), List.forall_mem_cons.mpr ⟨lt_1 198 (by decide +kernel), List.forall_mem_cons.mpr ⟨lt_1 199 (by decide +kernel), List.forall_mem_cons.mpr ⟨lt_1 201 (by decide +kernel), List.forall_mem_cons.mpr ⟨lt_1 203 (by decide +kernel), List.forall_mem_cons.mpr ⟨lt_2 0 (by decide +kernel), List.forall_mem_cons.mpr ⟨lt_2 2 (by decide +kernel), List.forall_mem_cons.mpr ⟨lt_2 4 (by decide +kernel), List.forall_mem_cons.mpr ⟨lt_2 6 (by decide +kernel), fun _ h => absurd h List.not_mem_nil⟩⟩⟩⟩⟩⟩⟩⟩⟩⟩⟩⟩⟩⟩⟩⟩⟩⟩⟩⟩⟩⟩⟩⟩⟩⟩⟩⟩⟩
theorem nwm_in : ∀ q ∈ NWm, Cond.methodLinkNest q.1 q.2.1 q.2.2.1 q.2.2.2 ∈ lw_tbl := List.forall_mem_cons.mpr ⟨lt_1 61 (by decide +kernel), List.forall_mem_cons.mpr ⟨lt_1 100 (by decide +kernel), List.forall_mem_cons.mpr ⟨lt_1 110 (by decide +kernel), List.forall_mem_cons.mpr ⟨lt_1 132 (by decide +kernel), List.forall_mem_cons.mpr ⟨lt_1 145 (by decide +kernel), List.forall_mem_cons.mpr ⟨lt_1 234 (by decide +kernel), List.forall_mem_cons.mpr ⟨lt_2 192 (by decide +kernel), List.forall_mem_cons.mpr ⟨lt_2 193 (by decide +kernel), List.forall_mem_cons.mpr ⟨lt_3 21 (by decide +kernel), fun _ h => absurd h List.not_mem_nil⟩⟩⟩⟩⟩⟩⟩⟩⟩
set_option maxRecDepth 100000 in
theorem wl_b {cy : Nat → ClassId} {ρ : Nat → Nat → Nat} {b : Nat} : wl kS cy (fun k i => bif Nat.beq k 29 then b else ρ k i) IX mem0X = wl kS cy ρ IX mem0X := rfl
set_option maxRecDepth 100000 in
theorem wl_q {cy : Nat → ClassId} {ρ : Nat → Nat → Nat} {σ : Mem} {b q : Nat} : wl kS cy (fun k i => bif Nat.beq k 29 then b else bif Nat.beq k 62 then q else ρ k i) IX (σ.1, fun k i j => bif Nat.beq k 62 then 0 else σ.2 k i j) = wl kS cy ρ IX σ := rfl
def BQ (D : va_G) (cy : Nat → ClassId) (A : Nat → Prop) : Array Value → State → Outcome → State → Prop := fun _ st oc t => (∃ (ρ : Nat → Nat → Nat) (σ : Mem) (P1 F1 : Nat), oc = .returned (some (.ref (ρ 0 0))) ∧ (0 < P1 ∧ P1 ≤ 12 ∧ 0 < F1 ∧ F1 ≤ 4 ∧ Inv (kA P1 F1) σ) ∧ va_P D vwCl (wl kS cy ρ IX σ) t.heap ∧ va_D A (wl kS cy ρ IX σ)) ∧ va_F A st t
def BP (b L : Nat) (xs : Nat → Int32) (D : va_G) (cy : Nat → ClassId) (sz : Nat) (U : State) : Prop := U.heap.size = sz ∧ va_X b L xs U U.heap ∧ b < U.heap.size ∧ va_K D vwCl (tysOf cy) U ∧ NwOK U ∧ exA true U
set_option maxHeartbeats 4000000 in
set_option maxRecDepth 20000 in
/-- build(script): a town of its own -/
theorem build_met (l : Launch) (D : va_G) (cy : Nat → ClassId) (b L : Nat) (xs : Nat → Int32) (sz : Nat) (hL : L ≤ 260) : Met l yL_build (Jvm.Cond.code yL_build cL_build 7 (some (.object "TownFolk")) :: TB) (rmC 8 147 6099) (va_Pc [.ref b] (BP b L xs D cy sz)) (BQ D cy (fun q => sz ≤ q)) 147 6099 (fun q => sz ≤ q) := by
  refine Met.ofW (cc := cL_build) (maxL := 7) (ret := some (.object "TownFolk")) (by decide) rfl ?_
  intro p e s m args below meth c s₁ B hml hv
  obtain ⟨rfl, hsz, hX, hbl, hK, hNw, hEx⟩ := hv
  have hx := B.exec
  have hb := B.bytes
  have hr := B.returns
  have hlocks := B.notSynchronized
  have hts0 := atoms_spec (ws := Jvm.Cond.code yL_build cL_build 7 (some (.object "TownFolk")) :: TB) B.pre
  have hT : ∀ w ∈ TB, w.before _ s = true := fun w hw => hts0 w (List.mem_cons_of_mem _ hw)
  have hown : s.vm.findClass "TownFolkLaw" = some m.cls := findClass_of_methodNamed B.named
  subst hsz
  obtain ⟨A, hAe⟩ : ∃ A : Nat → Prop, A = fun q => s.heap.size ≤ q := ⟨_, rfl⟩
  rw [← hAe]
  have hA : ∀ q : Nat, s.heap.size ≤ q → A q := fun q h => by rw [hAe]; exact h
  have hS : va_S A s.heap s.heap [] := va_S.rf
  have hP : va_P D vwCl [] s.heap := fun k q h => by simp at h
  have hD : va_D A [] := ⟨fun i j p q h => by simp at h, fun k q h => by simp at h⟩
  have hl := lv_entry ([.ref b]) (n := 7) (Nat.le_of_ble_eq_true rfl)
  rw [lg_entry_eq]
  generalize (lg_sl ([.ref b]) ++ List.replicate (7 - (lg_sl ([.ref b])).length) Slot.unset).toArray = ls at hl ⊢
  have hl : lv_has ls 7 [(0, .ref b)] := hl
  refine va_new (ci := 7) (fs := [.null, .null, .null, .null, .null, .null, .null, .null, .null, .int 0, .int 0, .int 0, .int 0, .int 0, .int 0, .int 0, .int 0]) hx hb hT inX7 tyX7 tyX7_ok hown (hT _ (tb_1 52 (by decide +kernel) (by decide +kernel))) (hT _ (tb_1 19 (by decide +kernel) (by decide +kernel))) (hT _ (tb_1 1 (by decide +kernel) (by decide +kernel))) hK hP hD hS hA rfl (fun j hj => by rcases (by omega : j = 0 ∨ j = 1 ∨ j = 2 ∨ j = 3 ∨ j = 4 ∨ j = 5 ∨ j = 6 ∨ j = 7 ∨ j = 8 ∨ j = 9 ∨ j = 10 ∨ j = 11 ∨ j = 12 ∨ j = 13 ∨ j = 14 ∨ j = 15 ∨ j = 16) with rfl | rfl | rfl | rfl | rfl | rfl | rfl | rfl | rfl | rfl | rfl | rfl | rfl | rfl | rfl | rfl | rfl <;> rfl) (Nat.le_of_ble_eq_true rfl) (Nat.le_of_ble_eq_true rfl) (Mok_L_build.1 0 (.new 7, 3) rfl) (fun q1 H hP hD hS => ?_)
  refine lv_dup hx hb (Mok_L_build.1 3 (.dup, 1) rfl) rfl ?_
  refine W_ctor (rest := [.ref q1]) (K_Main l) hx hb hml hown hT hK hNw (fun _ => hEx rfl) hA (tb_1 55 (by decide +kernel) (by decide +kernel)) (tb_1 1 (by decide +kernel) (by decide +kernel)) (tb_1 54 (by decide +kernel) (by decide +kernel)) rfl (by decide +kernel) (by decide) (Or.inl (hT _ (tb_1 53 (by decide +kernel) (by decide +kernel)))) (by decide) (by decide) (Nat.le_of_ble_eq_true rfl) (Nat.le_of_ble_eq_true rfl) (Mok_L_build.1 4 (.invokespecial 9, 3) rfl) hl.1 (Nat.le_of_ble_eq_true rfl) hP hD hS (fun ρ1 H locs hρ1 hP hD hS => ?_)
  refine lv_astore_n (lv' := [(1, .ref q1), (0, .ref b)]) hx hb (Mok_L_build.1 7 (.astore_n 1, 1) rfl) rfl hl (by decide) rfl (fun ls hl => ?_)
  have hP : va_P D vwCl (wl kS cy ρ1 IX mem0X) H := hP
  have hD : va_D A (wl kS cy ρ1 IX mem0X) := hD
  rw [← wl_b (b := b)] at hP hD
  obtain ⟨ρ, hρ⟩ : ∃ ρ : Nat → Nat → Nat, ρ = fun k i => bif Nat.beq k 29 then b else ρ1 k i := ⟨_, rfl⟩
  rw [← hρ] at hP hD
  have r29 : ρ 29 0 = b := by rw [hρ]; rfl
  have r0 : ρ 0 0 = q1 := by rw [hρ]; exact hρ1
  have hSC : SC ρ A s := ⟨L, xs, hL, by rw [r29]; exact hX, by rw [r29]; exact hbl, by rw [r29, hAe]; exact Nat.not_le.mpr hbl⟩
  have hl2 : lv_has ls 7 (toL ρ [(0, ar 29 0), (1, ar 0 0)]) := by
    show lv_has ls 7 [(0, .ref (ρ 29 0)), (1, .ref (ρ 0 0))]
    rw [r29, r0]
    exact lv_sub hl [1, 0] rfl
  have J0 := b_all offX p l e (rmC 8 147 6099) s m _ below meth c D cy ρ A 147 6099 H locs ls ⟨hx, hb, hml, hr, hlocks, hown, hT, hA, Nat.le_refl _, Nat.le_refl _, hNw, hK, fun _ => hSC⟩ (Nat.le_of_ble_eq_true rfl) (Nat.le_of_ble_eq_true rfl) hP hD hS hl2 (by
    intro q hq
    rcases List.mem_cons.mp hq with rfl | hq
    · exact Or.inr rfl
    · rcases List.mem_cons.mp hq with rfl | hq
      · exact Or.inl (by decide)
      · cases hq) (fun _ h => by cases h)
  refine W_mono (MQ_mono (fun o t hq => ?_)) J0
  obtain ⟨⟨v, σ', e1, ⟨e2, P1, F1, hP0, hP1, hF0, hF1, hI⟩, e3, e4, e5, e6⟩, e7⟩ := hq
  subst e2
  exact ⟨⟨ρ, σ', P1, F1, e1, ⟨hP0, hP1, hF0, hF1, hI⟩, e3, e5⟩, e7⟩
