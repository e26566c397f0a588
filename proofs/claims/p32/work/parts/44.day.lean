variable {κ : Nat → Nat → Nat → Prop}
/-! ===== a day begins ===== -/
def fDX (σ : Mem) (F G : Nat) : Mem := sK (sK (sK (sK (wI (wI σ 0 0 14 (nI 0)) 0 0 13 (nI 0)) 16 (fun i j => if i = 0 ∧ j < 576 then nI 0 else σ.1 16 i j)) 14 (fun g j => if g < G ∧ (j = 5 ∨ j = 7) then nI 0 else σ.1 14 g j)) 9 (fun f j => if f < F ∧ j = 12 then nI 0 else σ.1 9 f j)) 12 (fun f t => if f < F ∧ t < 48 then NN else σ.1 12 f t)
def fDM (σ : Mem) (F G : Nat) : Mem := sK (sK (sK (sK (sK (sK (wI σ 30 0 2 (nI 0)) 35 (fun i j => if i = 0 ∧ j < 12 then nI 0 else σ.1 35 i j)) 46 (fun i j => if i = 0 ∧ j < 960 then NN else σ.1 46 i j)) 48 (fun i j => if i = 0 ∧ j < 576 then nI 0 else σ.1 48 i j)) 51 (fun i j => if i = 0 ∧ j < G then nI 0 else σ.1 51 i j)) 53 (fun i j => if i = 0 ∧ j < G then nI 0 else σ.1 53 i j)) 44 (fun i j => if i = 0 ∧ j < F then nI 0 else σ.1 44 i j)
theorem f_X7_beginDay {d F G : Nat} {σ : Mem} {P : Int32 → Mem → Prop} (hF : F ≤ 20) (hG : G ≤ 10) (xF : σ.1 0 0 9 = nI F) (xG : σ.1 0 0 10 = nI G) (hP : Rn (fun Q => J IX M_X7_beginDay (d + 5) 71 [(0, ar 0 0), (1, ai (nI 0)), (2, ai (nI 0))] [] (fDX σ F G) Q) (fun v s => ∃ x, v = some (ai x) ∧ P x s)) : Rn (fun K => CalI IX (d + 5) S_X7_beginDay [ar 0 0] σ K) P := by
  refine Rn_map (fun K => x_X7_beginDay) ?_
  simp (disch := omega) only [lit_0, lit_1, lit_2, lit_3, lit_4, lit_5, lit_6, lit_7, lit_8, lit_9, lit_10, lit_11, lit_12, lit_17, lit_20, lit_30, lit_31, lit_32, lit_47, lit_48, lit_60, lit_99, lit_100, lit_144, lit_200, lit_240, lit_300, lit_576, lit_960, lit_1008, lit_1000000, lit_100000000, true_implies, not_true_eq_false, false_implies, not_false_eq_true, true_and, and_true, neg_1, nI_add, pk_mul, nI_clamp, le_nI, lt_nI, eq_nI, vp_nI, nI_NN, NN_nI, NN_lt, NN_le, lt_NN, le_NN]
  refine Rn_cV (Rv_mono f_fill16 (fun s0 hs0 => ?_))
  refine Rn_KQ ?_
  have es0 : s0 = sK (wI (wI σ 0 0 14 (nI 0)) 0 0 13 (nI 0)) 16 (fun i j => if i = 0 ∧ j < 576 then nI 0 else σ.1 16 i j) := by
    rw [hs0]
    refine Mem_ext (fun k a b => ?_) rfl
    simp only [wI_r, sK_r]
    grind
  clear hs0
  refine loopU (C := fun i s Q => J IX M_X7_beginDay (d + 5) 19 [(0, ar 0 0), (1, ai (nI i))] [] s Q) (Inv := fun n s => s = sK s0 14 (fun g j => if g < n ∧ (j = 5 ∨ j = 7) then nI 0 else σ.1 14 g j)) (n := G) ?_ ?_ (by omega) ?_
  · rintro i s hi hs ih
    have xG' : s.1 0 0 10 = nI G := by rw [hs, es0]; exact xG
    refine Rn_map (fun Q => x_X7_beginDay_19) ?_
    simp (disch := omega) only [lit_0, lit_1, lit_2, lit_3, lit_4, lit_5, lit_6, lit_7, lit_8, lit_9, lit_10, lit_11, lit_12, lit_17, lit_20, lit_30, lit_31, lit_32, lit_47, lit_48, lit_60, lit_99, lit_100, lit_144, lit_200, lit_240, lit_300, lit_576, lit_960, lit_1008, lit_1000000, lit_100000000, true_implies, not_true_eq_false, false_implies, not_false_eq_true, true_and, and_true, neg_1, nI_add, pk_mul, nI_clamp, le_nI, lt_nI, eq_nI, vp_nI, nI_NN, NN_nI, NN_lt, NN_le, lt_NN, le_NN, xG']
    repeat' (first | refine Rn_and (by first | omega | assumption) ?_ | refine Rn_pos (by first | omega | assumption) ?_ | refine Rn_neg (by first | omega | assumption) ?_ | refine Rn_pos' (by first | omega | assumption) ?_ | refine Rn_neg' (by first | omega | assumption) ?_ | fail)
    subst hs
    refine ih _ (Mem_ext (fun k a b => ?_) rfl)
    simp only [wI_r, sK_r]
    grind
  · rintro s hs
    have xG' : s.1 0 0 10 = nI G := by rw [hs, es0]; exact xG
    refine Rn_map (fun Q => x_X7_beginDay_19) ?_
    simp (disch := omega) only [lit_0, lit_1, lit_2, lit_3, lit_4, lit_5, lit_6, lit_7, lit_8, lit_9, lit_10, lit_11, lit_12, lit_17, lit_20, lit_30, lit_31, lit_32, lit_47, lit_48, lit_60, lit_99, lit_100, lit_144, lit_200, lit_240, lit_300, lit_576, lit_960, lit_1008, lit_1000000, lit_100000000, true_implies, not_true_eq_false, false_implies, not_false_eq_true, true_and, and_true, neg_1, nI_add, pk_mul, nI_clamp, le_nI, lt_nI, eq_nI, vp_nI, nI_NN, NN_nI, NN_lt, NN_le, lt_NN, le_NN, xG']
    repeat' (first | refine Rn_and (by first | omega | assumption) ?_ | refine Rn_pos (by first | omega | assumption) ?_ | refine Rn_neg (by first | omega | assumption) ?_ | refine Rn_pos' (by first | omega | assumption) ?_ | refine Rn_neg' (by first | omega | assumption) ?_ | fail)
    refine loopU (C := fun i s Q => J IX M_X7_beginDay (d + 5) 44 [(0, ar 0 0), (1, ai (nI i))] [] s Q) (Inv := fun n s' => s' = sK (sK s 9 (fun f j => if f < n ∧ j = 12 then nI 0 else σ.1 9 f j)) 12 (fun f t => if f < n ∧ t < 48 then NN else σ.1 12 f t)) (n := F) ?_ ?_ (by omega) ?_
    · rintro i s' hi hs' ih
      have xF' : s'.1 0 0 9 = nI F := by rw [hs', hs, es0]; exact xF
      refine Rn_map (fun Q => x_X7_beginDay_44) ?_
      simp (disch := omega) only [lit_0, lit_1, lit_2, lit_3, lit_4, lit_5, lit_6, lit_7, lit_8, lit_9, lit_10, lit_11, lit_12, lit_17, lit_20, lit_30, lit_31, lit_32, lit_47, lit_48, lit_60, lit_99, lit_100, lit_144, lit_200, lit_240, lit_300, lit_576, lit_960, lit_1008, lit_1000000, lit_100000000, true_implies, not_true_eq_false, false_implies, not_false_eq_true, true_and, and_true, neg_1, nI_add, pk_mul, nI_clamp, le_nI, lt_nI, eq_nI, vp_nI, nI_NN, NN_nI, NN_lt, NN_le, lt_NN, le_NN, xF']
      repeat' (first | refine Rn_and (by first | omega | assumption) ?_ | refine Rn_pos (by first | omega | assumption) ?_ | refine Rn_neg (by first | omega | assumption) ?_ | refine Rn_pos' (by first | omega | assumption) ?_ | refine Rn_neg' (by first | omega | assumption) ?_ | fail)
      refine Rn_cV (Rv_mono f_fill12 (fun s2 hs2 => ?_))
      rw [hs2]
      subst hs'
      refine ih _ (Mem_ext (fun k a b => ?_) rfl)
      simp only [wI_r, sK_r]
      grind
    · rintro s' hs'
      have xF' : s'.1 0 0 9 = nI F := by rw [hs', hs, es0]; exact xF
      refine Rn_map (fun Q => x_X7_beginDay_44) ?_
      simp (disch := omega) only [lit_0, lit_1, lit_2, lit_3, lit_4, lit_5, lit_6, lit_7, lit_8, lit_9, lit_10, lit_11, lit_12, lit_17, lit_20, lit_30, lit_31, lit_32, lit_47, lit_48, lit_60, lit_99, lit_100, lit_144, lit_200, lit_240, lit_300, lit_576, lit_960, lit_1008, lit_1000000, lit_100000000, true_implies, not_true_eq_false, false_implies, not_false_eq_true, true_and, and_true, neg_1, nI_add, pk_mul, nI_clamp, le_nI, lt_nI, eq_nI, vp_nI, nI_NN, NN_nI, NN_lt, NN_le, lt_NN, le_NN, xF']
      repeat' (first | refine Rn_and (by first | omega | assumption) ?_ | refine Rn_pos (by first | omega | assumption) ?_ | refine Rn_neg (by first | omega | assumption) ?_ | refine Rn_pos' (by first | omega | assumption) ?_ | refine Rn_neg' (by first | omega | assumption) ?_ | fail)
      have e : s' = fDX σ F G := by rw [hs', hs, es0, fDX]
      rw [e]
      exact hP
    · have e9 : s.1 9 = σ.1 9 := by rw [hs, es0]; rfl
      have e12 : s.1 12 = σ.1 12 := by rw [hs, es0]; rfl
      refine Mem_ext (fun k a b => ?_) rfl
      simp only [sK_r, ← e9, ← e12]
      grind
  · have e14 : s0.1 14 = σ.1 14 := by rw [es0]; rfl
    refine Mem_ext (fun k a b => ?_) rfl
    simp only [sK_r, ← e14]
    grind
theorem f_X8_newDay {d F G : Nat} {σ : Mem} {P : Mem → Prop} (hF : F ≤ 20) (hG : G ≤ 10) (mF : σ.1 30 0 13 = nI F) (mG : σ.1 30 0 25 = nI G) (hP : Rn (fun Q => J IM M_X8_newDay (d + 5) 125 [(0, ar 30 0), (1, ai (nI 0))] [] (fDM σ F G) Q) (fun v s => v = none ∧ P s)) : Rv (fun K => CalV IM (d + 5) S_X8_newDay [ar 30 0] σ K) P := by
  refine Rv_map (fun K => x_X8_newDay) (Rv_KV ?_)
  simp (disch := omega) only [lit_0, lit_1, lit_2, lit_3, lit_4, lit_5, lit_6, lit_7, lit_8, lit_9, lit_10, lit_11, lit_12, lit_17, lit_20, lit_30, lit_31, lit_32, lit_47, lit_48, lit_60, lit_99, lit_100, lit_144, lit_200, lit_240, lit_300, lit_576, lit_960, lit_1008, lit_1000000, lit_100000000, true_implies, not_true_eq_false, false_implies, not_false_eq_true, true_and, and_true, neg_1, nI_add, pk_mul, nI_clamp, le_nI, lt_nI, eq_nI, vp_nI, nI_NN, NN_nI, NN_lt, NN_le, lt_NN, le_NN]
  obtain ⟨s0, es0⟩ : ∃ s0, s0 = wI σ 30 0 2 (nI 0) := ⟨_, rfl⟩
  rw [← es0]
  refine loopU (C := fun i s Q => J IM M_X8_newDay (d + 5) 7 [(0, ar 30 0), (1, ai (nI i))] [] s Q) (Inv := fun n s => s = (sK s0 35 (fun i j => if i = 0 ∧ j < n then nI 0 else σ.1 35 i j))) (n := 12) ?_ ?_ (by omega) ?_
  · rintro i s1 hi hs1 ih
    refine Rn_map (fun Q => x_X8_newDay_7) ?_
    simp (disch := omega) only [lit_0, lit_1, lit_2, lit_3, lit_4, lit_5, lit_6, lit_7, lit_8, lit_9, lit_10, lit_11, lit_12, lit_17, lit_20, lit_30, lit_31, lit_32, lit_47, lit_48, lit_60, lit_99, lit_100, lit_144, lit_200, lit_240, lit_300, lit_576, lit_960, lit_1008, lit_1000000, lit_100000000, true_implies, not_true_eq_false, false_implies, not_false_eq_true, true_and, and_true, neg_1, nI_add, pk_mul, nI_clamp, le_nI, lt_nI, eq_nI, vp_nI, nI_NN, NN_nI, NN_lt, NN_le, lt_NN, le_NN]
    repeat' (first | refine Rn_and (by first | omega | assumption) ?_ | refine Rn_pos (by first | omega | assumption) ?_ | refine Rn_neg (by first | omega | assumption) ?_ | refine Rn_pos' (by first | omega | assumption) ?_ | refine Rn_neg' (by first | omega | assumption) ?_ | fail)
    subst hs1
    refine ih _ (Mem_ext (fun k a b => ?_) rfl)
    simp only [wI_r, sK_r]
    grind
  rotate_left
  · skip
    have e35 : s0.1 35 = σ.1 35 := by rw [es0]; rfl
    refine Mem_ext (fun k a b => ?_) rfl
    simp only [sK_r, ← e35]
    grind
  rintro s1 hs1
  refine Rn_map (fun Q => x_X8_newDay_7) ?_
  simp (disch := omega) only [lit_0, lit_1, lit_2, lit_3, lit_4, lit_5, lit_6, lit_7, lit_8, lit_9, lit_10, lit_11, lit_12, lit_17, lit_20, lit_30, lit_31, lit_32, lit_47, lit_48, lit_60, lit_99, lit_100, lit_144, lit_200, lit_240, lit_300, lit_576, lit_960, lit_1008, lit_1000000, lit_100000000, true_implies, not_true_eq_false, false_implies, not_false_eq_true, true_and, and_true, neg_1, nI_add, pk_mul, nI_clamp, le_nI, lt_nI, eq_nI, vp_nI, nI_NN, NN_nI, NN_lt, NN_le, lt_NN, le_NN]
  repeat' (first | refine Rn_and (by first | omega | assumption) ?_ | refine Rn_pos (by first | omega | assumption) ?_ | refine Rn_neg (by first | omega | assumption) ?_ | refine Rn_pos' (by first | omega | assumption) ?_ | refine Rn_neg' (by first | omega | assumption) ?_ | fail)
  refine loopU (C := fun i s Q => J IM M_X8_newDay (d + 5) 28 [(0, ar 30 0), (1, ai (nI i))] [] s Q) (Inv := fun n s => s = (sK s1 46 (fun i j => if i = 0 ∧ j < n then NN else σ.1 46 i j))) (n := 960) ?_ ?_ (by omega) ?_
  · rintro i s2 hi hs2 ih
    refine Rn_map (fun Q => x_X8_newDay_28) ?_
    simp (disch := omega) only [lit_0, lit_1, lit_2, lit_3, lit_4, lit_5, lit_6, lit_7, lit_8, lit_9, lit_10, lit_11, lit_12, lit_17, lit_20, lit_30, lit_31, lit_32, lit_47, lit_48, lit_60, lit_99, lit_100, lit_144, lit_200, lit_240, lit_300, lit_576, lit_960, lit_1008, lit_1000000, lit_100000000, true_implies, not_true_eq_false, false_implies, not_false_eq_true, true_and, and_true, neg_1, nI_add, pk_mul, nI_clamp, le_nI, lt_nI, eq_nI, vp_nI, nI_NN, NN_nI, NN_lt, NN_le, lt_NN, le_NN]
    repeat' (first | refine Rn_and (by first | omega | assumption) ?_ | refine Rn_pos (by first | omega | assumption) ?_ | refine Rn_neg (by first | omega | assumption) ?_ | refine Rn_pos' (by first | omega | assumption) ?_ | refine Rn_neg' (by first | omega | assumption) ?_ | fail)
    subst hs2
    refine ih _ (Mem_ext (fun k a b => ?_) rfl)
    simp only [wI_r, sK_r]
    grind
  rotate_left
  · skip
    have e46 : s1.1 46 = σ.1 46 := by rw [hs1, es0]; rfl
    refine Mem_ext (fun k a b => ?_) rfl
    simp only [sK_r, ← e46]
    grind
  rintro s2 hs2
  refine Rn_map (fun Q => x_X8_newDay_28) ?_
  simp (disch := omega) only [lit_0, lit_1, lit_2, lit_3, lit_4, lit_5, lit_6, lit_7, lit_8, lit_9, lit_10, lit_11, lit_12, lit_17, lit_20, lit_30, lit_31, lit_32, lit_47, lit_48, lit_60, lit_99, lit_100, lit_144, lit_200, lit_240, lit_300, lit_576, lit_960, lit_1008, lit_1000000, lit_100000000, true_implies, not_true_eq_false, false_implies, not_false_eq_true, true_and, and_true, neg_1, nI_add, pk_mul, nI_clamp, le_nI, lt_nI, eq_nI, vp_nI, nI_NN, NN_nI, NN_lt, NN_le, lt_NN, le_NN]
  repeat' (first | refine Rn_and (by first | omega | assumption) ?_ | refine Rn_pos (by first | omega | assumption) ?_ | refine Rn_neg (by first | omega | assumption) ?_ | refine Rn_pos' (by first | omega | assumption) ?_ | refine Rn_neg' (by first | omega | assumption) ?_ | fail)
  refine loopU (C := fun i s Q => J IM M_X8_newDay (d + 5) 50 [(0, ar 30 0), (1, ai (nI i))] [] s Q) (Inv := fun n s => s = (sK s2 48 (fun i j => if i = 0 ∧ j < n then nI 0 else σ.1 48 i j))) (n := 576) ?_ ?_ (by omega) ?_
  · rintro i s3 hi hs3 ih
    refine Rn_map (fun Q => x_X8_newDay_50) ?_
    simp (disch := omega) only [lit_0, lit_1, lit_2, lit_3, lit_4, lit_5, lit_6, lit_7, lit_8, lit_9, lit_10, lit_11, lit_12, lit_17, lit_20, lit_30, lit_31, lit_32, lit_47, lit_48, lit_60, lit_99, lit_100, lit_144, lit_200, lit_240, lit_300, lit_576, lit_960, lit_1008, lit_1000000, lit_100000000, true_implies, not_true_eq_false, false_implies, not_false_eq_true, true_and, and_true, neg_1, nI_add, pk_mul, nI_clamp, le_nI, lt_nI, eq_nI, vp_nI, nI_NN, NN_nI, NN_lt, NN_le, lt_NN, le_NN]
    repeat' (first | refine Rn_and (by first | omega | assumption) ?_ | refine Rn_pos (by first | omega | assumption) ?_ | refine Rn_neg (by first | omega | assumption) ?_ | refine Rn_pos' (by first | omega | assumption) ?_ | refine Rn_neg' (by first | omega | assumption) ?_ | fail)
    subst hs3
    refine ih _ (Mem_ext (fun k a b => ?_) rfl)
    simp only [wI_r, sK_r]
    grind
  rotate_left
  · skip
    have e48 : s2.1 48 = σ.1 48 := by rw [hs2, hs1, es0]; rfl
    refine Mem_ext (fun k a b => ?_) rfl
    simp only [sK_r, ← e48]
    grind
  rintro s3 hs3
  refine Rn_map (fun Q => x_X8_newDay_50) ?_
  simp (disch := omega) only [lit_0, lit_1, lit_2, lit_3, lit_4, lit_5, lit_6, lit_7, lit_8, lit_9, lit_10, lit_11, lit_12, lit_17, lit_20, lit_30, lit_31, lit_32, lit_47, lit_48, lit_60, lit_99, lit_100, lit_144, lit_200, lit_240, lit_300, lit_576, lit_960, lit_1008, lit_1000000, lit_100000000, true_implies, not_true_eq_false, false_implies, not_false_eq_true, true_and, and_true, neg_1, nI_add, pk_mul, nI_clamp, le_nI, lt_nI, eq_nI, vp_nI, nI_NN, NN_nI, NN_lt, NN_le, lt_NN, le_NN]
  repeat' (first | refine Rn_and (by first | omega | assumption) ?_ | refine Rn_pos (by first | omega | assumption) ?_ | refine Rn_neg (by first | omega | assumption) ?_ | refine Rn_pos' (by first | omega | assumption) ?_ | refine Rn_neg' (by first | omega | assumption) ?_ | fail)
  refine loopU (C := fun i s Q => J IM M_X8_newDay (d + 5) 72 [(0, ar 30 0), (1, ai (nI i))] [] s Q) (Inv := fun n s => s = (sK (sK s3 51 (fun i j => if i = 0 ∧ j < n then nI 0 else σ.1 51 i j)) 53 (fun i j => if i = 0 ∧ j < n then nI 0 else σ.1 53 i j))) (n := G) ?_ ?_ (by omega) ?_
  · rintro i s4 hi hs4 ih
    have mG' : s4.1 30 0 25 = nI G := by rw [hs4, hs3, hs2, hs1, es0]; exact mG
    refine Rn_map (fun Q => x_X8_newDay_72) ?_
    simp (disch := omega) only [lit_0, lit_1, lit_2, lit_3, lit_4, lit_5, lit_6, lit_7, lit_8, lit_9, lit_10, lit_11, lit_12, lit_17, lit_20, lit_30, lit_31, lit_32, lit_47, lit_48, lit_60, lit_99, lit_100, lit_144, lit_200, lit_240, lit_300, lit_576, lit_960, lit_1008, lit_1000000, lit_100000000, true_implies, not_true_eq_false, false_implies, not_false_eq_true, true_and, and_true, neg_1, nI_add, pk_mul, nI_clamp, le_nI, lt_nI, eq_nI, vp_nI, nI_NN, NN_nI, NN_lt, NN_le, lt_NN, le_NN, mG']
    repeat' (first | refine Rn_and (by first | omega | assumption) ?_ | refine Rn_pos (by first | omega | assumption) ?_ | refine Rn_neg (by first | omega | assumption) ?_ | refine Rn_pos' (by first | omega | assumption) ?_ | refine Rn_neg' (by first | omega | assumption) ?_ | fail)
    subst hs4
    refine ih _ (Mem_ext (fun k a b => ?_) rfl)
    simp only [wI_r, sK_r]
    grind
  rotate_left
  · skip
    have e51 : s3.1 51 = σ.1 51 := by rw [hs3, hs2, hs1, es0]; rfl
    have e53 : s3.1 53 = σ.1 53 := by rw [hs3, hs2, hs1, es0]; rfl
    refine Mem_ext (fun k a b => ?_) rfl
    simp only [sK_r, ← e51, ← e53]
    grind
  rintro s4 hs4
  have mG' : s4.1 30 0 25 = nI G := by rw [hs4, hs3, hs2, hs1, es0]; exact mG
  refine Rn_map (fun Q => x_X8_newDay_72) ?_
  simp (disch := omega) only [lit_0, lit_1, lit_2, lit_3, lit_4, lit_5, lit_6, lit_7, lit_8, lit_9, lit_10, lit_11, lit_12, lit_17, lit_20, lit_30, lit_31, lit_32, lit_47, lit_48, lit_60, lit_99, lit_100, lit_144, lit_200, lit_240, lit_300, lit_576, lit_960, lit_1008, lit_1000000, lit_100000000, true_implies, not_true_eq_false, false_implies, not_false_eq_true, true_and, and_true, neg_1, nI_add, pk_mul, nI_clamp, le_nI, lt_nI, eq_nI, vp_nI, nI_NN, NN_nI, NN_lt, NN_le, lt_NN, le_NN, mG']
  repeat' (first | refine Rn_and (by first | omega | assumption) ?_ | refine Rn_pos (by first | omega | assumption) ?_ | refine Rn_neg (by first | omega | assumption) ?_ | refine Rn_pos' (by first | omega | assumption) ?_ | refine Rn_neg' (by first | omega | assumption) ?_ | fail)
  refine loopU (C := fun i s Q => J IM M_X8_newDay (d + 5) 102 [(0, ar 30 0), (1, ai (nI i))] [] s Q) (Inv := fun n s => s = (sK s4 44 (fun i j => if i = 0 ∧ j < n then nI 0 else σ.1 44 i j))) (n := F) ?_ ?_ (by omega) ?_
  · rintro i s5 hi hs5 ih
    have mF' : s5.1 30 0 13 = nI F := by rw [hs5, hs4, hs3, hs2, hs1, es0]; exact mF
    refine Rn_map (fun Q => x_X8_newDay_102) ?_
    simp (disch := omega) only [lit_0, lit_1, lit_2, lit_3, lit_4, lit_5, lit_6, lit_7, lit_8, lit_9, lit_10, lit_11, lit_12, lit_17, lit_20, lit_30, lit_31, lit_32, lit_47, lit_48, lit_60, lit_99, lit_100, lit_144, lit_200, lit_240, lit_300, lit_576, lit_960, lit_1008, lit_1000000, lit_100000000, true_implies, not_true_eq_false, false_implies, not_false_eq_true, true_and, and_true, neg_1, nI_add, pk_mul, nI_clamp, le_nI, lt_nI, eq_nI, vp_nI, nI_NN, NN_nI, NN_lt, NN_le, lt_NN, le_NN, mF']
    repeat' (first | refine Rn_and (by first | omega | assumption) ?_ | refine Rn_pos (by first | omega | assumption) ?_ | refine Rn_neg (by first | omega | assumption) ?_ | refine Rn_pos' (by first | omega | assumption) ?_ | refine Rn_neg' (by first | omega | assumption) ?_ | fail)
    subst hs5
    refine ih _ (Mem_ext (fun k a b => ?_) rfl)
    simp only [wI_r, sK_r]
    grind
  rotate_left
  · skip
    have e44 : s4.1 44 = σ.1 44 := by rw [hs4, hs3, hs2, hs1, es0]; rfl
    refine Mem_ext (fun k a b => ?_) rfl
    simp only [sK_r, ← e44]
    grind
  rintro s5 hs5
  have mF' : s5.1 30 0 13 = nI F := by rw [hs5, hs4, hs3, hs2, hs1, es0]; exact mF
  refine Rn_map (fun Q => x_X8_newDay_102) ?_
  simp (disch := omega) only [lit_0, lit_1, lit_2, lit_3, lit_4, lit_5, lit_6, lit_7, lit_8, lit_9, lit_10, lit_11, lit_12, lit_17, lit_20, lit_30, lit_31, lit_32, lit_47, lit_48, lit_60, lit_99, lit_100, lit_144, lit_200, lit_240, lit_300, lit_576, lit_960, lit_1008, lit_1000000, lit_100000000, true_implies, not_true_eq_false, false_implies, not_false_eq_true, true_and, and_true, neg_1, nI_add, pk_mul, nI_clamp, le_nI, lt_nI, eq_nI, vp_nI, nI_NN, NN_nI, NN_lt, NN_le, lt_NN, le_NN, mF']
  repeat' (first | refine Rn_and (by first | omega | assumption) ?_ | refine Rn_pos (by first | omega | assumption) ?_ | refine Rn_neg (by first | omega | assumption) ?_ | refine Rn_pos' (by first | omega | assumption) ?_ | refine Rn_neg' (by first | omega | assumption) ?_ | fail)
  have e : s5 = fDM σ F G := by rw [hs5, hs4, hs3, hs2, hs1, es0, fDM]
  rw [e]
  exact hP
/-- the relation but for counters, locks and the plans' form -/
def RelD (σx σm : Mem) (P F G C : Nat) (w l : Nat → Nat → Nat) : Prop := GRef (σx.1 28 0) (σm.1 31 0) ∧ GHrs (σx.1 2 0) (σx.1 3 0) (σx.1 4 0) (σm.1 32 0) (σm.1 33 0) (σm.1 34 0) P ∧ GWay (σx.1 5 0) (σm.1 36 0) P w ∧ GFar (σx.1 6 0) (σm.1 37 0) P l ∧ GDist w l ∧ GShl (σx.1 7) (σm.1 57 0) (σm.1 58 0) F ∧ GCell (σx.2 8) (σm.2 59 0) ∧ GHome (σx.1 9) (σm.1 38 0) P F ∧ GKeys (σx.1 9) (σm.1 39 0) ∧ GLike (σx.1 10) (σm.1 40 0) F ∧ GDuty (σx.1 9) (σx.1 11) (σm.1 41 0) (σm.1 42 0) P ∧ GGone (σx.1 9) (σm.1 43 0) ∧ GBent (σx.1 9) (σm.1 44 0) (σm.1 45 0) P ∧ GPlan (σx.1 12) (σm.1 46 0) ∧ GCost (σx.1 9) (σm.1 47 0) ∧ GSeat (σx.1 16 0) (σm.1 48 0) ∧ GMeet (σx.1 14) (σm.1 49 0) (σm.1 50 0) P F G ∧ GTly (σx.1 14) (σm.1 51 0) (σm.1 52 0) (σm.1 53 0) ∧ GKnow (σx.1 9) (σx.1 13) (σm.1 54 0) C ∧ GFlt (σx.1 23 0) (σm.1 30 0) ∧ GRow (σx.1 21 0) ∧ ∀ f t, F ≤ f → f < 20 → t < 48 → σm.1 46 0 (48 * f + t) = NN
theorem R_day0 {σx σm : Mem} {P W F G C D : Nat} {w l : Nat → Nat → Nat} (gSc : GSc κ ((fDX σx F G).1 0 0) ((fDX σx F G).1 1 0) ((fDM σm F G).1 30 0) P W F G C 0 D 1) (R : RelD σx σm P F G C w l) : RelW κ (fun u => u < 0) (fDX σx F G) (fDM σm F G) P W F G C 0 D 1 w l := by
  obtain ⟨gRef, gHrs, gWay, gFar, gDist, gShl, gCell, gHome, gKeys, gLike, gDuty, gGone, gBent, gPlan, gCost, gSeat, gMeet, gTly, gKnow, gFlt, gRow, gFre⟩ := R
  obtain ⟨_, _, ⟨_, _, hF⟩, ⟨_, _, hG⟩, _⟩ := id gSc
  have h9 : ∀ u j, j ≠ 12 → (fDX σx F G).1 9 u j = σx.1 9 u j := by
    intro u j hj
    rw [fDX, sK_r, if_neg (by omega), sK_r, if_pos rfl, if_neg (fun z => hj z.2)]
  have h12 : ∀ u t, (fDX σx F G).1 12 u t = if u < F ∧ t < 48 then NN else σx.1 12 u t := by
    intro u t
    rw [fDX, sK_r, if_pos rfl]
  have h14 : ∀ g j, (fDX σx F G).1 14 g j = if g < G ∧ (j = 5 ∨ j = 7) then nI 0 else σx.1 14 g j := by
    intro g j
    rw [fDX, sK_r, if_neg (by omega), sK_r, if_neg (by omega), sK_r, if_pos rfl]
  have m44 : ∀ j, (fDM σm F G).1 44 0 j = if j < F then nI 0 else σm.1 44 0 j := by
    intro j
    rw [fDM, sK_r, if_pos rfl]
    simp only [true_and]
  have m46 : ∀ u t, u < 20 → t < 48 → (fDM σm F G).1 46 0 (48 * u + t) = NN := by
    intro u t hu ht
    rw [fDM, sK_r, if_neg (by omega), sK_r, if_neg (by omega), sK_r, if_neg (by omega), sK_r, if_neg (by omega), sK_r, if_pos rfl, if_pos (by omega)]
  refine ⟨gSc, gRef, gHrs, ?_, gWay, gFar, gDist, gShl, gCell, (GHome_c (fun _ => h9 _ _ (by omega)) gHome), (GKeys_c (fun _ => h9 _ _ (by omega)) gKeys), gLike, (GDuty_c (fun _ => h9 _ _ (by omega)) gDuty), (GGone_c (fun _ => h9 _ _ (by omega)) gGone), ?_, ?_, (GCost_c (fun _ => h9 _ _ (by omega)) gCost), ?_, ?_, ?_, (GKnow_c (fun _ => h9 _ _ (by omega)) gKnow), gFlt, gRow, ?_, ?_⟩
  · exact ⟨fun p hp => ⟨Or.inl (if_pos ⟨rfl, hp⟩), by rw [show (fDX σx F G).1 0 0 13 = nI 0 from rfl, bt_nI0, show (fDM σm F G).1 35 0 p = nI 0 from if_pos ⟨rfl, hp⟩]; decide⟩, fun p hp => bt_nI0 p⟩
  · intro u hu
    have gu := gBent u hu
    rw [h9 u 7 (by omega), h9 u 8 (by omega), h9 u 9 (by omega), m44]
    have e : (fDX σx F G).1 9 u 12 = if u < F then nI 0 else σx.1 9 u 12 := by
      rw [fDX, sK_r, if_neg (by omega), sK_r, if_pos rfl]
      by_cases h : u < F
      · rw [if_pos ⟨h, rfl⟩, if_pos h]
      · rw [if_neg (fun z => h z.1), if_neg h]
    rw [e]
    by_cases h : u < F
    · rw [if_pos h, if_pos h]
      exact ⟨rfl, Or.inl rfl⟩
    · rw [if_neg h, if_neg h]
      exact gu
  · intro u t hu ht
    rw [h12, m46 u t hu ht]
    by_cases h : u < F
    · rw [if_pos ⟨h, ht⟩]
    · rw [if_neg (fun z => h z.1), gPlan u t hu ht, gFre u t (by omega) hu ht]
  · intro j hj
    have e1 : (fDX σx F G).1 16 0 j = nI 0 := if_pos ⟨rfl, hj⟩
    have e2 : (fDM σm F G).1 48 0 j = nI 0 := if_pos ⟨rfl, hj⟩
    rw [e1, e2]
  · intro g hg
    have gu := gMeet g hg
    rw [h14, h14, h14, h14, h14, if_neg (by omega), if_neg (by omega), if_neg (by omega), if_neg (by omega), if_neg (by omega)]
    exact gu
  · intro g hg
    obtain ⟨i1, i2, i3⟩ := gTly g hg
    have e1 : (fDM σm F G).1 51 0 g = if g < G then nI 0 else σm.1 51 0 g := by
      show (if 0 = 0 ∧ g < G then nI 0 else σm.1 51 0 g) = _
      simp only [true_and]
    have e2 : (fDM σm F G).1 53 0 g = if g < G then nI 0 else σm.1 53 0 g := by
      show (if 0 = 0 ∧ g < G then nI 0 else σm.1 53 0 g) = _
      simp only [true_and]
    have e5 : (fDX σx F G).1 14 g 5 = if g < G then nI 0 else σx.1 14 g 5 := by
      rw [h14]
      by_cases h : g < G <;> simp [h]
    have e6 : (fDX σx F G).1 14 g 6 = σx.1 14 g 6 := by
      rw [h14, if_neg (fun z => by omega)]
    have e7 : (fDX σx F G).1 14 g 7 = if g < G then nI 0 else σx.1 14 g 7 := by
      rw [h14]
      by_cases h : g < G <;> simp [h]
    rw [e5, e6, e7, e1, e2]
    by_cases h : g < G
    · rw [if_pos h, if_pos h, if_pos h, if_pos h]
      exact ⟨rfl, i2, rfl⟩
    · rw [if_neg h, if_neg h, if_neg h, if_neg h]
      exact ⟨i1, i2, i3⟩
  · intro u t hu ht
    rw [m46 u t hu ht]
    exact ⟨Or.inl rfl, fun _ => rfl⟩
  · intro u _ hu0
    exact absurd hu0 (Nat.not_lt_zero _)
theorem RelW_mono {S S' : Nat → Prop} {σx σm : Mem} {P W F G C N D B : Nat} {w l : Nat → Nat → Nat} (h : RelW κ S σx σm P W F G C N D B w l) (hS : ∀ f, f < F → S' f → σm.1 43 0 f = nI 0 → S f) : RelW κ S' σx σm P W F G C N D B w l := by
  obtain ⟨gSc, gRef, gHrs, gLck, gWay, gFar, gDist, gShl, gCell, gHome, gKeys, gLike, gDuty, gGone, gBent, gPlan, gCost, gSeat, gMeet, gTly, gKnow, gFlt, gRow, gPl1, gWel⟩ := h
  exact ⟨gSc, gRef, gHrs, gLck, gWay, gFar, gDist, gShl, gCell, gHome, gKeys, gLike, gDuty, gGone, gBent, gPlan, gCost, gSeat, gMeet, gTly, gKnow, gFlt, gRow, gPl1, fun f hf hs h43 => gWel f hf (hS f hf hs h43) h43⟩
theorem R_dayloop {P W F G C D : Nat} {w l : Nat → Nat → Nat} {dx dm : Nat} : ∀ n k σx σm v, n + k = F → v = cntF (nI 1) (nI 0) (σm.1 43 0) k → RelW κ (fun u => u < k) σx σm P W F G C 0 D 1 w l → Rn (fun Q => J IX M_X7_beginDay (dx + 5) 71 [(0, ar 0 0), (1, ai v), (2, ai (nI k))] [] σx Q) (fun rx sx => Rn (fun Q => J IM M_X8_newDay (dm + 5) 125 [(0, ar 30 0), (1, ai (nI k))] [] σm Q) (fun rm sm => rx = some (ai (cntF (nI 1) (nI 0) (sm.1 43 0) F)) ∧ rm = none ∧ RelAt κ sx sm P W F G C 0 D 1 w l)) := by
  intro n
  induction n with
  | zero =>
    intro k σx σm v hk hv R
    have R0 := R
    obtain ⟨gSc, gRef, gHrs, gLck, gWay, gFar, gDist, gShl, gCell, gHome, gKeys, gLike, gDuty, gGone, gBent, gPlan, gCost, gSeat, gMeet, gTly, gKnow, gFlt, gRow, gPl1, gWel⟩ := R
    obtain ⟨⟨xP, mP, _⟩, ⟨xW, mW, hW⟩, ⟨xF, mF, hF⟩, ⟨xG, mG, hG⟩, ⟨xC, mC, hC⟩, ⟨xN, mN, hN⟩, ⟨xD, mD, hD⟩, ⟨xB, mB, hB1⟩, hpl, hb0⟩ := gSc
    have ek : k = F := by omega
    subst ek
    refine Rn_map (fun Q => x_X7_beginDay_71) ?_
    simp (disch := omega) only [lit_0, lit_1, lit_2, lit_3, lit_4, lit_5, lit_6, lit_7, lit_8, lit_9, lit_10, lit_11, lit_12, lit_17, lit_20, lit_30, lit_31, lit_32, lit_47, lit_48, lit_60, lit_99, lit_100, lit_144, lit_200, lit_240, lit_300, lit_576, lit_960, lit_1008, lit_1000000, lit_100000000, true_implies, not_true_eq_false, false_implies, not_false_eq_true, true_and, and_true, neg_1, nI_add, pk_mul, nI_clamp, le_nI, lt_nI, eq_nI, vp_nI, nI_NN, NN_nI, NN_lt, NN_le, lt_NN, le_NN, xF]
    repeat' (first | refine Rn_and (by first | omega | assumption) ?_ | refine Rn_pos (by first | omega | assumption) ?_ | refine Rn_neg (by first | omega | assumption) ?_ | refine Rn_pos' (by first | omega | assumption) ?_ | refine Rn_neg' (by first | omega | assumption) ?_ | fail)
    refine Rn_ret ?_
    refine Rn_map (fun Q => x_X8_newDay_125) ?_
    simp (disch := omega) only [lit_0, lit_1, lit_2, lit_3, lit_4, lit_5, lit_6, lit_7, lit_8, lit_9, lit_10, lit_11, lit_12, lit_17, lit_20, lit_30, lit_31, lit_32, lit_47, lit_48, lit_60, lit_99, lit_100, lit_144, lit_200, lit_240, lit_300, lit_576, lit_960, lit_1008, lit_1000000, lit_100000000, true_implies, not_true_eq_false, false_implies, not_false_eq_true, true_and, and_true, neg_1, nI_add, pk_mul, nI_clamp, le_nI, lt_nI, eq_nI, vp_nI, nI_NN, NN_nI, NN_lt, NN_le, lt_NN, le_NN, mF]
    repeat' (first | refine Rn_and (by first | omega | assumption) ?_ | refine Rn_pos (by first | omega | assumption) ?_ | refine Rn_neg (by first | omega | assumption) ?_ | refine Rn_pos' (by first | omega | assumption) ?_ | refine Rn_neg' (by first | omega | assumption) ?_ | fail)
    exact Rn_ret ⟨by rw [hv], rfl, RelW_to R0 (fun f hf _ => hf)⟩
  | succ n ih =>
    intro k σx σm v hk hv R
    have R0 := R
    obtain ⟨gSc, gRef, gHrs, gLck, gWay, gFar, gDist, gShl, gCell, gHome, gKeys, gLike, gDuty, gGone, gBent, gPlan, gCost, gSeat, gMeet, gTly, gKnow, gFlt, gRow, gPl1, gWel⟩ := R
    obtain ⟨⟨xP, mP, _⟩, ⟨xW, mW, hW⟩, ⟨xF, mF, hF⟩, ⟨xG, mG, hG⟩, ⟨xC, mC, hC⟩, ⟨xN, mN, hN⟩, ⟨xD, mD, hD⟩, ⟨xB, mB, hB1⟩, hpl, hb0⟩ := gSc
    obtain ⟨g1, g2⟩ := gGone k (by omega)
    rcases g2 with eg | eg
    all_goals have egx := g1.trans eg
    · refine Rn_map (fun Q => x_X7_beginDay_71) ?_
      simp (disch := omega) only [lit_0, lit_1, lit_2, lit_3, lit_4, lit_5, lit_6, lit_7, lit_8, lit_9, lit_10, lit_11, lit_12, lit_17, lit_20, lit_30, lit_31, lit_32, lit_47, lit_48, lit_60, lit_99, lit_100, lit_144, lit_200, lit_240, lit_300, lit_576, lit_960, lit_1008, lit_1000000, lit_100000000, true_implies, not_true_eq_false, false_implies, not_false_eq_true, true_and, and_true, neg_1, nI_add, pk_mul, nI_clamp, le_nI, lt_nI, eq_nI, vp_nI, nI_NN, NN_nI, NN_lt, NN_le, lt_NN, le_NN, xF, egx]
      repeat' (first | refine Rn_and (by first | omega | assumption) ?_ | refine Rn_pos (by first | omega | assumption) ?_ | refine Rn_neg (by first | omega | assumption) ?_ | refine Rn_pos' (by first | omega | assumption) ?_ | refine Rn_neg' (by first | omega | assumption) ?_ | fail)
      refine Rn_cI (Rn_mono (R_replan (dm := dm) R0 (by omega) rfl eg (Or.inl rfl)) ?_)
      rintro r1 sx1 ⟨r2, sm1, ⟨e1, ⟨e43, _⟩, R1⟩, hk1⟩
      have R1' := RelW_mono R1 (S' := fun u => u < k + 1) (fun f hf hs _ => by rcases Nat.lt_succ_iff_lt_or_eq.mp hs with h | h; exact Or.inl h; exact Or.inr h)
      have ihk := ih (k + 1) sx1 sm1 (v + nI 1) (by omega) (by rw [hv, cntF, if_pos (by rw [e43]; exact eg), cntF_congr (fun i _ => e43 i)]) R1'
      refine Rn_mono ihk ?_
      rintro rx sx hm2
      refine Rn_map (fun Q => x_X8_newDay_125) ?_
      simp (disch := omega) only [lit_0, lit_1, lit_2, lit_3, lit_4, lit_5, lit_6, lit_7, lit_8, lit_9, lit_10, lit_11, lit_12, lit_17, lit_20, lit_30, lit_31, lit_32, lit_47, lit_48, lit_60, lit_99, lit_100, lit_144, lit_200, lit_240, lit_300, lit_576, lit_960, lit_1008, lit_1000000, lit_100000000, true_implies, not_true_eq_false, false_implies, not_false_eq_true, true_and, and_true, neg_1, nI_add, pk_mul, nI_clamp, le_nI, lt_nI, eq_nI, vp_nI, nI_NN, NN_nI, NN_lt, NN_le, lt_NN, le_NN, mF, eg]
      repeat' (first | refine Rn_and (by first | omega | assumption) ?_ | refine Rn_pos (by first | omega | assumption) ?_ | refine Rn_neg (by first | omega | assumption) ?_ | refine Rn_pos' (by first | omega | assumption) ?_ | refine Rn_neg' (by first | omega | assumption) ?_ | fail)
      exact Rn_cI ⟨r2, sm1, hm2, hk1⟩
    · have R1' := RelW_mono R0 (S' := fun u => u < k + 1) (fun f hf hs h43 => by
        rcases Nat.lt_succ_iff_lt_or_eq.mp hs with h | h
        · exact h
        · rw [h, eg] at h43
          exact absurd h43 (by decide))
      have ihk := ih (k + 1) σx σm v (by omega) (by rw [cntF, if_neg (by rw [eg]; decide), hv, add_nI0]) R1'
      refine Rn_map (fun Q => x_X7_beginDay_71) ?_
      simp (disch := omega) only [lit_0, lit_1, lit_2, lit_3, lit_4, lit_5, lit_6, lit_7, lit_8, lit_9, lit_10, lit_11, lit_12, lit_17, lit_20, lit_30, lit_31, lit_32, lit_47, lit_48, lit_60, lit_99, lit_100, lit_144, lit_200, lit_240, lit_300, lit_576, lit_960, lit_1008, lit_1000000, lit_100000000, true_implies, not_true_eq_false, false_implies, not_false_eq_true, true_and, and_true, neg_1, nI_add, pk_mul, nI_clamp, le_nI, lt_nI, eq_nI, vp_nI, nI_NN, NN_nI, NN_lt, NN_le, lt_NN, le_NN, xF, egx]
      repeat' (first | refine Rn_and (by first | omega | assumption) ?_ | refine Rn_pos (by first | omega | assumption) ?_ | refine Rn_neg (by first | omega | assumption) ?_ | refine Rn_pos' (by first | omega | assumption) ?_ | refine Rn_neg' (by first | omega | assumption) ?_ | fail)
      refine Rn_mono ihk ?_
      rintro rx sx hm2
      refine Rn_map (fun Q => x_X8_newDay_125) ?_
      simp (disch := omega) only [lit_0, lit_1, lit_2, lit_3, lit_4, lit_5, lit_6, lit_7, lit_8, lit_9, lit_10, lit_11, lit_12, lit_17, lit_20, lit_30, lit_31, lit_32, lit_47, lit_48, lit_60, lit_99, lit_100, lit_144, lit_200, lit_240, lit_300, lit_576, lit_960, lit_1008, lit_1000000, lit_100000000, true_implies, not_true_eq_false, false_implies, not_false_eq_true, true_and, and_true, neg_1, nI_add, pk_mul, nI_clamp, le_nI, lt_nI, eq_nI, vp_nI, nI_NN, NN_nI, NN_lt, NN_le, lt_NN, le_NN, mF, eg]
      repeat' (first | refine Rn_and (by first | omega | assumption) ?_ | refine Rn_pos (by first | omega | assumption) ?_ | refine Rn_neg (by first | omega | assumption) ?_ | refine Rn_pos' (by first | omega | assumption) ?_ | refine Rn_neg' (by first | omega | assumption) ?_ | fail)
      exact hm2
theorem R_day {σx σm : Mem} {P W F G C D : Nat} {w l : Nat → Nat → Nat} {dx dm : Nat} (gSc : GSc κ ((fDX σx F G).1 0 0) ((fDX σx F G).1 1 0) ((fDM σm F G).1 30 0) P W F G C 0 D 1) (R : RelD σx σm P F G C w l) : Rn (fun K => CalI IX (dx + 5) S_X7_beginDay [ar 0 0] σx K) (fun r sx => Rv (fun K => CalV IM (dm + 5) S_X8_newDay [ar 30 0] σm K) (fun sm => r = cntF (nI 1) (nI 0) (sm.1 43 0) F ∧ RelAt κ sx sm P W F G C 0 D 1 w l)) := by
  have R0 := R_day0 gSc R
  obtain ⟨_, _, ⟨xF, mF, hF⟩, ⟨xG, mG, hG⟩, _⟩ := gSc
  refine f_X7_beginDay hF hG xF xG ?_
  refine Rn_mono (R_dayloop (dm := dm) F 0 _ _ (nI 0) (by omega) rfl R0) ?_
  rintro rx sx ⟨rm, sm, ⟨e1, e2, R1⟩, hk⟩
  refine ⟨_, e1, ?_⟩
  refine f_X8_newDay hF hG mF mG ⟨rm, sm, ⟨e2, rfl, R1⟩, hk⟩
theorem R_begin {σx σm : Mem} {dx dm : Nat}  (R : Rel κ σx σm) (hκ : ∀ P F, κ P F 0 → κ P F 1) : Rn (fun K => CalI IX (dx + 6) S_X7_begin [ar 0 0] σx K) (fun r sx => Rn (fun K => CalI IM (dm + 6) S_X8_begin [ar 30 0] σm K) (fun r' sm => Agree κ r r' sx sm)) := by
  have R0 := R
  obtain ⟨P, W, F, G, C, N, D, B, w, l, gSc, gRef, gHrs, gLck, gWay, gFar, gDist, gShl, gCell, gHome, gKeys, gLike, gDuty, gGone, gBent, gPlan, gCost, gSeat, gMeet, gTly, gKnow, gFlt, gRow, gPln⟩ := R
  have hSc0 := gSc
  obtain ⟨⟨xP, mP, hP⟩, ⟨xW, mW, hW⟩, ⟨xF, mF, hF⟩, ⟨xG, mG, hG⟩, ⟨xC, mC, hC⟩, ⟨xN, mN, hN⟩, ⟨xD, mD, hD⟩, ⟨xB, mB, hB⟩, hpl, hb0⟩ := hSc0
  by_cases hB0 : B = 0
  · have RD : RelD (wI σx 0 0 16 (nI 1)) (wI σm 30 0 1 (nI 1)) P F G C w l := ⟨gRef, gHrs, gWay, gFar, gDist, gShl, gCell, gHome, gKeys, gLike, gDuty, gGone, gBent, gPlan, gCost, gSeat, gMeet, gTly, gKnow, gFlt, gRow, fun f t hf hf2 ht => (gPln.1 f t hf2 ht).2 (Or.inr (Or.inl hf))⟩
    refine Rn_map (fun K => x_X7_begin) ?_
    simp (disch := omega) only [lit_0, lit_1, lit_2, lit_3, lit_4, lit_5, lit_6, lit_7, lit_8, lit_9, lit_10, lit_11, lit_12, lit_17, lit_20, lit_30, lit_31, lit_32, lit_47, lit_48, lit_60, lit_99, lit_100, lit_144, lit_200, lit_240, lit_300, lit_576, lit_960, lit_1008, lit_1000000, lit_100000000, true_implies, not_true_eq_false, false_implies, not_false_eq_true, true_and, and_true, neg_1, nI_add, pk_mul, nI_clamp, vp_nI, tI_lt, tI_le, tI_eq, tI_nI, tI_NN, tI_pred, xP, xW, xF, xG, xC, xN, xD, xB]
    repeat' (first | refine Rn_and (by first | omega | assumption) ?_ | refine Rn_pos (by first | omega | assumption) ?_ | refine Rn_neg (by first | omega | assumption) ?_ | refine Rn_pos' (by first | omega | assumption) ?_ | refine Rn_neg' (by first | omega | assumption) ?_ | fail)
    refine Rn_cI (Rn_mono (R_day (dm := dm) (W := W) (D := D) (σx := wI σx 0 0 16 (nI 1)) (σm := wI σm 30 0 1 (nI 1)) ⟨⟨xP, mP, hP⟩, ⟨xW, mW, hW⟩, ⟨xF, mF, hF⟩, ⟨xG, mG, hG⟩, ⟨xC, mC, hC⟩, ⟨rfl, rfl, by omega⟩, ⟨xD, mD, hD⟩, ⟨rfl, rfl, by omega⟩, hpl, ⟨fun h => by omega, hκ _ _ (hB0 ▸ hb0.2)⟩⟩ RD) ?_)
    rintro rx sx hm
    refine Rn_ret ?_
    refine Rn_map (fun K => x_X8_begin) ?_
    simp (disch := omega) only [lit_0, lit_1, lit_2, lit_3, lit_4, lit_5, lit_6, lit_7, lit_8, lit_9, lit_10, lit_11, lit_12, lit_17, lit_20, lit_30, lit_31, lit_32, lit_47, lit_48, lit_60, lit_99, lit_100, lit_144, lit_200, lit_240, lit_300, lit_576, lit_960, lit_1008, lit_1000000, lit_100000000, true_implies, not_true_eq_false, false_implies, not_false_eq_true, true_and, and_true, neg_1, nI_add, pk_mul, nI_clamp, vp_nI, tI_lt, tI_le, tI_eq, tI_nI, tI_NN, tI_pred, mP, mW, mF, mG, mC, mN, mD, mB]
    repeat' (first | refine Rn_and (by first | omega | assumption) ?_ | refine Rn_pos (by first | omega | assumption) ?_ | refine Rn_neg (by first | omega | assumption) ?_ | refine Rn_pos' (by first | omega | assumption) ?_ | refine Rn_neg' (by first | omega | assumption) ?_ | fail)
    refine Rn_cV (Rv_mono hm ?_)
    rintro sm ⟨e, R1⟩
    have mF' : sm.1 30 0 13 = nI F := R1.1.2.2.1.2.1
    refine Rn_cI (Rn_mono (f_X8_still hF mF') ?_)
    rintro rm s2 ⟨hs2, hrm⟩
    refine Rn_ret (Agr ?_ ?_)
    · rw [e, hrm]
    · rw [hs2]
      exact ⟨_, _, _, _, _, _, _, _, _, _, R1⟩
  · refine Rn_map (fun K => x_X7_begin) ?_
    try simp (disch := omega) only [lit_0, lit_1, lit_2, lit_3, lit_4, lit_5, lit_6, lit_7, lit_8, lit_9, lit_10, lit_11, lit_12, lit_17, lit_20, lit_30, lit_31, lit_32, lit_47, lit_48, lit_60, lit_99, lit_100, lit_144, lit_200, lit_240, lit_300, lit_576, lit_960, lit_1008, lit_1000000, lit_100000000, true_implies, not_true_eq_false, false_implies, not_false_eq_true, true_and, and_true, neg_1, nI_add, pk_mul, nI_clamp, vp_nI, tI_lt, tI_le, tI_eq, tI_nI, tI_NN, tI_pred, xP, xW, xF, xG, xC, xN, xD, xB, pk_sub, tI_sub, Nat.add_sub_cancel_left, Nat.add_sub_cancel, wI_same]
    repeat' (first | refine Rn_and (by first | omega | assumption) ?_ | refine Rn_pos (by first | omega | assumption) ?_ | refine Rn_neg (by first | omega | assumption) ?_ | refine Rn_pos' (by first | omega | assumption) ?_ | refine Rn_neg' (by first | omega | assumption) ?_ | refine Rn_if (fun _ => ?_) (fun _ => ?_) | refine Rn_if' (fun _ => ?_) (fun _ => ?_) | fail)
    all_goals (refine Rn_ret ?_; refine Rn_map (fun K => x_X8_begin) ?_)
    all_goals try simp (disch := omega) only [lit_0, lit_1, lit_2, lit_3, lit_4, lit_5, lit_6, lit_7, lit_8, lit_9, lit_10, lit_11, lit_12, lit_17, lit_20, lit_30, lit_31, lit_32, lit_47, lit_48, lit_60, lit_99, lit_100, lit_144, lit_200, lit_240, lit_300, lit_576, lit_960, lit_1008, lit_1000000, lit_100000000, true_implies, not_true_eq_false, false_implies, not_false_eq_true, true_and, and_true, neg_1, nI_add, pk_mul, nI_clamp, vp_nI, tI_lt, tI_le, tI_eq, tI_nI, tI_NN, tI_pred, mP, mW, mF, mG, mC, mN, mD, mB, pk_sub, tI_sub, Nat.add_sub_cancel_left, Nat.add_sub_cancel, wI_same]
    all_goals repeat' (first | refine Rn_and (by first | omega | assumption) ?_ | refine Rn_pos (by first | omega | assumption) ?_ | refine Rn_neg (by first | omega | assumption) ?_ | refine Rn_pos' (by first | omega | assumption) ?_ | refine Rn_neg' (by first | omega | assumption) ?_ | refine Rn_if (fun _ => ?_) (fun _ => ?_) | refine Rn_if' (fun _ => ?_) (fun _ => ?_) | fail)
    all_goals first
      | exact Rn_ret (Agr rfl R0)
      | exact Rn_ret (Agr rfl (Rel_ref R0 1)) | exact Rn_ret (Agr rfl (Rel_ref R0 2)) | exact Rn_ret (Agr rfl (Rel_ref R0 3)) | exact Rn_ret (Agr rfl (Rel_ref R0 4)) | exact Rn_ret (Agr rfl (Rel_ref R0 5)) | exact Rn_ret (Agr rfl (Rel_ref R0 6)) | exact Rn_ret (Agr rfl (Rel_ref R0 7))
      | (exfalso; omega)


