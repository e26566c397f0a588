variable {κ : Nat → Nat → Nat → Prop}
theorem f_fill8 {d z : Nat} {v : Int64} {σ : Mem} : Rv (fun K => CalV IX (d + 1) S_J7_fill_d0a16 [ar 8 z, al v] σ K) (fun s => s = sL σ 8 (fun i j => if i = z ∧ j < 60 then v else σ.2 8 i j)) := by
  refine Rv_map (fun K => x_J7_fill_d0a16) (Rv_KV ?_)
  simp (disch := omega) only [lit_0, lit_1, lit_2, lit_3, lit_4, lit_5, lit_6, lit_7, lit_8, lit_9, lit_10, lit_11, lit_12, lit_17, lit_20, lit_30, lit_31, lit_32, lit_47, lit_48, lit_60, lit_99, lit_100, lit_144, lit_200, lit_240, lit_300, lit_576, lit_960, lit_1008, lit_1000000, lit_100000000, true_implies, not_true_eq_false, false_implies, not_false_eq_true, true_and, and_true, neg_1, nI_add, pk_mul, nI_clamp, le_nI, lt_nI, eq_nI, vp_nI, nI_NN, NN_nI, NN_lt, NN_le, lt_NN, le_NN]
  refine loopU (C := fun i s Q => J IX M_J7_fill_d0a16 (d + 1) 6 [(0, ar 8 z), (1, al v), (3, ai (nI i)), (4, ai (nI 60))] [] s Q) (Inv := fun n s => s = sL σ 8 (fun i j => if i = z ∧ j < n then v else σ.2 8 i j)) (n := 60) ?_ ?_ (by omega) ?_
  · rintro i s hi hs ih
    refine Rn_map (fun Q => x_J7_fill_d0a16_6) ?_
    simp (disch := omega) only [lit_0, lit_1, lit_2, lit_3, lit_4, lit_5, lit_6, lit_7, lit_8, lit_9, lit_10, lit_11, lit_12, lit_17, lit_20, lit_30, lit_31, lit_32, lit_47, lit_48, lit_60, lit_99, lit_100, lit_144, lit_200, lit_240, lit_300, lit_576, lit_960, lit_1008, lit_1000000, lit_100000000, true_implies, not_true_eq_false, false_implies, not_false_eq_true, true_and, and_true, neg_1, nI_add, pk_mul, nI_clamp, le_nI, lt_nI, eq_nI, vp_nI, nI_NN, NN_nI, NN_lt, NN_le, lt_NN, le_NN]
    repeat' (first | refine Rn_and (by first | omega | assumption) ?_ | refine Rn_pos (by first | omega | assumption) ?_ | refine Rn_neg (by first | omega | assumption) ?_ | refine Rn_pos' (by first | omega | assumption) ?_ | refine Rn_neg' (by first | omega | assumption) ?_ | fail)
    subst hs
    refine ih _ (Mem_extL rfl (fun k a b => ?_))
    simp only [wL_r, sL_r]
    grind
  · rintro s hs
    refine Rn_map (fun Q => x_J7_fill_d0a16_6) ?_
    simp (disch := omega) only [lit_0, lit_1, lit_2, lit_3, lit_4, lit_5, lit_6, lit_7, lit_8, lit_9, lit_10, lit_11, lit_12, lit_17, lit_20, lit_30, lit_31, lit_32, lit_47, lit_48, lit_60, lit_99, lit_100, lit_144, lit_200, lit_240, lit_300, lit_576, lit_960, lit_1008, lit_1000000, lit_100000000, true_implies, not_true_eq_false, false_implies, not_false_eq_true, true_and, and_true, neg_1, nI_add, pk_mul, nI_clamp, le_nI, lt_nI, eq_nI, vp_nI, nI_NN, NN_nI, NN_lt, NN_le, lt_NN, le_NN]
    repeat' (first | refine Rn_and (by first | omega | assumption) ?_ | refine Rn_pos (by first | omega | assumption) ?_ | refine Rn_neg (by first | omega | assumption) ?_ | refine Rn_pos' (by first | omega | assumption) ?_ | refine Rn_neg' (by first | omega | assumption) ?_ | fail)
    exact Rn_ret ⟨rfl, hs⟩
  · refine Mem_extL rfl (fun k a b => ?_)
    simp only [sL_r]
    grind
theorem f_X8_row_73 {d z : Nat} {σ : Mem} {P : Int32 → Mem → Prop} (hz : z < 8) (hP : P (nI 1) (sL σ 59 (fun i j => if i = 0 ∧ 60 * z ≤ j ∧ j < 60 * z + 60 then 0 else σ.2 59 i j))) : Rn (fun K => J IM M_X8_row (d + 3) 73 [(0, ar 30 0), (1, ai (nI z)), (4, ai (nI 0))] [] σ (KQ K)) P := by
  refine Rn_KQ ?_
  refine loopU (C := fun i s Q => J IM M_X8_row (d + 3) 73 [(0, ar 30 0), (1, ai (nI z)), (4, ai (nI i))] [] s Q) (Inv := fun n s => s = sL σ 59 (fun i j => if i = 0 ∧ 60 * z ≤ j ∧ j < 60 * z + n then 0 else σ.2 59 i j)) (n := 60) ?_ ?_ (by omega) ?_
  · rintro i s hi hs ih
    refine Rn_map (fun Q => x_X8_row_73) ?_
    simp (disch := omega) only [lit_0, lit_1, lit_2, lit_3, lit_4, lit_5, lit_6, lit_7, lit_8, lit_9, lit_10, lit_11, lit_12, lit_17, lit_20, lit_30, lit_31, lit_32, lit_47, lit_48, lit_60, lit_99, lit_100, lit_144, lit_200, lit_240, lit_300, lit_576, lit_960, lit_1008, lit_1000000, lit_100000000, true_implies, not_true_eq_false, false_implies, not_false_eq_true, true_and, and_true, neg_1, nI_add, pk_mul, nI_clamp, le_nI, lt_nI, eq_nI, vp_nI, nI_NN, NN_nI, NN_lt, NN_le, lt_NN, le_NN]
    repeat' (first | refine Rn_and (by first | omega | assumption) ?_ | refine Rn_pos (by first | omega | assumption) ?_ | refine Rn_neg (by first | omega | assumption) ?_ | refine Rn_pos' (by first | omega | assumption) ?_ | refine Rn_neg' (by first | omega | assumption) ?_ | fail)
    subst hs
    refine ih _ (Mem_extL rfl (fun k a b => ?_))
    simp only [wL_r, sL_r]
    grind
  · rintro s hs
    refine Rn_map (fun Q => x_X8_row_73) ?_
    simp (disch := omega) only [lit_0, lit_1, lit_2, lit_3, lit_4, lit_5, lit_6, lit_7, lit_8, lit_9, lit_10, lit_11, lit_12, lit_17, lit_20, lit_30, lit_31, lit_32, lit_47, lit_48, lit_60, lit_99, lit_100, lit_144, lit_200, lit_240, lit_300, lit_576, lit_960, lit_1008, lit_1000000, lit_100000000, true_implies, not_true_eq_false, false_implies, not_false_eq_true, true_and, and_true, neg_1, nI_add, pk_mul, nI_clamp, le_nI, lt_nI, eq_nI, vp_nI, nI_NN, NN_nI, NN_lt, NN_le, lt_NN, le_NN]
    repeat' (first | refine Rn_and (by first | omega | assumption) ?_ | refine Rn_pos (by first | omega | assumption) ?_ | refine Rn_neg (by first | omega | assumption) ?_ | refine Rn_pos' (by first | omega | assumption) ?_ | refine Rn_neg' (by first | omega | assumption) ?_ | fail)
    subst hs
    exact Rn_ret ⟨_, rfl, hP⟩
  · refine Mem_extL rfl (fun k a b => ?_)
    simp only [sL_r]
    grind
theorem f_X8_copy_176 {d p q i0 j0 n0 : Nat} {σ : Mem} {P : Int32 → Mem → Prop} (hp : p < 8) (hq : q < 8) (hi0 : i0 + n0 ≤ 60) (hj0 : j0 + n0 ≤ 60) (hP : ∀ f60, P (nI 1) (sL (sL σ 60 f60) 59 (fun i j => if i = 0 ∧ 60 * q + j0 ≤ j ∧ j < 60 * q + j0 + n0 then σ.2 59 0 (60 * p + i0 + (j - (60 * q + j0))) else σ.2 59 i j))) : Rn (fun K => J IM M_X8_copy (d + 3) 176 [(0, ar 30 0), (1, ai (nI p)), (2, ai (nI q)), (3, ai (nI i0)), (4, ai (nI j0)), (5, ai (nI n0)), (6, ai (nI 0))] [] σ (KQ K)) P := by
  refine Rn_KQ ?_
  refine loopU (C := fun i s Q => J IM M_X8_copy (d + 3) 176 [(0, ar 30 0), (1, ai (nI p)), (2, ai (nI q)), (3, ai (nI i0)), (4, ai (nI j0)), (5, ai (nI n0)), (6, ai (nI i))] [] s Q) (Inv := fun n s => s = sL σ 60 (fun i j => if i = 0 ∧ j < n then σ.2 59 0 (60 * p + i0 + j) else σ.2 60 i j)) (n := n0) ?_ ?_ (by omega) ?_
  · rintro i s hi hs ih
    refine Rn_map (fun Q => x_X8_copy_176) ?_
    simp (disch := omega) only [lit_0, lit_1, lit_2, lit_3, lit_4, lit_5, lit_6, lit_7, lit_8, lit_9, lit_10, lit_11, lit_12, lit_17, lit_20, lit_30, lit_31, lit_32, lit_47, lit_48, lit_60, lit_99, lit_100, lit_144, lit_200, lit_240, lit_300, lit_576, lit_960, lit_1008, lit_1000000, lit_100000000, true_implies, not_true_eq_false, false_implies, not_false_eq_true, true_and, and_true, neg_1, nI_add, pk_mul, nI_clamp, le_nI, lt_nI, eq_nI, vp_nI, nI_NN, NN_nI, NN_lt, NN_le, lt_NN, le_NN]
    repeat' (first | refine Rn_and (by first | omega | assumption) ?_ | refine Rn_pos (by first | omega | assumption) ?_ | refine Rn_neg (by first | omega | assumption) ?_ | refine Rn_pos' (by first | omega | assumption) ?_ | refine Rn_neg' (by first | omega | assumption) ?_ | fail)
    subst hs
    refine ih _ (Mem_extL rfl (fun k a b => ?_))
    simp only [wL_r, sL_r]
    grind
  · rintro s hs
    refine Rn_map (fun Q => x_X8_copy_176) ?_
    simp (disch := omega) only [lit_0, lit_1, lit_2, lit_3, lit_4, lit_5, lit_6, lit_7, lit_8, lit_9, lit_10, lit_11, lit_12, lit_17, lit_20, lit_30, lit_31, lit_32, lit_47, lit_48, lit_60, lit_99, lit_100, lit_144, lit_200, lit_240, lit_300, lit_576, lit_960, lit_1008, lit_1000000, lit_100000000, true_implies, not_true_eq_false, false_implies, not_false_eq_true, true_and, and_true, neg_1, nI_add, pk_mul, nI_clamp, le_nI, lt_nI, eq_nI, vp_nI, nI_NN, NN_nI, NN_lt, NN_le, lt_NN, le_NN]
    repeat' (first | refine Rn_and (by first | omega | assumption) ?_ | refine Rn_pos (by first | omega | assumption) ?_ | refine Rn_neg (by first | omega | assumption) ?_ | refine Rn_pos' (by first | omega | assumption) ?_ | refine Rn_neg' (by first | omega | assumption) ?_ | fail)
    refine loopU (C := fun i s Q => J IM M_X8_copy (d + 3) 213 [(0, ar 30 0), (2, ai (nI q)), (4, ai (nI j0)), (5, ai (nI n0)), (6, ai (nI i))] [] s Q) (Inv := fun n s' => s' = sL s 59 (fun i j => if i = 0 ∧ 60 * q + j0 ≤ j ∧ j < 60 * q + j0 + n then s.2 60 0 (j - (60 * q + j0)) else s.2 59 i j)) (n := n0) ?_ ?_ (by omega) ?_
    · rintro i s' hi hs' ih
      refine Rn_map (fun Q => x_X8_copy_213) ?_
      simp (disch := omega) only [lit_0, lit_1, lit_2, lit_3, lit_4, lit_5, lit_6, lit_7, lit_8, lit_9, lit_10, lit_11, lit_12, lit_17, lit_20, lit_30, lit_31, lit_32, lit_47, lit_48, lit_60, lit_99, lit_100, lit_144, lit_200, lit_240, lit_300, lit_576, lit_960, lit_1008, lit_1000000, lit_100000000, true_implies, not_true_eq_false, false_implies, not_false_eq_true, true_and, and_true, neg_1, nI_add, pk_mul, nI_clamp, le_nI, lt_nI, eq_nI, vp_nI, nI_NN, NN_nI, NN_lt, NN_le, lt_NN, le_NN]
      repeat' (first | refine Rn_and (by first | omega | assumption) ?_ | refine Rn_pos (by first | omega | assumption) ?_ | refine Rn_neg (by first | omega | assumption) ?_ | refine Rn_pos' (by first | omega | assumption) ?_ | refine Rn_neg' (by first | omega | assumption) ?_ | fail)
      subst hs'
      refine ih _ (Mem_extL rfl (fun k a b => ?_))
      simp only [wL_r, sL_r]
      have hb : b = 60 * q + j0 + i → b - (60 * q + j0) = i := by omega
      grind
    · rintro s' hs'
      refine Rn_map (fun Q => x_X8_copy_213) ?_
      simp (disch := omega) only [lit_0, lit_1, lit_2, lit_3, lit_4, lit_5, lit_6, lit_7, lit_8, lit_9, lit_10, lit_11, lit_12, lit_17, lit_20, lit_30, lit_31, lit_32, lit_47, lit_48, lit_60, lit_99, lit_100, lit_144, lit_200, lit_240, lit_300, lit_576, lit_960, lit_1008, lit_1000000, lit_100000000, true_implies, not_true_eq_false, false_implies, not_false_eq_true, true_and, and_true, neg_1, nI_add, pk_mul, nI_clamp, le_nI, lt_nI, eq_nI, vp_nI, nI_NN, NN_nI, NN_lt, NN_le, lt_NN, le_NN]
      repeat' (first | refine Rn_and (by first | omega | assumption) ?_ | refine Rn_pos (by first | omega | assumption) ?_ | refine Rn_neg (by first | omega | assumption) ?_ | refine Rn_pos' (by first | omega | assumption) ?_ | refine Rn_neg' (by first | omega | assumption) ?_ | fail)
      refine Rn_ret ⟨_, rfl, ?_⟩
      have e : s' = sL (sL σ 60 (fun i j => if i = 0 ∧ j < n0 then σ.2 59 0 (60 * p + i0 + j) else σ.2 60 i j)) 59 (fun i j => if i = 0 ∧ 60 * q + j0 ≤ j ∧ j < 60 * q + j0 + n0 then σ.2 59 0 (60 * p + i0 + (j - (60 * q + j0))) else σ.2 59 i j) := by
        subst hs
        subst hs'
        refine Mem_extL rfl (fun k a b => ?_)
        simp only [sL_r]
        grind
      rw [e]
      exact hP _
    · refine Mem_extL rfl (fun k a b => ?_)
      simp only [sL_r]
      grind
  · refine Mem_extL rfl (fun k a b => ?_)
    simp only [sL_r]
    grind

