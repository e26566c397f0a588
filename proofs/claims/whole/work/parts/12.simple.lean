theorem R_where {σx σm : Mem} {dx dm : Nat} {p0 p1 : Int32} (R : Rel σx σm) : Rn (fun K => CalI IX (dx + 2) S_X7_where [ar 0 0, ai p0, ai p1] σx K) (fun r sx => Rn (fun K => CalI IM (dm + 2) S_X8_where [ar 30 0, ai p0, ai p1] σm K) (fun r' sm => Agree r r' sx sm)) := by
  have R0 := R
  obtain ⟨P, W, F, G, C, N, D, B, w, l, gSc, gRef, gHrs, gLck, gWay, gFar, gDist, gShl, gCell, gHome, gKeys, gLike, gDuty, gGone, gBent, gPlan, gCost, gSeat, gMeet, gTly, gKnow, gFlt, gRow, gPln⟩ := R
  have hSc0 := gSc
  obtain ⟨⟨xP, mP, hP⟩, ⟨xW, mW, hW⟩, ⟨xF, mF, hF⟩, ⟨xG, mG, hG⟩, ⟨xC, mC, hC⟩, ⟨xN, mN, hN⟩, ⟨xD, mD, hD⟩, ⟨xB, mB, hB⟩, hpl, hb0⟩ := hSc0
  rcases ix_cases p0 F (by omega) with hf | hf | ⟨f, hf, rfl⟩
  · refine Rn_map (fun K => x_X7_where) ?_
    try simp (disch := omega) only [lit_0, lit_1, lit_2, lit_3, lit_4, lit_5, lit_6, lit_7, lit_8, lit_9, lit_10, lit_11, lit_12, lit_17, lit_20, lit_30, lit_31, lit_32, lit_47, lit_48, lit_60, lit_99, lit_100, lit_144, lit_200, lit_240, lit_300, lit_576, lit_960, lit_1008, lit_1000000, lit_100000000, true_implies, not_true_eq_false, false_implies, not_false_eq_true, true_and, and_true, neg_1, nI_add, pk_mul, nI_clamp, vp_nI, tI_lt, tI_le, tI_eq, tI_nI, tI_NN, tI_pred, xP, xW, xF, xG, xC, xN, xD, xB]
    repeat' (first | refine Rn_and (by first | omega | assumption) ?_ | refine Rn_pos (by first | omega | assumption) ?_ | refine Rn_neg (by first | omega | assumption) ?_ | refine Rn_pos' (by first | omega | assumption) ?_ | refine Rn_neg' (by first | omega | assumption) ?_ | refine Rn_if (fun _ => ?_) (fun _ => ?_) | refine Rn_if' (fun _ => ?_) (fun _ => ?_) | fail)
    all_goals (refine Rn_ret ?_; refine Rn_map (fun K => x_X8_where) ?_)
    all_goals try simp (disch := omega) only [lit_0, lit_1, lit_2, lit_3, lit_4, lit_5, lit_6, lit_7, lit_8, lit_9, lit_10, lit_11, lit_12, lit_17, lit_20, lit_30, lit_31, lit_32, lit_47, lit_48, lit_60, lit_99, lit_100, lit_144, lit_200, lit_240, lit_300, lit_576, lit_960, lit_1008, lit_1000000, lit_100000000, true_implies, not_true_eq_false, false_implies, not_false_eq_true, true_and, and_true, neg_1, nI_add, pk_mul, nI_clamp, vp_nI, tI_lt, tI_le, tI_eq, tI_nI, tI_NN, tI_pred, mP, mW, mF, mG, mC, mN, mD, mB]
    all_goals repeat' (first | refine Rn_and (by first | omega | assumption) ?_ | refine Rn_pos (by first | omega | assumption) ?_ | refine Rn_neg (by first | omega | assumption) ?_ | refine Rn_pos' (by first | omega | assumption) ?_ | refine Rn_neg' (by first | omega | assumption) ?_ | refine Rn_if (fun _ => ?_) (fun _ => ?_) | refine Rn_if' (fun _ => ?_) (fun _ => ?_) | fail)
    all_goals first
      | exact Rn_ret (Agr rfl R0)
      | exact Rn_ret (Agr rfl (Rel_ref R0 1)) | exact Rn_ret (Agr rfl (Rel_ref R0 2)) | exact Rn_ret (Agr rfl (Rel_ref R0 3)) | exact Rn_ret (Agr rfl (Rel_ref R0 4)) | exact Rn_ret (Agr rfl (Rel_ref R0 5)) | exact Rn_ret (Agr rfl (Rel_ref R0 6)) | exact Rn_ret (Agr rfl (Rel_ref R0 7))
      | (exfalso; omega)
  · refine Rn_map (fun K => x_X7_where) ?_
    try simp (disch := omega) only [lit_0, lit_1, lit_2, lit_3, lit_4, lit_5, lit_6, lit_7, lit_8, lit_9, lit_10, lit_11, lit_12, lit_17, lit_20, lit_30, lit_31, lit_32, lit_47, lit_48, lit_60, lit_99, lit_100, lit_144, lit_200, lit_240, lit_300, lit_576, lit_960, lit_1008, lit_1000000, lit_100000000, true_implies, not_true_eq_false, false_implies, not_false_eq_true, true_and, and_true, neg_1, nI_add, pk_mul, nI_clamp, vp_nI, tI_lt, tI_le, tI_eq, tI_nI, tI_NN, tI_pred, xP, xW, xF, xG, xC, xN, xD, xB]
    repeat' (first | refine Rn_and (by first | omega | assumption) ?_ | refine Rn_pos (by first | omega | assumption) ?_ | refine Rn_neg (by first | omega | assumption) ?_ | refine Rn_pos' (by first | omega | assumption) ?_ | refine Rn_neg' (by first | omega | assumption) ?_ | refine Rn_if (fun _ => ?_) (fun _ => ?_) | refine Rn_if' (fun _ => ?_) (fun _ => ?_) | fail)
    all_goals (refine Rn_ret ?_; refine Rn_map (fun K => x_X8_where) ?_)
    all_goals try simp (disch := omega) only [lit_0, lit_1, lit_2, lit_3, lit_4, lit_5, lit_6, lit_7, lit_8, lit_9, lit_10, lit_11, lit_12, lit_17, lit_20, lit_30, lit_31, lit_32, lit_47, lit_48, lit_60, lit_99, lit_100, lit_144, lit_200, lit_240, lit_300, lit_576, lit_960, lit_1008, lit_1000000, lit_100000000, true_implies, not_true_eq_false, false_implies, not_false_eq_true, true_and, and_true, neg_1, nI_add, pk_mul, nI_clamp, vp_nI, tI_lt, tI_le, tI_eq, tI_nI, tI_NN, tI_pred, mP, mW, mF, mG, mC, mN, mD, mB]
    all_goals repeat' (first | refine Rn_and (by first | omega | assumption) ?_ | refine Rn_pos (by first | omega | assumption) ?_ | refine Rn_neg (by first | omega | assumption) ?_ | refine Rn_pos' (by first | omega | assumption) ?_ | refine Rn_neg' (by first | omega | assumption) ?_ | refine Rn_if (fun _ => ?_) (fun _ => ?_) | refine Rn_if' (fun _ => ?_) (fun _ => ?_) | fail)
    all_goals first
      | exact Rn_ret (Agr rfl R0)
      | exact Rn_ret (Agr rfl (Rel_ref R0 1)) | exact Rn_ret (Agr rfl (Rel_ref R0 2)) | exact Rn_ret (Agr rfl (Rel_ref R0 3)) | exact Rn_ret (Agr rfl (Rel_ref R0 4)) | exact Rn_ret (Agr rfl (Rel_ref R0 5)) | exact Rn_ret (Agr rfl (Rel_ref R0 6)) | exact Rn_ret (Agr rfl (Rel_ref R0 7))
      | (exfalso; omega)
  · rcases ix_cases p1 48 (by omega) with ht | ht | ⟨t, ht, rfl⟩
    · refine Rn_map (fun K => x_X7_where) ?_
      try simp (disch := omega) only [lit_0, lit_1, lit_2, lit_3, lit_4, lit_5, lit_6, lit_7, lit_8, lit_9, lit_10, lit_11, lit_12, lit_17, lit_20, lit_30, lit_31, lit_32, lit_47, lit_48, lit_60, lit_99, lit_100, lit_144, lit_200, lit_240, lit_300, lit_576, lit_960, lit_1008, lit_1000000, lit_100000000, true_implies, not_true_eq_false, false_implies, not_false_eq_true, true_and, and_true, neg_1, nI_add, pk_mul, nI_clamp, vp_nI, tI_lt, tI_le, tI_eq, tI_nI, tI_NN, tI_pred, xP, xW, xF, xG, xC, xN, xD, xB]
      repeat' (first | refine Rn_and (by first | omega | assumption) ?_ | refine Rn_pos (by first | omega | assumption) ?_ | refine Rn_neg (by first | omega | assumption) ?_ | refine Rn_pos' (by first | omega | assumption) ?_ | refine Rn_neg' (by first | omega | assumption) ?_ | refine Rn_if (fun _ => ?_) (fun _ => ?_) | refine Rn_if' (fun _ => ?_) (fun _ => ?_) | fail)
      all_goals (refine Rn_ret ?_; refine Rn_map (fun K => x_X8_where) ?_)
      all_goals try simp (disch := omega) only [lit_0, lit_1, lit_2, lit_3, lit_4, lit_5, lit_6, lit_7, lit_8, lit_9, lit_10, lit_11, lit_12, lit_17, lit_20, lit_30, lit_31, lit_32, lit_47, lit_48, lit_60, lit_99, lit_100, lit_144, lit_200, lit_240, lit_300, lit_576, lit_960, lit_1008, lit_1000000, lit_100000000, true_implies, not_true_eq_false, false_implies, not_false_eq_true, true_and, and_true, neg_1, nI_add, pk_mul, nI_clamp, vp_nI, tI_lt, tI_le, tI_eq, tI_nI, tI_NN, tI_pred, mP, mW, mF, mG, mC, mN, mD, mB]
      all_goals repeat' (first | refine Rn_and (by first | omega | assumption) ?_ | refine Rn_pos (by first | omega | assumption) ?_ | refine Rn_neg (by first | omega | assumption) ?_ | refine Rn_pos' (by first | omega | assumption) ?_ | refine Rn_neg' (by first | omega | assumption) ?_ | refine Rn_if (fun _ => ?_) (fun _ => ?_) | refine Rn_if' (fun _ => ?_) (fun _ => ?_) | fail)
      all_goals first
        | exact Rn_ret (Agr rfl R0)
        | exact Rn_ret (Agr rfl (Rel_ref R0 1)) | exact Rn_ret (Agr rfl (Rel_ref R0 2)) | exact Rn_ret (Agr rfl (Rel_ref R0 3)) | exact Rn_ret (Agr rfl (Rel_ref R0 4)) | exact Rn_ret (Agr rfl (Rel_ref R0 5)) | exact Rn_ret (Agr rfl (Rel_ref R0 6)) | exact Rn_ret (Agr rfl (Rel_ref R0 7))
        | (exfalso; omega)
    · refine Rn_map (fun K => x_X7_where) ?_
      try simp (disch := omega) only [lit_0, lit_1, lit_2, lit_3, lit_4, lit_5, lit_6, lit_7, lit_8, lit_9, lit_10, lit_11, lit_12, lit_17, lit_20, lit_30, lit_31, lit_32, lit_47, lit_48, lit_60, lit_99, lit_100, lit_144, lit_200, lit_240, lit_300, lit_576, lit_960, lit_1008, lit_1000000, lit_100000000, true_implies, not_true_eq_false, false_implies, not_false_eq_true, true_and, and_true, neg_1, nI_add, pk_mul, nI_clamp, vp_nI, tI_lt, tI_le, tI_eq, tI_nI, tI_NN, tI_pred, xP, xW, xF, xG, xC, xN, xD, xB]
      repeat' (first | refine Rn_and (by first | omega | assumption) ?_ | refine Rn_pos (by first | omega | assumption) ?_ | refine Rn_neg (by first | omega | assumption) ?_ | refine Rn_pos' (by first | omega | assumption) ?_ | refine Rn_neg' (by first | omega | assumption) ?_ | refine Rn_if (fun _ => ?_) (fun _ => ?_) | refine Rn_if' (fun _ => ?_) (fun _ => ?_) | fail)
      all_goals (refine Rn_ret ?_; refine Rn_map (fun K => x_X8_where) ?_)
      all_goals try simp (disch := omega) only [lit_0, lit_1, lit_2, lit_3, lit_4, lit_5, lit_6, lit_7, lit_8, lit_9, lit_10, lit_11, lit_12, lit_17, lit_20, lit_30, lit_31, lit_32, lit_47, lit_48, lit_60, lit_99, lit_100, lit_144, lit_200, lit_240, lit_300, lit_576, lit_960, lit_1008, lit_1000000, lit_100000000, true_implies, not_true_eq_false, false_implies, not_false_eq_true, true_and, and_true, neg_1, nI_add, pk_mul, nI_clamp, vp_nI, tI_lt, tI_le, tI_eq, tI_nI, tI_NN, tI_pred, mP, mW, mF, mG, mC, mN, mD, mB]
      all_goals repeat' (first | refine Rn_and (by first | omega | assumption) ?_ | refine Rn_pos (by first | omega | assumption) ?_ | refine Rn_neg (by first | omega | assumption) ?_ | refine Rn_pos' (by first | omega | assumption) ?_ | refine Rn_neg' (by first | omega | assumption) ?_ | refine Rn_if (fun _ => ?_) (fun _ => ?_) | refine Rn_if' (fun _ => ?_) (fun _ => ?_) | fail)
      all_goals first
        | exact Rn_ret (Agr rfl R0)
        | exact Rn_ret (Agr rfl (Rel_ref R0 1)) | exact Rn_ret (Agr rfl (Rel_ref R0 2)) | exact Rn_ret (Agr rfl (Rel_ref R0 3)) | exact Rn_ret (Agr rfl (Rel_ref R0 4)) | exact Rn_ret (Agr rfl (Rel_ref R0 5)) | exact Rn_ret (Agr rfl (Rel_ref R0 6)) | exact Rn_ret (Agr rfl (Rel_ref R0 7))
        | (exfalso; omega)
    · have e1 : σx.1 12 f t = σm.1 46 0 (48 * f + t) := gPlan f t (by omega) ht
      have e2 : B = 0 → σm.1 46 0 (48 * f + t) = NN := fun h => (gPln.1 f t (by omega) ht).2 (Or.inl h)
      refine Rn_map (fun K => x_X7_where) ?_
      try simp (disch := omega) only [lit_0, lit_1, lit_2, lit_3, lit_4, lit_5, lit_6, lit_7, lit_8, lit_9, lit_10, lit_11, lit_12, lit_17, lit_20, lit_30, lit_31, lit_32, lit_47, lit_48, lit_60, lit_99, lit_100, lit_144, lit_200, lit_240, lit_300, lit_576, lit_960, lit_1008, lit_1000000, lit_100000000, true_implies, not_true_eq_false, false_implies, not_false_eq_true, true_and, and_true, neg_1, nI_add, pk_mul, nI_clamp, vp_nI, tI_lt, tI_le, tI_eq, tI_nI, tI_NN, tI_pred, xP, xW, xF, xG, xC, xN, xD, xB]
      repeat' (first | refine Rn_and (by first | omega | assumption) ?_ | refine Rn_pos (by first | omega | assumption) ?_ | refine Rn_neg (by first | omega | assumption) ?_ | refine Rn_pos' (by first | omega | assumption) ?_ | refine Rn_neg' (by first | omega | assumption) ?_ | refine Rn_if (fun _ => ?_) (fun _ => ?_) | refine Rn_if' (fun _ => ?_) (fun _ => ?_) | fail)
      all_goals (refine Rn_ret ?_; refine Rn_map (fun K => x_X8_where) ?_)
      all_goals try simp (disch := omega) only [lit_0, lit_1, lit_2, lit_3, lit_4, lit_5, lit_6, lit_7, lit_8, lit_9, lit_10, lit_11, lit_12, lit_17, lit_20, lit_30, lit_31, lit_32, lit_47, lit_48, lit_60, lit_99, lit_100, lit_144, lit_200, lit_240, lit_300, lit_576, lit_960, lit_1008, lit_1000000, lit_100000000, true_implies, not_true_eq_false, false_implies, not_false_eq_true, true_and, and_true, neg_1, nI_add, pk_mul, nI_clamp, vp_nI, tI_lt, tI_le, tI_eq, tI_nI, tI_NN, tI_pred, mP, mW, mF, mG, mC, mN, mD, mB]
      all_goals repeat' (first | refine Rn_and (by first | omega | assumption) ?_ | refine Rn_pos (by first | omega | assumption) ?_ | refine Rn_neg (by first | omega | assumption) ?_ | refine Rn_pos' (by first | omega | assumption) ?_ | refine Rn_neg' (by first | omega | assumption) ?_ | refine Rn_if (fun _ => ?_) (fun _ => ?_) | refine Rn_if' (fun _ => ?_) (fun _ => ?_) | fail)
      all_goals first
        | exact Rn_ret (Agr rfl R0)
        | exact Rn_ret (Agr rfl (Rel_ref R0 1)) | exact Rn_ret (Agr rfl (Rel_ref R0 2)) | exact Rn_ret (Agr rfl (Rel_ref R0 3)) | exact Rn_ret (Agr rfl (Rel_ref R0 4)) | exact Rn_ret (Agr rfl (Rel_ref R0 5)) | exact Rn_ret (Agr rfl (Rel_ref R0 6)) | exact Rn_ret (Agr rfl (Rel_ref R0 7))
        | (exact Rn_ret (Agr e1 R0))
        | (exact Rn_ret (Agr (e1.trans (e2 (by omega))) R0))
        | (exfalso; omega)
theorem R_cost {σx σm : Mem} {dx dm : Nat} {p0 : Int32} (R : Rel σx σm) : Rn (fun K => CalI IX (dx + 3) S_X7_cost [ar 0 0, ai p0] σx K) (fun r sx => Rn (fun K => CalI IM (dm + 3) S_X8_cost [ar 30 0, ai p0] σm K) (fun r' sm => Agree r r' sx sm)) := by
  have R0 := R
  obtain ⟨P, W, F, G, C, N, D, B, w, l, gSc, gRef, gHrs, gLck, gWay, gFar, gDist, gShl, gCell, gHome, gKeys, gLike, gDuty, gGone, gBent, gPlan, gCost, gSeat, gMeet, gTly, gKnow, gFlt, gRow, gPln⟩ := R
  have hSc0 := gSc
  obtain ⟨⟨xP, mP, hP⟩, ⟨xW, mW, hW⟩, ⟨xF, mF, hF⟩, ⟨xG, mG, hG⟩, ⟨xC, mC, hC⟩, ⟨xN, mN, hN⟩, ⟨xD, mD, hD⟩, ⟨xB, mB, hB⟩, hpl, hb0⟩ := hSc0
  rcases ix_cases p0 F (by omega) with hf | hf | ⟨f, hf, rfl⟩
  · refine Rn_map (fun K => x_X7_cost) ?_
    try simp (disch := omega) only [lit_0, lit_1, lit_2, lit_3, lit_4, lit_5, lit_6, lit_7, lit_8, lit_9, lit_10, lit_11, lit_12, lit_17, lit_20, lit_30, lit_31, lit_32, lit_47, lit_48, lit_60, lit_99, lit_100, lit_144, lit_200, lit_240, lit_300, lit_576, lit_960, lit_1008, lit_1000000, lit_100000000, true_implies, not_true_eq_false, false_implies, not_false_eq_true, true_and, and_true, neg_1, nI_add, pk_mul, nI_clamp, vp_nI, tI_lt, tI_le, tI_eq, tI_nI, tI_NN, tI_pred, xP, xW, xF, xG, xC, xN, xD, xB]
    repeat' (first | refine Rn_and (by first | omega | assumption) ?_ | refine Rn_pos (by first | omega | assumption) ?_ | refine Rn_neg (by first | omega | assumption) ?_ | refine Rn_pos' (by first | omega | assumption) ?_ | refine Rn_neg' (by first | omega | assumption) ?_ | refine Rn_if (fun _ => ?_) (fun _ => ?_) | refine Rn_if' (fun _ => ?_) (fun _ => ?_) | fail)
    all_goals (refine Rn_ret ?_; refine Rn_map (fun K => x_X8_cost) ?_)
    all_goals try simp (disch := omega) only [lit_0, lit_1, lit_2, lit_3, lit_4, lit_5, lit_6, lit_7, lit_8, lit_9, lit_10, lit_11, lit_12, lit_17, lit_20, lit_30, lit_31, lit_32, lit_47, lit_48, lit_60, lit_99, lit_100, lit_144, lit_200, lit_240, lit_300, lit_576, lit_960, lit_1008, lit_1000000, lit_100000000, true_implies, not_true_eq_false, false_implies, not_false_eq_true, true_and, and_true, neg_1, nI_add, pk_mul, nI_clamp, vp_nI, tI_lt, tI_le, tI_eq, tI_nI, tI_NN, tI_pred, mP, mW, mF, mG, mC, mN, mD, mB]
    all_goals repeat' (first | refine Rn_and (by first | omega | assumption) ?_ | refine Rn_pos (by first | omega | assumption) ?_ | refine Rn_neg (by first | omega | assumption) ?_ | refine Rn_pos' (by first | omega | assumption) ?_ | refine Rn_neg' (by first | omega | assumption) ?_ | refine Rn_if (fun _ => ?_) (fun _ => ?_) | refine Rn_if' (fun _ => ?_) (fun _ => ?_) | fail)
    all_goals first
      | exact Rn_ret (Agr rfl R0)
      | exact Rn_ret (Agr rfl (Rel_ref R0 1)) | exact Rn_ret (Agr rfl (Rel_ref R0 2)) | exact Rn_ret (Agr rfl (Rel_ref R0 3)) | exact Rn_ret (Agr rfl (Rel_ref R0 4)) | exact Rn_ret (Agr rfl (Rel_ref R0 5)) | exact Rn_ret (Agr rfl (Rel_ref R0 6)) | exact Rn_ret (Agr rfl (Rel_ref R0 7))
      | (exfalso; omega)
  · refine Rn_map (fun K => x_X7_cost) ?_
    try simp (disch := omega) only [lit_0, lit_1, lit_2, lit_3, lit_4, lit_5, lit_6, lit_7, lit_8, lit_9, lit_10, lit_11, lit_12, lit_17, lit_20, lit_30, lit_31, lit_32, lit_47, lit_48, lit_60, lit_99, lit_100, lit_144, lit_200, lit_240, lit_300, lit_576, lit_960, lit_1008, lit_1000000, lit_100000000, true_implies, not_true_eq_false, false_implies, not_false_eq_true, true_and, and_true, neg_1, nI_add, pk_mul, nI_clamp, vp_nI, tI_lt, tI_le, tI_eq, tI_nI, tI_NN, tI_pred, xP, xW, xF, xG, xC, xN, xD, xB]
    repeat' (first | refine Rn_and (by first | omega | assumption) ?_ | refine Rn_pos (by first | omega | assumption) ?_ | refine Rn_neg (by first | omega | assumption) ?_ | refine Rn_pos' (by first | omega | assumption) ?_ | refine Rn_neg' (by first | omega | assumption) ?_ | refine Rn_if (fun _ => ?_) (fun _ => ?_) | refine Rn_if' (fun _ => ?_) (fun _ => ?_) | fail)
    all_goals (refine Rn_ret ?_; refine Rn_map (fun K => x_X8_cost) ?_)
    all_goals try simp (disch := omega) only [lit_0, lit_1, lit_2, lit_3, lit_4, lit_5, lit_6, lit_7, lit_8, lit_9, lit_10, lit_11, lit_12, lit_17, lit_20, lit_30, lit_31, lit_32, lit_47, lit_48, lit_60, lit_99, lit_100, lit_144, lit_200, lit_240, lit_300, lit_576, lit_960, lit_1008, lit_1000000, lit_100000000, true_implies, not_true_eq_false, false_implies, not_false_eq_true, true_and, and_true, neg_1, nI_add, pk_mul, nI_clamp, vp_nI, tI_lt, tI_le, tI_eq, tI_nI, tI_NN, tI_pred, mP, mW, mF, mG, mC, mN, mD, mB]
    all_goals repeat' (first | refine Rn_and (by first | omega | assumption) ?_ | refine Rn_pos (by first | omega | assumption) ?_ | refine Rn_neg (by first | omega | assumption) ?_ | refine Rn_pos' (by first | omega | assumption) ?_ | refine Rn_neg' (by first | omega | assumption) ?_ | refine Rn_if (fun _ => ?_) (fun _ => ?_) | refine Rn_if' (fun _ => ?_) (fun _ => ?_) | fail)
    all_goals first
      | exact Rn_ret (Agr rfl R0)
      | exact Rn_ret (Agr rfl (Rel_ref R0 1)) | exact Rn_ret (Agr rfl (Rel_ref R0 2)) | exact Rn_ret (Agr rfl (Rel_ref R0 3)) | exact Rn_ret (Agr rfl (Rel_ref R0 4)) | exact Rn_ret (Agr rfl (Rel_ref R0 5)) | exact Rn_ret (Agr rfl (Rel_ref R0 6)) | exact Rn_ret (Agr rfl (Rel_ref R0 7))
      | (exfalso; omega)
  · have e1 : σx.1 9 f 10 = σm.1 47 0 f := gCost f (by omega)
    have e2 : (σx.1 9 f 13).toInt = (σm.1 43 0 f).toInt := congrArg _ (gGone f (by omega)).1
    refine Rn_map (fun K => x_X7_cost) ?_
    try simp (disch := omega) only [lit_0, lit_1, lit_2, lit_3, lit_4, lit_5, lit_6, lit_7, lit_8, lit_9, lit_10, lit_11, lit_12, lit_17, lit_20, lit_30, lit_31, lit_32, lit_47, lit_48, lit_60, lit_99, lit_100, lit_144, lit_200, lit_240, lit_300, lit_576, lit_960, lit_1008, lit_1000000, lit_100000000, true_implies, not_true_eq_false, false_implies, not_false_eq_true, true_and, and_true, neg_1, nI_add, pk_mul, nI_clamp, vp_nI, tI_lt, tI_le, tI_eq, tI_nI, tI_NN, tI_pred, xP, xW, xF, xG, xC, xN, xD, xB]
    repeat' (first | refine Rn_and (by first | omega | assumption) ?_ | refine Rn_pos (by first | omega | assumption) ?_ | refine Rn_neg (by first | omega | assumption) ?_ | refine Rn_pos' (by first | omega | assumption) ?_ | refine Rn_neg' (by first | omega | assumption) ?_ | refine Rn_if (fun _ => ?_) (fun _ => ?_) | refine Rn_if' (fun _ => ?_) (fun _ => ?_) | fail)
    all_goals (refine Rn_ret ?_; refine Rn_map (fun K => x_X8_cost) ?_)
    all_goals try simp (disch := omega) only [lit_0, lit_1, lit_2, lit_3, lit_4, lit_5, lit_6, lit_7, lit_8, lit_9, lit_10, lit_11, lit_12, lit_17, lit_20, lit_30, lit_31, lit_32, lit_47, lit_48, lit_60, lit_99, lit_100, lit_144, lit_200, lit_240, lit_300, lit_576, lit_960, lit_1008, lit_1000000, lit_100000000, true_implies, not_true_eq_false, false_implies, not_false_eq_true, true_and, and_true, neg_1, nI_add, pk_mul, nI_clamp, vp_nI, tI_lt, tI_le, tI_eq, tI_nI, tI_NN, tI_pred, mP, mW, mF, mG, mC, mN, mD, mB]
    all_goals repeat' (first | refine Rn_and (by first | omega | assumption) ?_ | refine Rn_pos (by first | omega | assumption) ?_ | refine Rn_neg (by first | omega | assumption) ?_ | refine Rn_pos' (by first | omega | assumption) ?_ | refine Rn_neg' (by first | omega | assumption) ?_ | refine Rn_if (fun _ => ?_) (fun _ => ?_) | refine Rn_if' (fun _ => ?_) (fun _ => ?_) | fail)
    all_goals first
      | exact Rn_ret (Agr rfl R0)
      | exact Rn_ret (Agr rfl (Rel_ref R0 1)) | exact Rn_ret (Agr rfl (Rel_ref R0 2)) | exact Rn_ret (Agr rfl (Rel_ref R0 3)) | exact Rn_ret (Agr rfl (Rel_ref R0 4)) | exact Rn_ret (Agr rfl (Rel_ref R0 5)) | exact Rn_ret (Agr rfl (Rel_ref R0 6)) | exact Rn_ret (Agr rfl (Rel_ref R0 7))
      | (exact Rn_ret (Agr e1 R0))
      | (exfalso; omega)
theorem R_seated {σx σm : Mem} {dx dm : Nat} {p0 p1 : Int32} (R : Rel σx σm) : Rn (fun K => CalI IX (dx + 2) S_X7_seated [ar 0 0, ai p0, ai p1] σx K) (fun r sx => Rn (fun K => CalI IM (dm + 3) S_X8_seated [ar 30 0, ai p0, ai p1] σm K) (fun r' sm => Agree r r' sx sm)) := by
  have R0 := R
  obtain ⟨P, W, F, G, C, N, D, B, w, l, gSc, gRef, gHrs, gLck, gWay, gFar, gDist, gShl, gCell, gHome, gKeys, gLike, gDuty, gGone, gBent, gPlan, gCost, gSeat, gMeet, gTly, gKnow, gFlt, gRow, gPln⟩ := R
  have hSc0 := gSc
  obtain ⟨⟨xP, mP, hP⟩, ⟨xW, mW, hW⟩, ⟨xF, mF, hF⟩, ⟨xG, mG, hG⟩, ⟨xC, mC, hC⟩, ⟨xN, mN, hN⟩, ⟨xD, mD, hD⟩, ⟨xB, mB, hB⟩, hpl, hb0⟩ := hSc0
  rcases ix_cases p0 P (by omega) with hp | hp | ⟨p, hp, rfl⟩
  · refine Rn_map (fun K => x_X7_seated) ?_
    try simp (disch := omega) only [lit_0, lit_1, lit_2, lit_3, lit_4, lit_5, lit_6, lit_7, lit_8, lit_9, lit_10, lit_11, lit_12, lit_17, lit_20, lit_30, lit_31, lit_32, lit_47, lit_48, lit_60, lit_99, lit_100, lit_144, lit_200, lit_240, lit_300, lit_576, lit_960, lit_1008, lit_1000000, lit_100000000, true_implies, not_true_eq_false, false_implies, not_false_eq_true, true_and, and_true, neg_1, nI_add, pk_mul, nI_clamp, vp_nI, tI_lt, tI_le, tI_eq, tI_nI, tI_NN, tI_pred, xP, xW, xF, xG, xC, xN, xD, xB]
    repeat' (first | refine Rn_and (by first | omega | assumption) ?_ | refine Rn_pos (by first | omega | assumption) ?_ | refine Rn_neg (by first | omega | assumption) ?_ | refine Rn_pos' (by first | omega | assumption) ?_ | refine Rn_neg' (by first | omega | assumption) ?_ | refine Rn_if (fun _ => ?_) (fun _ => ?_) | refine Rn_if' (fun _ => ?_) (fun _ => ?_) | fail)
    all_goals (refine Rn_ret ?_; refine Rn_map (fun K => x_X8_seated) ?_)
    all_goals try simp (disch := omega) only [lit_0, lit_1, lit_2, lit_3, lit_4, lit_5, lit_6, lit_7, lit_8, lit_9, lit_10, lit_11, lit_12, lit_17, lit_20, lit_30, lit_31, lit_32, lit_47, lit_48, lit_60, lit_99, lit_100, lit_144, lit_200, lit_240, lit_300, lit_576, lit_960, lit_1008, lit_1000000, lit_100000000, true_implies, not_true_eq_false, false_implies, not_false_eq_true, true_and, and_true, neg_1, nI_add, pk_mul, nI_clamp, vp_nI, tI_lt, tI_le, tI_eq, tI_nI, tI_NN, tI_pred, mP, mW, mF, mG, mC, mN, mD, mB]
    all_goals repeat' (first | refine Rn_and (by first | omega | assumption) ?_ | refine Rn_pos (by first | omega | assumption) ?_ | refine Rn_neg (by first | omega | assumption) ?_ | refine Rn_pos' (by first | omega | assumption) ?_ | refine Rn_neg' (by first | omega | assumption) ?_ | refine Rn_if (fun _ => ?_) (fun _ => ?_) | refine Rn_if' (fun _ => ?_) (fun _ => ?_) | fail)
    all_goals first
      | exact Rn_ret (Agr rfl R0)
      | exact Rn_ret (Agr rfl (Rel_ref R0 1)) | exact Rn_ret (Agr rfl (Rel_ref R0 2)) | exact Rn_ret (Agr rfl (Rel_ref R0 3)) | exact Rn_ret (Agr rfl (Rel_ref R0 4)) | exact Rn_ret (Agr rfl (Rel_ref R0 5)) | exact Rn_ret (Agr rfl (Rel_ref R0 6)) | exact Rn_ret (Agr rfl (Rel_ref R0 7))
      | (exfalso; omega)
  · refine Rn_map (fun K => x_X7_seated) ?_
    try simp (disch := omega) only [lit_0, lit_1, lit_2, lit_3, lit_4, lit_5, lit_6, lit_7, lit_8, lit_9, lit_10, lit_11, lit_12, lit_17, lit_20, lit_30, lit_31, lit_32, lit_47, lit_48, lit_60, lit_99, lit_100, lit_144, lit_200, lit_240, lit_300, lit_576, lit_960, lit_1008, lit_1000000, lit_100000000, true_implies, not_true_eq_false, false_implies, not_false_eq_true, true_and, and_true, neg_1, nI_add, pk_mul, nI_clamp, vp_nI, tI_lt, tI_le, tI_eq, tI_nI, tI_NN, tI_pred, xP, xW, xF, xG, xC, xN, xD, xB]
    repeat' (first | refine Rn_and (by first | omega | assumption) ?_ | refine Rn_pos (by first | omega | assumption) ?_ | refine Rn_neg (by first | omega | assumption) ?_ | refine Rn_pos' (by first | omega | assumption) ?_ | refine Rn_neg' (by first | omega | assumption) ?_ | refine Rn_if (fun _ => ?_) (fun _ => ?_) | refine Rn_if' (fun _ => ?_) (fun _ => ?_) | fail)
    all_goals (refine Rn_ret ?_; refine Rn_map (fun K => x_X8_seated) ?_)
    all_goals try simp (disch := omega) only [lit_0, lit_1, lit_2, lit_3, lit_4, lit_5, lit_6, lit_7, lit_8, lit_9, lit_10, lit_11, lit_12, lit_17, lit_20, lit_30, lit_31, lit_32, lit_47, lit_48, lit_60, lit_99, lit_100, lit_144, lit_200, lit_240, lit_300, lit_576, lit_960, lit_1008, lit_1000000, lit_100000000, true_implies, not_true_eq_false, false_implies, not_false_eq_true, true_and, and_true, neg_1, nI_add, pk_mul, nI_clamp, vp_nI, tI_lt, tI_le, tI_eq, tI_nI, tI_NN, tI_pred, mP, mW, mF, mG, mC, mN, mD, mB]
    all_goals repeat' (first | refine Rn_and (by first | omega | assumption) ?_ | refine Rn_pos (by first | omega | assumption) ?_ | refine Rn_neg (by first | omega | assumption) ?_ | refine Rn_pos' (by first | omega | assumption) ?_ | refine Rn_neg' (by first | omega | assumption) ?_ | refine Rn_if (fun _ => ?_) (fun _ => ?_) | refine Rn_if' (fun _ => ?_) (fun _ => ?_) | fail)
    all_goals first
      | exact Rn_ret (Agr rfl R0)
      | exact Rn_ret (Agr rfl (Rel_ref R0 1)) | exact Rn_ret (Agr rfl (Rel_ref R0 2)) | exact Rn_ret (Agr rfl (Rel_ref R0 3)) | exact Rn_ret (Agr rfl (Rel_ref R0 4)) | exact Rn_ret (Agr rfl (Rel_ref R0 5)) | exact Rn_ret (Agr rfl (Rel_ref R0 6)) | exact Rn_ret (Agr rfl (Rel_ref R0 7))
      | (exfalso; omega)
  · rcases ix_cases p1 48 (by omega) with ht | ht | ⟨t, ht, rfl⟩
    · refine Rn_map (fun K => x_X7_seated) ?_
      try simp (disch := omega) only [lit_0, lit_1, lit_2, lit_3, lit_4, lit_5, lit_6, lit_7, lit_8, lit_9, lit_10, lit_11, lit_12, lit_17, lit_20, lit_30, lit_31, lit_32, lit_47, lit_48, lit_60, lit_99, lit_100, lit_144, lit_200, lit_240, lit_300, lit_576, lit_960, lit_1008, lit_1000000, lit_100000000, true_implies, not_true_eq_false, false_implies, not_false_eq_true, true_and, and_true, neg_1, nI_add, pk_mul, nI_clamp, vp_nI, tI_lt, tI_le, tI_eq, tI_nI, tI_NN, tI_pred, xP, xW, xF, xG, xC, xN, xD, xB]
      repeat' (first | refine Rn_and (by first | omega | assumption) ?_ | refine Rn_pos (by first | omega | assumption) ?_ | refine Rn_neg (by first | omega | assumption) ?_ | refine Rn_pos' (by first | omega | assumption) ?_ | refine Rn_neg' (by first | omega | assumption) ?_ | refine Rn_if (fun _ => ?_) (fun _ => ?_) | refine Rn_if' (fun _ => ?_) (fun _ => ?_) | fail)
      all_goals (refine Rn_ret ?_; refine Rn_map (fun K => x_X8_seated) ?_)
      all_goals try simp (disch := omega) only [lit_0, lit_1, lit_2, lit_3, lit_4, lit_5, lit_6, lit_7, lit_8, lit_9, lit_10, lit_11, lit_12, lit_17, lit_20, lit_30, lit_31, lit_32, lit_47, lit_48, lit_60, lit_99, lit_100, lit_144, lit_200, lit_240, lit_300, lit_576, lit_960, lit_1008, lit_1000000, lit_100000000, true_implies, not_true_eq_false, false_implies, not_false_eq_true, true_and, and_true, neg_1, nI_add, pk_mul, nI_clamp, vp_nI, tI_lt, tI_le, tI_eq, tI_nI, tI_NN, tI_pred, mP, mW, mF, mG, mC, mN, mD, mB]
      all_goals repeat' (first | refine Rn_and (by first | omega | assumption) ?_ | refine Rn_pos (by first | omega | assumption) ?_ | refine Rn_neg (by first | omega | assumption) ?_ | refine Rn_pos' (by first | omega | assumption) ?_ | refine Rn_neg' (by first | omega | assumption) ?_ | refine Rn_if (fun _ => ?_) (fun _ => ?_) | refine Rn_if' (fun _ => ?_) (fun _ => ?_) | fail)
      all_goals first
        | exact Rn_ret (Agr rfl R0)
        | exact Rn_ret (Agr rfl (Rel_ref R0 1)) | exact Rn_ret (Agr rfl (Rel_ref R0 2)) | exact Rn_ret (Agr rfl (Rel_ref R0 3)) | exact Rn_ret (Agr rfl (Rel_ref R0 4)) | exact Rn_ret (Agr rfl (Rel_ref R0 5)) | exact Rn_ret (Agr rfl (Rel_ref R0 6)) | exact Rn_ret (Agr rfl (Rel_ref R0 7))
        | (exfalso; omega)
    · refine Rn_map (fun K => x_X7_seated) ?_
      try simp (disch := omega) only [lit_0, lit_1, lit_2, lit_3, lit_4, lit_5, lit_6, lit_7, lit_8, lit_9, lit_10, lit_11, lit_12, lit_17, lit_20, lit_30, lit_31, lit_32, lit_47, lit_48, lit_60, lit_99, lit_100, lit_144, lit_200, lit_240, lit_300, lit_576, lit_960, lit_1008, lit_1000000, lit_100000000, true_implies, not_true_eq_false, false_implies, not_false_eq_true, true_and, and_true, neg_1, nI_add, pk_mul, nI_clamp, vp_nI, tI_lt, tI_le, tI_eq, tI_nI, tI_NN, tI_pred, xP, xW, xF, xG, xC, xN, xD, xB]
      repeat' (first | refine Rn_and (by first | omega | assumption) ?_ | refine Rn_pos (by first | omega | assumption) ?_ | refine Rn_neg (by first | omega | assumption) ?_ | refine Rn_pos' (by first | omega | assumption) ?_ | refine Rn_neg' (by first | omega | assumption) ?_ | refine Rn_if (fun _ => ?_) (fun _ => ?_) | refine Rn_if' (fun _ => ?_) (fun _ => ?_) | fail)
      all_goals (refine Rn_ret ?_; refine Rn_map (fun K => x_X8_seated) ?_)
      all_goals try simp (disch := omega) only [lit_0, lit_1, lit_2, lit_3, lit_4, lit_5, lit_6, lit_7, lit_8, lit_9, lit_10, lit_11, lit_12, lit_17, lit_20, lit_30, lit_31, lit_32, lit_47, lit_48, lit_60, lit_99, lit_100, lit_144, lit_200, lit_240, lit_300, lit_576, lit_960, lit_1008, lit_1000000, lit_100000000, true_implies, not_true_eq_false, false_implies, not_false_eq_true, true_and, and_true, neg_1, nI_add, pk_mul, nI_clamp, vp_nI, tI_lt, tI_le, tI_eq, tI_nI, tI_NN, tI_pred, mP, mW, mF, mG, mC, mN, mD, mB]
      all_goals repeat' (first | refine Rn_and (by first | omega | assumption) ?_ | refine Rn_pos (by first | omega | assumption) ?_ | refine Rn_neg (by first | omega | assumption) ?_ | refine Rn_pos' (by first | omega | assumption) ?_ | refine Rn_neg' (by first | omega | assumption) ?_ | refine Rn_if (fun _ => ?_) (fun _ => ?_) | refine Rn_if' (fun _ => ?_) (fun _ => ?_) | fail)
      all_goals first
        | exact Rn_ret (Agr rfl R0)
        | exact Rn_ret (Agr rfl (Rel_ref R0 1)) | exact Rn_ret (Agr rfl (Rel_ref R0 2)) | exact Rn_ret (Agr rfl (Rel_ref R0 3)) | exact Rn_ret (Agr rfl (Rel_ref R0 4)) | exact Rn_ret (Agr rfl (Rel_ref R0 5)) | exact Rn_ret (Agr rfl (Rel_ref R0 6)) | exact Rn_ret (Agr rfl (Rel_ref R0 7))
        | (exfalso; omega)
    · have e1 : σx.1 16 0 (p * 48 + t) = σm.1 48 0 (48 * p + t) := by rw [Nat.mul_comm]; exact gSeat _ (by omega)
      refine Rn_map (fun K => x_X7_seated) ?_
      try simp (disch := omega) only [lit_0, lit_1, lit_2, lit_3, lit_4, lit_5, lit_6, lit_7, lit_8, lit_9, lit_10, lit_11, lit_12, lit_17, lit_20, lit_30, lit_31, lit_32, lit_47, lit_48, lit_60, lit_99, lit_100, lit_144, lit_200, lit_240, lit_300, lit_576, lit_960, lit_1008, lit_1000000, lit_100000000, true_implies, not_true_eq_false, false_implies, not_false_eq_true, true_and, and_true, neg_1, nI_add, pk_mul, nI_clamp, vp_nI, tI_lt, tI_le, tI_eq, tI_nI, tI_NN, tI_pred, xP, xW, xF, xG, xC, xN, xD, xB]
      repeat' (first | refine Rn_and (by first | omega | assumption) ?_ | refine Rn_pos (by first | omega | assumption) ?_ | refine Rn_neg (by first | omega | assumption) ?_ | refine Rn_pos' (by first | omega | assumption) ?_ | refine Rn_neg' (by first | omega | assumption) ?_ | refine Rn_if (fun _ => ?_) (fun _ => ?_) | refine Rn_if' (fun _ => ?_) (fun _ => ?_) | fail)
      all_goals (refine Rn_ret ?_; refine Rn_map (fun K => x_X8_seated) ?_)
      all_goals try simp (disch := omega) only [lit_0, lit_1, lit_2, lit_3, lit_4, lit_5, lit_6, lit_7, lit_8, lit_9, lit_10, lit_11, lit_12, lit_17, lit_20, lit_30, lit_31, lit_32, lit_47, lit_48, lit_60, lit_99, lit_100, lit_144, lit_200, lit_240, lit_300, lit_576, lit_960, lit_1008, lit_1000000, lit_100000000, true_implies, not_true_eq_false, false_implies, not_false_eq_true, true_and, and_true, neg_1, nI_add, pk_mul, nI_clamp, vp_nI, tI_lt, tI_le, tI_eq, tI_nI, tI_NN, tI_pred, mP, mW, mF, mG, mC, mN, mD, mB]
      all_goals repeat' (first | refine Rn_and (by first | omega | assumption) ?_ | refine Rn_pos (by first | omega | assumption) ?_ | refine Rn_neg (by first | omega | assumption) ?_ | refine Rn_pos' (by first | omega | assumption) ?_ | refine Rn_neg' (by first | omega | assumption) ?_ | refine Rn_if (fun _ => ?_) (fun _ => ?_) | refine Rn_if' (fun _ => ?_) (fun _ => ?_) | fail)
      all_goals first
        | exact Rn_ret (Agr rfl R0)
        | exact Rn_ret (Agr rfl (Rel_ref R0 1)) | exact Rn_ret (Agr rfl (Rel_ref R0 2)) | exact Rn_ret (Agr rfl (Rel_ref R0 3)) | exact Rn_ret (Agr rfl (Rel_ref R0 4)) | exact Rn_ret (Agr rfl (Rel_ref R0 5)) | exact Rn_ret (Agr rfl (Rel_ref R0 6)) | exact Rn_ret (Agr rfl (Rel_ref R0 7))
        | (exact Rn_ret (Agr e1 R0))
        | (exfalso; omega)
theorem R_far {σx σm : Mem} {dx dm : Nat} {p0 p1 : Int32} (R : Rel σx σm) : Rn (fun K => CalI IX (dx + 2) S_X7_far [ar 0 0, ai p0, ai p1] σx K) (fun r sx => Rn (fun K => CalI IM (dm + 3) S_X8_far [ar 30 0, ai p0, ai p1] σm K) (fun r' sm => Agree r r' sx sm)) := by
  have R0 := R
  obtain ⟨P, W, F, G, C, N, D, B, w, l, gSc, gRef, gHrs, gLck, gWay, gFar, gDist, gShl, gCell, gHome, gKeys, gLike, gDuty, gGone, gBent, gPlan, gCost, gSeat, gMeet, gTly, gKnow, gFlt, gRow, gPln⟩ := R
  have hSc0 := gSc
  obtain ⟨⟨xP, mP, hP⟩, ⟨xW, mW, hW⟩, ⟨xF, mF, hF⟩, ⟨xG, mG, hG⟩, ⟨xC, mC, hC⟩, ⟨xN, mN, hN⟩, ⟨xD, mD, hD⟩, ⟨xB, mB, hB⟩, hpl, hb0⟩ := hSc0
  rcases ix_cases p0 P (by omega) with ha | ha | ⟨a, ha, rfl⟩
  · refine Rn_map (fun K => x_X7_far) ?_
    try simp (disch := omega) only [lit_0, lit_1, lit_2, lit_3, lit_4, lit_5, lit_6, lit_7, lit_8, lit_9, lit_10, lit_11, lit_12, lit_17, lit_20, lit_30, lit_31, lit_32, lit_47, lit_48, lit_60, lit_99, lit_100, lit_144, lit_200, lit_240, lit_300, lit_576, lit_960, lit_1008, lit_1000000, lit_100000000, true_implies, not_true_eq_false, false_implies, not_false_eq_true, true_and, and_true, neg_1, nI_add, pk_mul, nI_clamp, vp_nI, tI_lt, tI_le, tI_eq, tI_nI, tI_NN, tI_pred, xP, xW, xF, xG, xC, xN, xD, xB]
    repeat' (first | refine Rn_and (by first | omega | assumption) ?_ | refine Rn_pos (by first | omega | assumption) ?_ | refine Rn_neg (by first | omega | assumption) ?_ | refine Rn_pos' (by first | omega | assumption) ?_ | refine Rn_neg' (by first | omega | assumption) ?_ | refine Rn_if (fun _ => ?_) (fun _ => ?_) | refine Rn_if' (fun _ => ?_) (fun _ => ?_) | fail)
    all_goals (refine Rn_ret ?_; refine Rn_map (fun K => x_X8_far) ?_)
    all_goals try simp (disch := omega) only [lit_0, lit_1, lit_2, lit_3, lit_4, lit_5, lit_6, lit_7, lit_8, lit_9, lit_10, lit_11, lit_12, lit_17, lit_20, lit_30, lit_31, lit_32, lit_47, lit_48, lit_60, lit_99, lit_100, lit_144, lit_200, lit_240, lit_300, lit_576, lit_960, lit_1008, lit_1000000, lit_100000000, true_implies, not_true_eq_false, false_implies, not_false_eq_true, true_and, and_true, neg_1, nI_add, pk_mul, nI_clamp, vp_nI, tI_lt, tI_le, tI_eq, tI_nI, tI_NN, tI_pred, mP, mW, mF, mG, mC, mN, mD, mB]
    all_goals repeat' (first | refine Rn_and (by first | omega | assumption) ?_ | refine Rn_pos (by first | omega | assumption) ?_ | refine Rn_neg (by first | omega | assumption) ?_ | refine Rn_pos' (by first | omega | assumption) ?_ | refine Rn_neg' (by first | omega | assumption) ?_ | refine Rn_if (fun _ => ?_) (fun _ => ?_) | refine Rn_if' (fun _ => ?_) (fun _ => ?_) | fail)
    all_goals first
      | exact Rn_ret (Agr rfl R0)
      | exact Rn_ret (Agr rfl (Rel_ref R0 1)) | exact Rn_ret (Agr rfl (Rel_ref R0 2)) | exact Rn_ret (Agr rfl (Rel_ref R0 3)) | exact Rn_ret (Agr rfl (Rel_ref R0 4)) | exact Rn_ret (Agr rfl (Rel_ref R0 5)) | exact Rn_ret (Agr rfl (Rel_ref R0 6)) | exact Rn_ret (Agr rfl (Rel_ref R0 7))
      | (exfalso; omega)
  · refine Rn_map (fun K => x_X7_far) ?_
    try simp (disch := omega) only [lit_0, lit_1, lit_2, lit_3, lit_4, lit_5, lit_6, lit_7, lit_8, lit_9, lit_10, lit_11, lit_12, lit_17, lit_20, lit_30, lit_31, lit_32, lit_47, lit_48, lit_60, lit_99, lit_100, lit_144, lit_200, lit_240, lit_300, lit_576, lit_960, lit_1008, lit_1000000, lit_100000000, true_implies, not_true_eq_false, false_implies, not_false_eq_true, true_and, and_true, neg_1, nI_add, pk_mul, nI_clamp, vp_nI, tI_lt, tI_le, tI_eq, tI_nI, tI_NN, tI_pred, xP, xW, xF, xG, xC, xN, xD, xB]
    repeat' (first | refine Rn_and (by first | omega | assumption) ?_ | refine Rn_pos (by first | omega | assumption) ?_ | refine Rn_neg (by first | omega | assumption) ?_ | refine Rn_pos' (by first | omega | assumption) ?_ | refine Rn_neg' (by first | omega | assumption) ?_ | refine Rn_if (fun _ => ?_) (fun _ => ?_) | refine Rn_if' (fun _ => ?_) (fun _ => ?_) | fail)
    all_goals (refine Rn_ret ?_; refine Rn_map (fun K => x_X8_far) ?_)
    all_goals try simp (disch := omega) only [lit_0, lit_1, lit_2, lit_3, lit_4, lit_5, lit_6, lit_7, lit_8, lit_9, lit_10, lit_11, lit_12, lit_17, lit_20, lit_30, lit_31, lit_32, lit_47, lit_48, lit_60, lit_99, lit_100, lit_144, lit_200, lit_240, lit_300, lit_576, lit_960, lit_1008, lit_1000000, lit_100000000, true_implies, not_true_eq_false, false_implies, not_false_eq_true, true_and, and_true, neg_1, nI_add, pk_mul, nI_clamp, vp_nI, tI_lt, tI_le, tI_eq, tI_nI, tI_NN, tI_pred, mP, mW, mF, mG, mC, mN, mD, mB]
    all_goals repeat' (first | refine Rn_and (by first | omega | assumption) ?_ | refine Rn_pos (by first | omega | assumption) ?_ | refine Rn_neg (by first | omega | assumption) ?_ | refine Rn_pos' (by first | omega | assumption) ?_ | refine Rn_neg' (by first | omega | assumption) ?_ | refine Rn_if (fun _ => ?_) (fun _ => ?_) | refine Rn_if' (fun _ => ?_) (fun _ => ?_) | fail)
    all_goals first
      | exact Rn_ret (Agr rfl R0)
      | exact Rn_ret (Agr rfl (Rel_ref R0 1)) | exact Rn_ret (Agr rfl (Rel_ref R0 2)) | exact Rn_ret (Agr rfl (Rel_ref R0 3)) | exact Rn_ret (Agr rfl (Rel_ref R0 4)) | exact Rn_ret (Agr rfl (Rel_ref R0 5)) | exact Rn_ret (Agr rfl (Rel_ref R0 6)) | exact Rn_ret (Agr rfl (Rel_ref R0 7))
      | (exfalso; omega)
  · rcases ix_cases p1 P (by omega) with hb | hb | ⟨b, hb, rfl⟩
    · refine Rn_map (fun K => x_X7_far) ?_
      try simp (disch := omega) only [lit_0, lit_1, lit_2, lit_3, lit_4, lit_5, lit_6, lit_7, lit_8, lit_9, lit_10, lit_11, lit_12, lit_17, lit_20, lit_30, lit_31, lit_32, lit_47, lit_48, lit_60, lit_99, lit_100, lit_144, lit_200, lit_240, lit_300, lit_576, lit_960, lit_1008, lit_1000000, lit_100000000, true_implies, not_true_eq_false, false_implies, not_false_eq_true, true_and, and_true, neg_1, nI_add, pk_mul, nI_clamp, vp_nI, tI_lt, tI_le, tI_eq, tI_nI, tI_NN, tI_pred, xP, xW, xF, xG, xC, xN, xD, xB]
      repeat' (first | refine Rn_and (by first | omega | assumption) ?_ | refine Rn_pos (by first | omega | assumption) ?_ | refine Rn_neg (by first | omega | assumption) ?_ | refine Rn_pos' (by first | omega | assumption) ?_ | refine Rn_neg' (by first | omega | assumption) ?_ | refine Rn_if (fun _ => ?_) (fun _ => ?_) | refine Rn_if' (fun _ => ?_) (fun _ => ?_) | fail)
      all_goals (refine Rn_ret ?_; refine Rn_map (fun K => x_X8_far) ?_)
      all_goals try simp (disch := omega) only [lit_0, lit_1, lit_2, lit_3, lit_4, lit_5, lit_6, lit_7, lit_8, lit_9, lit_10, lit_11, lit_12, lit_17, lit_20, lit_30, lit_31, lit_32, lit_47, lit_48, lit_60, lit_99, lit_100, lit_144, lit_200, lit_240, lit_300, lit_576, lit_960, lit_1008, lit_1000000, lit_100000000, true_implies, not_true_eq_false, false_implies, not_false_eq_true, true_and, and_true, neg_1, nI_add, pk_mul, nI_clamp, vp_nI, tI_lt, tI_le, tI_eq, tI_nI, tI_NN, tI_pred, mP, mW, mF, mG, mC, mN, mD, mB]
      all_goals repeat' (first | refine Rn_and (by first | omega | assumption) ?_ | refine Rn_pos (by first | omega | assumption) ?_ | refine Rn_neg (by first | omega | assumption) ?_ | refine Rn_pos' (by first | omega | assumption) ?_ | refine Rn_neg' (by first | omega | assumption) ?_ | refine Rn_if (fun _ => ?_) (fun _ => ?_) | refine Rn_if' (fun _ => ?_) (fun _ => ?_) | fail)
      all_goals first
        | exact Rn_ret (Agr rfl R0)
        | exact Rn_ret (Agr rfl (Rel_ref R0 1)) | exact Rn_ret (Agr rfl (Rel_ref R0 2)) | exact Rn_ret (Agr rfl (Rel_ref R0 3)) | exact Rn_ret (Agr rfl (Rel_ref R0 4)) | exact Rn_ret (Agr rfl (Rel_ref R0 5)) | exact Rn_ret (Agr rfl (Rel_ref R0 6)) | exact Rn_ret (Agr rfl (Rel_ref R0 7))
        | (exfalso; omega)
    · refine Rn_map (fun K => x_X7_far) ?_
      try simp (disch := omega) only [lit_0, lit_1, lit_2, lit_3, lit_4, lit_5, lit_6, lit_7, lit_8, lit_9, lit_10, lit_11, lit_12, lit_17, lit_20, lit_30, lit_31, lit_32, lit_47, lit_48, lit_60, lit_99, lit_100, lit_144, lit_200, lit_240, lit_300, lit_576, lit_960, lit_1008, lit_1000000, lit_100000000, true_implies, not_true_eq_false, false_implies, not_false_eq_true, true_and, and_true, neg_1, nI_add, pk_mul, nI_clamp, vp_nI, tI_lt, tI_le, tI_eq, tI_nI, tI_NN, tI_pred, xP, xW, xF, xG, xC, xN, xD, xB]
      repeat' (first | refine Rn_and (by first | omega | assumption) ?_ | refine Rn_pos (by first | omega | assumption) ?_ | refine Rn_neg (by first | omega | assumption) ?_ | refine Rn_pos' (by first | omega | assumption) ?_ | refine Rn_neg' (by first | omega | assumption) ?_ | refine Rn_if (fun _ => ?_) (fun _ => ?_) | refine Rn_if' (fun _ => ?_) (fun _ => ?_) | fail)
      all_goals (refine Rn_ret ?_; refine Rn_map (fun K => x_X8_far) ?_)
      all_goals try simp (disch := omega) only [lit_0, lit_1, lit_2, lit_3, lit_4, lit_5, lit_6, lit_7, lit_8, lit_9, lit_10, lit_11, lit_12, lit_17, lit_20, lit_30, lit_31, lit_32, lit_47, lit_48, lit_60, lit_99, lit_100, lit_144, lit_200, lit_240, lit_300, lit_576, lit_960, lit_1008, lit_1000000, lit_100000000, true_implies, not_true_eq_false, false_implies, not_false_eq_true, true_and, and_true, neg_1, nI_add, pk_mul, nI_clamp, vp_nI, tI_lt, tI_le, tI_eq, tI_nI, tI_NN, tI_pred, mP, mW, mF, mG, mC, mN, mD, mB]
      all_goals repeat' (first | refine Rn_and (by first | omega | assumption) ?_ | refine Rn_pos (by first | omega | assumption) ?_ | refine Rn_neg (by first | omega | assumption) ?_ | refine Rn_pos' (by first | omega | assumption) ?_ | refine Rn_neg' (by first | omega | assumption) ?_ | refine Rn_if (fun _ => ?_) (fun _ => ?_) | refine Rn_if' (fun _ => ?_) (fun _ => ?_) | fail)
      all_goals first
        | exact Rn_ret (Agr rfl R0)
        | exact Rn_ret (Agr rfl (Rel_ref R0 1)) | exact Rn_ret (Agr rfl (Rel_ref R0 2)) | exact Rn_ret (Agr rfl (Rel_ref R0 3)) | exact Rn_ret (Agr rfl (Rel_ref R0 4)) | exact Rn_ret (Agr rfl (Rel_ref R0 5)) | exact Rn_ret (Agr rfl (Rel_ref R0 6)) | exact Rn_ret (Agr rfl (Rel_ref R0 7))
        | (exfalso; omega)
    · have e1 := gFar.2 a b ha hb
      have e2 := (gFar.1 a b (by omega) (by omega)).1
      have e3 := (gFar.1 a b (by omega) (by omega)).2.1
      rw [Nat.mul_comm] at e1
      by_cases hl : l a b = 1000000
      · rw [if_pos hl] at e1
        refine Rn_map (fun K => x_X7_far) ?_
        try simp (disch := omega) only [lit_0, lit_1, lit_2, lit_3, lit_4, lit_5, lit_6, lit_7, lit_8, lit_9, lit_10, lit_11, lit_12, lit_17, lit_20, lit_30, lit_31, lit_32, lit_47, lit_48, lit_60, lit_99, lit_100, lit_144, lit_200, lit_240, lit_300, lit_576, lit_960, lit_1008, lit_1000000, lit_100000000, true_implies, not_true_eq_false, false_implies, not_false_eq_true, true_and, and_true, neg_1, nI_add, pk_mul, nI_clamp, vp_nI, tI_lt, tI_le, tI_eq, tI_nI, tI_NN, tI_pred, xP, xW, xF, xG, xC, xN, xD, xB]
        repeat' (first | refine Rn_and (by first | omega | assumption) ?_ | refine Rn_pos (by first | omega | assumption) ?_ | refine Rn_neg (by first | omega | assumption) ?_ | refine Rn_pos' (by first | omega | assumption) ?_ | refine Rn_neg' (by first | omega | assumption) ?_ | refine Rn_if (fun _ => ?_) (fun _ => ?_) | refine Rn_if' (fun _ => ?_) (fun _ => ?_) | fail)
        all_goals (refine Rn_ret ?_; refine Rn_map (fun K => x_X8_far) ?_)
        all_goals try simp (disch := omega) only [lit_0, lit_1, lit_2, lit_3, lit_4, lit_5, lit_6, lit_7, lit_8, lit_9, lit_10, lit_11, lit_12, lit_17, lit_20, lit_30, lit_31, lit_32, lit_47, lit_48, lit_60, lit_99, lit_100, lit_144, lit_200, lit_240, lit_300, lit_576, lit_960, lit_1008, lit_1000000, lit_100000000, true_implies, not_true_eq_false, false_implies, not_false_eq_true, true_and, and_true, neg_1, nI_add, pk_mul, nI_clamp, vp_nI, tI_lt, tI_le, tI_eq, tI_nI, tI_NN, tI_pred, mP, mW, mF, mG, mC, mN, mD, mB, e2]
        all_goals repeat' (first | refine Rn_and (by first | omega | assumption) ?_ | refine Rn_pos (by first | omega | assumption) ?_ | refine Rn_neg (by first | omega | assumption) ?_ | refine Rn_pos' (by first | omega | assumption) ?_ | refine Rn_neg' (by first | omega | assumption) ?_ | refine Rn_if (fun _ => ?_) (fun _ => ?_) | refine Rn_if' (fun _ => ?_) (fun _ => ?_) | fail)
        all_goals first
          | exact Rn_ret (Agr rfl R0)
          | exact Rn_ret (Agr rfl (Rel_ref R0 1)) | exact Rn_ret (Agr rfl (Rel_ref R0 2)) | exact Rn_ret (Agr rfl (Rel_ref R0 3)) | exact Rn_ret (Agr rfl (Rel_ref R0 4)) | exact Rn_ret (Agr rfl (Rel_ref R0 5)) | exact Rn_ret (Agr rfl (Rel_ref R0 6)) | exact Rn_ret (Agr rfl (Rel_ref R0 7))
          | (exact Rn_ret (Agr e1 R0))
          | (exfalso; omega)
      · rw [if_neg hl] at e1
        refine Rn_map (fun K => x_X7_far) ?_
        try simp (disch := omega) only [lit_0, lit_1, lit_2, lit_3, lit_4, lit_5, lit_6, lit_7, lit_8, lit_9, lit_10, lit_11, lit_12, lit_17, lit_20, lit_30, lit_31, lit_32, lit_47, lit_48, lit_60, lit_99, lit_100, lit_144, lit_200, lit_240, lit_300, lit_576, lit_960, lit_1008, lit_1000000, lit_100000000, true_implies, not_true_eq_false, false_implies, not_false_eq_true, true_and, and_true, neg_1, nI_add, pk_mul, nI_clamp, vp_nI, tI_lt, tI_le, tI_eq, tI_nI, tI_NN, tI_pred, xP, xW, xF, xG, xC, xN, xD, xB]
        repeat' (first | refine Rn_and (by first | omega | assumption) ?_ | refine Rn_pos (by first | omega | assumption) ?_ | refine Rn_neg (by first | omega | assumption) ?_ | refine Rn_pos' (by first | omega | assumption) ?_ | refine Rn_neg' (by first | omega | assumption) ?_ | refine Rn_if (fun _ => ?_) (fun _ => ?_) | refine Rn_if' (fun _ => ?_) (fun _ => ?_) | fail)
        all_goals (refine Rn_ret ?_; refine Rn_map (fun K => x_X8_far) ?_)
        all_goals try simp (disch := omega) only [lit_0, lit_1, lit_2, lit_3, lit_4, lit_5, lit_6, lit_7, lit_8, lit_9, lit_10, lit_11, lit_12, lit_17, lit_20, lit_30, lit_31, lit_32, lit_47, lit_48, lit_60, lit_99, lit_100, lit_144, lit_200, lit_240, lit_300, lit_576, lit_960, lit_1008, lit_1000000, lit_100000000, true_implies, not_true_eq_false, false_implies, not_false_eq_true, true_and, and_true, neg_1, nI_add, pk_mul, nI_clamp, vp_nI, tI_lt, tI_le, tI_eq, tI_nI, tI_NN, tI_pred, mP, mW, mF, mG, mC, mN, mD, mB, e2]
        all_goals repeat' (first | refine Rn_and (by first | omega | assumption) ?_ | refine Rn_pos (by first | omega | assumption) ?_ | refine Rn_neg (by first | omega | assumption) ?_ | refine Rn_pos' (by first | omega | assumption) ?_ | refine Rn_neg' (by first | omega | assumption) ?_ | refine Rn_if (fun _ => ?_) (fun _ => ?_) | refine Rn_if' (fun _ => ?_) (fun _ => ?_) | fail)
        all_goals first
          | exact Rn_ret (Agr rfl R0)
          | exact Rn_ret (Agr rfl (Rel_ref R0 1)) | exact Rn_ret (Agr rfl (Rel_ref R0 2)) | exact Rn_ret (Agr rfl (Rel_ref R0 3)) | exact Rn_ret (Agr rfl (Rel_ref R0 4)) | exact Rn_ret (Agr rfl (Rel_ref R0 5)) | exact Rn_ret (Agr rfl (Rel_ref R0 6)) | exact Rn_ret (Agr rfl (Rel_ref R0 7))
          | (exact Rn_ret (Agr e1 R0))
          | (exfalso; omega)
theorem R_fault {σx σm : Mem} {dx dm : Nat} {p0 : Int32} (R : Rel σx σm) : Rn (fun K => CalI IX (dx + 1) S_X7_fault [ar 0 0, ai p0] σx K) (fun r sx => Rn (fun K => CalI IM (dm + 1) S_X8_fault [ar 30 0, ai p0] σm K) (fun r' sm => Agree r r' sx sm)) := by
  have R0 := R
  obtain ⟨P, W, F, G, C, N, D, B, w, l, gSc, gRef, gHrs, gLck, gWay, gFar, gDist, gShl, gCell, gHome, gKeys, gLike, gDuty, gGone, gBent, gPlan, gCost, gSeat, gMeet, gTly, gKnow, gFlt, gRow, gPln⟩ := R
  have hSc0 := gSc
  obtain ⟨⟨xP, mP, hP⟩, ⟨xW, mW, hW⟩, ⟨xF, mF, hF⟩, ⟨xG, mG, hG⟩, ⟨xC, mC, hC⟩, ⟨xN, mN, hN⟩, ⟨xD, mD, hD⟩, ⟨xB, mB, hB⟩, hpl, hb0⟩ := hSc0
  obtain ⟨e1, e2⟩ := gFlt
  refine Rn_map (fun K => x_X7_fault) ?_
  try simp (disch := omega) only [lit_0, lit_1, lit_2, lit_3, lit_4, lit_5, lit_6, lit_7, lit_8, lit_9, lit_10, lit_11, lit_12, lit_17, lit_20, lit_30, lit_31, lit_32, lit_47, lit_48, lit_60, lit_99, lit_100, lit_144, lit_200, lit_240, lit_300, lit_576, lit_960, lit_1008, lit_1000000, lit_100000000, true_implies, not_true_eq_false, false_implies, not_false_eq_true, true_and, and_true, neg_1, nI_add, pk_mul, nI_clamp, vp_nI, tI_lt, tI_le, tI_eq, tI_nI, tI_NN, tI_pred, xP, xW, xF, xG, xC, xN, xD, xB]
  repeat' (first | refine Rn_and (by first | omega | assumption) ?_ | refine Rn_pos (by first | omega | assumption) ?_ | refine Rn_neg (by first | omega | assumption) ?_ | refine Rn_pos' (by first | omega | assumption) ?_ | refine Rn_neg' (by first | omega | assumption) ?_ | refine Rn_if (fun _ => ?_) (fun _ => ?_) | refine Rn_if' (fun _ => ?_) (fun _ => ?_) | fail)
  all_goals (refine Rn_ret ?_; refine Rn_map (fun K => x_X8_fault) ?_)
  all_goals try simp (disch := omega) only [lit_0, lit_1, lit_2, lit_3, lit_4, lit_5, lit_6, lit_7, lit_8, lit_9, lit_10, lit_11, lit_12, lit_17, lit_20, lit_30, lit_31, lit_32, lit_47, lit_48, lit_60, lit_99, lit_100, lit_144, lit_200, lit_240, lit_300, lit_576, lit_960, lit_1008, lit_1000000, lit_100000000, true_implies, not_true_eq_false, false_implies, not_false_eq_true, true_and, and_true, neg_1, nI_add, pk_mul, nI_clamp, vp_nI, tI_lt, tI_le, tI_eq, tI_nI, tI_NN, tI_pred, mP, mW, mF, mG, mC, mN, mD, mB]
  all_goals repeat' (first | refine Rn_and (by first | omega | assumption) ?_ | refine Rn_pos (by first | omega | assumption) ?_ | refine Rn_neg (by first | omega | assumption) ?_ | refine Rn_pos' (by first | omega | assumption) ?_ | refine Rn_neg' (by first | omega | assumption) ?_ | refine Rn_if (fun _ => ?_) (fun _ => ?_) | refine Rn_if' (fun _ => ?_) (fun _ => ?_) | fail)
  all_goals first
    | exact Rn_ret (Agr rfl R0)
    | exact Rn_ret (Agr rfl (Rel_ref R0 1)) | exact Rn_ret (Agr rfl (Rel_ref R0 2)) | exact Rn_ret (Agr rfl (Rel_ref R0 3)) | exact Rn_ret (Agr rfl (Rel_ref R0 4)) | exact Rn_ret (Agr rfl (Rel_ref R0 5)) | exact Rn_ret (Agr rfl (Rel_ref R0 6)) | exact Rn_ret (Agr rfl (Rel_ref R0 7))
    | (exact Rn_ret (Agr e1 R0))
    | (exact Rn_ret (Agr e2 R0))
    | (exfalso; omega)
theorem R_knows {σx σm : Mem} {dx dm : Nat} {p0 p1 : Int32} (R : Rel σx σm) : Rn (fun K => CalI IX (dx + 2) S_X7_knows [ar 0 0, ai p0, ai p1] σx K) (fun r sx => Rn (fun K => CalI IM (dm + 2) S_X8_knows [ar 30 0, ai p0, ai p1] σm K) (fun r' sm => Agree r r' sx sm)) := by
  have R0 := R
  obtain ⟨P, W, F, G, C, N, D, B, w, l, gSc, gRef, gHrs, gLck, gWay, gFar, gDist, gShl, gCell, gHome, gKeys, gLike, gDuty, gGone, gBent, gPlan, gCost, gSeat, gMeet, gTly, gKnow, gFlt, gRow, gPln⟩ := R
  have hSc0 := gSc
  obtain ⟨⟨xP, mP, hP⟩, ⟨xW, mW, hW⟩, ⟨xF, mF, hF⟩, ⟨xG, mG, hG⟩, ⟨xC, mC, hC⟩, ⟨xN, mN, hN⟩, ⟨xD, mD, hD⟩, ⟨xB, mB, hB⟩, hpl, hb0⟩ := hSc0
  rcases ix_cases p0 F (by omega) with hf | hf | ⟨f, hf, rfl⟩
  · refine Rn_map (fun K => x_X7_knows) ?_
    try simp (disch := omega) only [lit_0, lit_1, lit_2, lit_3, lit_4, lit_5, lit_6, lit_7, lit_8, lit_9, lit_10, lit_11, lit_12, lit_17, lit_20, lit_30, lit_31, lit_32, lit_47, lit_48, lit_60, lit_99, lit_100, lit_144, lit_200, lit_240, lit_300, lit_576, lit_960, lit_1008, lit_1000000, lit_100000000, true_implies, not_true_eq_false, false_implies, not_false_eq_true, true_and, and_true, neg_1, nI_add, pk_mul, nI_clamp, vp_nI, tI_lt, tI_le, tI_eq, tI_nI, tI_NN, tI_pred, xP, xW, xF, xG, xC, xN, xD, xB]
    repeat' (first | refine Rn_and (by first | omega | assumption) ?_ | refine Rn_pos (by first | omega | assumption) ?_ | refine Rn_neg (by first | omega | assumption) ?_ | refine Rn_pos' (by first | omega | assumption) ?_ | refine Rn_neg' (by first | omega | assumption) ?_ | refine Rn_if (fun _ => ?_) (fun _ => ?_) | refine Rn_if' (fun _ => ?_) (fun _ => ?_) | fail)
    all_goals (refine Rn_ret ?_; refine Rn_map (fun K => x_X8_knows) ?_)
    all_goals try simp (disch := omega) only [lit_0, lit_1, lit_2, lit_3, lit_4, lit_5, lit_6, lit_7, lit_8, lit_9, lit_10, lit_11, lit_12, lit_17, lit_20, lit_30, lit_31, lit_32, lit_47, lit_48, lit_60, lit_99, lit_100, lit_144, lit_200, lit_240, lit_300, lit_576, lit_960, lit_1008, lit_1000000, lit_100000000, true_implies, not_true_eq_false, false_implies, not_false_eq_true, true_and, and_true, neg_1, nI_add, pk_mul, nI_clamp, vp_nI, tI_lt, tI_le, tI_eq, tI_nI, tI_NN, tI_pred, mP, mW, mF, mG, mC, mN, mD, mB]
    all_goals repeat' (first | refine Rn_and (by first | omega | assumption) ?_ | refine Rn_pos (by first | omega | assumption) ?_ | refine Rn_neg (by first | omega | assumption) ?_ | refine Rn_pos' (by first | omega | assumption) ?_ | refine Rn_neg' (by first | omega | assumption) ?_ | refine Rn_if (fun _ => ?_) (fun _ => ?_) | refine Rn_if' (fun _ => ?_) (fun _ => ?_) | fail)
    all_goals first
      | exact Rn_ret (Agr rfl R0)
      | exact Rn_ret (Agr rfl (Rel_ref R0 1)) | exact Rn_ret (Agr rfl (Rel_ref R0 2)) | exact Rn_ret (Agr rfl (Rel_ref R0 3)) | exact Rn_ret (Agr rfl (Rel_ref R0 4)) | exact Rn_ret (Agr rfl (Rel_ref R0 5)) | exact Rn_ret (Agr rfl (Rel_ref R0 6)) | exact Rn_ret (Agr rfl (Rel_ref R0 7))
      | (exfalso; omega)
  · refine Rn_map (fun K => x_X7_knows) ?_
    try simp (disch := omega) only [lit_0, lit_1, lit_2, lit_3, lit_4, lit_5, lit_6, lit_7, lit_8, lit_9, lit_10, lit_11, lit_12, lit_17, lit_20, lit_30, lit_31, lit_32, lit_47, lit_48, lit_60, lit_99, lit_100, lit_144, lit_200, lit_240, lit_300, lit_576, lit_960, lit_1008, lit_1000000, lit_100000000, true_implies, not_true_eq_false, false_implies, not_false_eq_true, true_and, and_true, neg_1, nI_add, pk_mul, nI_clamp, vp_nI, tI_lt, tI_le, tI_eq, tI_nI, tI_NN, tI_pred, xP, xW, xF, xG, xC, xN, xD, xB]
    repeat' (first | refine Rn_and (by first | omega | assumption) ?_ | refine Rn_pos (by first | omega | assumption) ?_ | refine Rn_neg (by first | omega | assumption) ?_ | refine Rn_pos' (by first | omega | assumption) ?_ | refine Rn_neg' (by first | omega | assumption) ?_ | refine Rn_if (fun _ => ?_) (fun _ => ?_) | refine Rn_if' (fun _ => ?_) (fun _ => ?_) | fail)
    all_goals (refine Rn_ret ?_; refine Rn_map (fun K => x_X8_knows) ?_)
    all_goals try simp (disch := omega) only [lit_0, lit_1, lit_2, lit_3, lit_4, lit_5, lit_6, lit_7, lit_8, lit_9, lit_10, lit_11, lit_12, lit_17, lit_20, lit_30, lit_31, lit_32, lit_47, lit_48, lit_60, lit_99, lit_100, lit_144, lit_200, lit_240, lit_300, lit_576, lit_960, lit_1008, lit_1000000, lit_100000000, true_implies, not_true_eq_false, false_implies, not_false_eq_true, true_and, and_true, neg_1, nI_add, pk_mul, nI_clamp, vp_nI, tI_lt, tI_le, tI_eq, tI_nI, tI_NN, tI_pred, mP, mW, mF, mG, mC, mN, mD, mB]
    all_goals repeat' (first | refine Rn_and (by first | omega | assumption) ?_ | refine Rn_pos (by first | omega | assumption) ?_ | refine Rn_neg (by first | omega | assumption) ?_ | refine Rn_pos' (by first | omega | assumption) ?_ | refine Rn_neg' (by first | omega | assumption) ?_ | refine Rn_if (fun _ => ?_) (fun _ => ?_) | refine Rn_if' (fun _ => ?_) (fun _ => ?_) | fail)
    all_goals first
      | exact Rn_ret (Agr rfl R0)
      | exact Rn_ret (Agr rfl (Rel_ref R0 1)) | exact Rn_ret (Agr rfl (Rel_ref R0 2)) | exact Rn_ret (Agr rfl (Rel_ref R0 3)) | exact Rn_ret (Agr rfl (Rel_ref R0 4)) | exact Rn_ret (Agr rfl (Rel_ref R0 5)) | exact Rn_ret (Agr rfl (Rel_ref R0 6)) | exact Rn_ret (Agr rfl (Rel_ref R0 7))
      | (exfalso; omega)
  · rcases ix_cases p1 C (by omega) with ht | ht | ⟨t, ht, rfl⟩
    · refine Rn_map (fun K => x_X7_knows) ?_
      try simp (disch := omega) only [lit_0, lit_1, lit_2, lit_3, lit_4, lit_5, lit_6, lit_7, lit_8, lit_9, lit_10, lit_11, lit_12, lit_17, lit_20, lit_30, lit_31, lit_32, lit_47, lit_48, lit_60, lit_99, lit_100, lit_144, lit_200, lit_240, lit_300, lit_576, lit_960, lit_1008, lit_1000000, lit_100000000, true_implies, not_true_eq_false, false_implies, not_false_eq_true, true_and, and_true, neg_1, nI_add, pk_mul, nI_clamp, vp_nI, tI_lt, tI_le, tI_eq, tI_nI, tI_NN, tI_pred, xP, xW, xF, xG, xC, xN, xD, xB]
      repeat' (first | refine Rn_and (by first | omega | assumption) ?_ | refine Rn_pos (by first | omega | assumption) ?_ | refine Rn_neg (by first | omega | assumption) ?_ | refine Rn_pos' (by first | omega | assumption) ?_ | refine Rn_neg' (by first | omega | assumption) ?_ | refine Rn_if (fun _ => ?_) (fun _ => ?_) | refine Rn_if' (fun _ => ?_) (fun _ => ?_) | fail)
      all_goals (refine Rn_ret ?_; refine Rn_map (fun K => x_X8_knows) ?_)
      all_goals try simp (disch := omega) only [lit_0, lit_1, lit_2, lit_3, lit_4, lit_5, lit_6, lit_7, lit_8, lit_9, lit_10, lit_11, lit_12, lit_17, lit_20, lit_30, lit_31, lit_32, lit_47, lit_48, lit_60, lit_99, lit_100, lit_144, lit_200, lit_240, lit_300, lit_576, lit_960, lit_1008, lit_1000000, lit_100000000, true_implies, not_true_eq_false, false_implies, not_false_eq_true, true_and, and_true, neg_1, nI_add, pk_mul, nI_clamp, vp_nI, tI_lt, tI_le, tI_eq, tI_nI, tI_NN, tI_pred, mP, mW, mF, mG, mC, mN, mD, mB]
      all_goals repeat' (first | refine Rn_and (by first | omega | assumption) ?_ | refine Rn_pos (by first | omega | assumption) ?_ | refine Rn_neg (by first | omega | assumption) ?_ | refine Rn_pos' (by first | omega | assumption) ?_ | refine Rn_neg' (by first | omega | assumption) ?_ | refine Rn_if (fun _ => ?_) (fun _ => ?_) | refine Rn_if' (fun _ => ?_) (fun _ => ?_) | fail)
      all_goals first
        | exact Rn_ret (Agr rfl R0)
        | exact Rn_ret (Agr rfl (Rel_ref R0 1)) | exact Rn_ret (Agr rfl (Rel_ref R0 2)) | exact Rn_ret (Agr rfl (Rel_ref R0 3)) | exact Rn_ret (Agr rfl (Rel_ref R0 4)) | exact Rn_ret (Agr rfl (Rel_ref R0 5)) | exact Rn_ret (Agr rfl (Rel_ref R0 6)) | exact Rn_ret (Agr rfl (Rel_ref R0 7))
        | (exfalso; omega)
    · refine Rn_map (fun K => x_X7_knows) ?_
      try simp (disch := omega) only [lit_0, lit_1, lit_2, lit_3, lit_4, lit_5, lit_6, lit_7, lit_8, lit_9, lit_10, lit_11, lit_12, lit_17, lit_20, lit_30, lit_31, lit_32, lit_47, lit_48, lit_60, lit_99, lit_100, lit_144, lit_200, lit_240, lit_300, lit_576, lit_960, lit_1008, lit_1000000, lit_100000000, true_implies, not_true_eq_false, false_implies, not_false_eq_true, true_and, and_true, neg_1, nI_add, pk_mul, nI_clamp, vp_nI, tI_lt, tI_le, tI_eq, tI_nI, tI_NN, tI_pred, xP, xW, xF, xG, xC, xN, xD, xB]
      repeat' (first | refine Rn_and (by first | omega | assumption) ?_ | refine Rn_pos (by first | omega | assumption) ?_ | refine Rn_neg (by first | omega | assumption) ?_ | refine Rn_pos' (by first | omega | assumption) ?_ | refine Rn_neg' (by first | omega | assumption) ?_ | refine Rn_if (fun _ => ?_) (fun _ => ?_) | refine Rn_if' (fun _ => ?_) (fun _ => ?_) | fail)
      all_goals (refine Rn_ret ?_; refine Rn_map (fun K => x_X8_knows) ?_)
      all_goals try simp (disch := omega) only [lit_0, lit_1, lit_2, lit_3, lit_4, lit_5, lit_6, lit_7, lit_8, lit_9, lit_10, lit_11, lit_12, lit_17, lit_20, lit_30, lit_31, lit_32, lit_47, lit_48, lit_60, lit_99, lit_100, lit_144, lit_200, lit_240, lit_300, lit_576, lit_960, lit_1008, lit_1000000, lit_100000000, true_implies, not_true_eq_false, false_implies, not_false_eq_true, true_and, and_true, neg_1, nI_add, pk_mul, nI_clamp, vp_nI, tI_lt, tI_le, tI_eq, tI_nI, tI_NN, tI_pred, mP, mW, mF, mG, mC, mN, mD, mB]
      all_goals repeat' (first | refine Rn_and (by first | omega | assumption) ?_ | refine Rn_pos (by first | omega | assumption) ?_ | refine Rn_neg (by first | omega | assumption) ?_ | refine Rn_pos' (by first | omega | assumption) ?_ | refine Rn_neg' (by first | omega | assumption) ?_ | refine Rn_if (fun _ => ?_) (fun _ => ?_) | refine Rn_if' (fun _ => ?_) (fun _ => ?_) | fail)
      all_goals first
        | exact Rn_ret (Agr rfl R0)
        | exact Rn_ret (Agr rfl (Rel_ref R0 1)) | exact Rn_ret (Agr rfl (Rel_ref R0 2)) | exact Rn_ret (Agr rfl (Rel_ref R0 3)) | exact Rn_ret (Agr rfl (Rel_ref R0 4)) | exact Rn_ret (Agr rfl (Rel_ref R0 5)) | exact Rn_ret (Agr rfl (Rel_ref R0 6)) | exact Rn_ret (Agr rfl (Rel_ref R0 7))
        | (exfalso; omega)
    · obtain ⟨e1, e2⟩ := gKnow f t (by omega) (by omega)
      have e3 := bv_u (σx.1 9 f 11) (n := t) (by omega)
      by_cases hk : bt (σx.1 9 f 11) t = true
      · have e4 : σx.1 13 f t = σm.1 54 0 (12 * f + t) := (e1 hk).2.1
        rw [if_pos hk] at e3
        refine Rn_map (fun K => x_X7_knows) ?_
        try simp (disch := omega) only [lit_0, lit_1, lit_2, lit_3, lit_4, lit_5, lit_6, lit_7, lit_8, lit_9, lit_10, lit_11, lit_12, lit_17, lit_20, lit_30, lit_31, lit_32, lit_47, lit_48, lit_60, lit_99, lit_100, lit_144, lit_200, lit_240, lit_300, lit_576, lit_960, lit_1008, lit_1000000, lit_100000000, true_implies, not_true_eq_false, false_implies, not_false_eq_true, true_and, and_true, neg_1, nI_add, pk_mul, nI_clamp, vp_nI, tI_lt, tI_le, tI_eq, tI_nI, tI_NN, tI_pred, xP, xW, xF, xG, xC, xN, xD, xB, e3]
        repeat' (first | refine Rn_and (by first | omega | assumption) ?_ | refine Rn_pos (by first | omega | assumption) ?_ | refine Rn_neg (by first | omega | assumption) ?_ | refine Rn_pos' (by first | omega | assumption) ?_ | refine Rn_neg' (by first | omega | assumption) ?_ | refine Rn_if (fun _ => ?_) (fun _ => ?_) | refine Rn_if' (fun _ => ?_) (fun _ => ?_) | fail)
        all_goals (refine Rn_ret ?_; refine Rn_map (fun K => x_X8_knows) ?_)
        all_goals try simp (disch := omega) only [lit_0, lit_1, lit_2, lit_3, lit_4, lit_5, lit_6, lit_7, lit_8, lit_9, lit_10, lit_11, lit_12, lit_17, lit_20, lit_30, lit_31, lit_32, lit_47, lit_48, lit_60, lit_99, lit_100, lit_144, lit_200, lit_240, lit_300, lit_576, lit_960, lit_1008, lit_1000000, lit_100000000, true_implies, not_true_eq_false, false_implies, not_false_eq_true, true_and, and_true, neg_1, nI_add, pk_mul, nI_clamp, vp_nI, tI_lt, tI_le, tI_eq, tI_nI, tI_NN, tI_pred, mP, mW, mF, mG, mC, mN, mD, mB]
        all_goals repeat' (first | refine Rn_and (by first | omega | assumption) ?_ | refine Rn_pos (by first | omega | assumption) ?_ | refine Rn_neg (by first | omega | assumption) ?_ | refine Rn_pos' (by first | omega | assumption) ?_ | refine Rn_neg' (by first | omega | assumption) ?_ | refine Rn_if (fun _ => ?_) (fun _ => ?_) | refine Rn_if' (fun _ => ?_) (fun _ => ?_) | fail)
        all_goals first
          | exact Rn_ret (Agr rfl R0)
          | exact Rn_ret (Agr rfl (Rel_ref R0 1)) | exact Rn_ret (Agr rfl (Rel_ref R0 2)) | exact Rn_ret (Agr rfl (Rel_ref R0 3)) | exact Rn_ret (Agr rfl (Rel_ref R0 4)) | exact Rn_ret (Agr rfl (Rel_ref R0 5)) | exact Rn_ret (Agr rfl (Rel_ref R0 6)) | exact Rn_ret (Agr rfl (Rel_ref R0 7))
          | (exact Rn_ret (Agr e4 R0))
          | (exfalso; omega)
      · have e5 : bt (σx.1 9 f 11) t = false := by simpa using hk
        have e4 : σm.1 54 0 (12 * f + t) = NN := e2 e5
        rw [if_neg hk] at e3
        refine Rn_map (fun K => x_X7_knows) ?_
        try simp (disch := omega) only [lit_0, lit_1, lit_2, lit_3, lit_4, lit_5, lit_6, lit_7, lit_8, lit_9, lit_10, lit_11, lit_12, lit_17, lit_20, lit_30, lit_31, lit_32, lit_47, lit_48, lit_60, lit_99, lit_100, lit_144, lit_200, lit_240, lit_300, lit_576, lit_960, lit_1008, lit_1000000, lit_100000000, true_implies, not_true_eq_false, false_implies, not_false_eq_true, true_and, and_true, neg_1, nI_add, pk_mul, nI_clamp, vp_nI, tI_lt, tI_le, tI_eq, tI_nI, tI_NN, tI_pred, xP, xW, xF, xG, xC, xN, xD, xB, e3]
        repeat' (first | refine Rn_and (by first | omega | assumption) ?_ | refine Rn_pos (by first | omega | assumption) ?_ | refine Rn_neg (by first | omega | assumption) ?_ | refine Rn_pos' (by first | omega | assumption) ?_ | refine Rn_neg' (by first | omega | assumption) ?_ | refine Rn_if (fun _ => ?_) (fun _ => ?_) | refine Rn_if' (fun _ => ?_) (fun _ => ?_) | fail)
        all_goals (refine Rn_ret ?_; refine Rn_map (fun K => x_X8_knows) ?_)
        all_goals try simp (disch := omega) only [lit_0, lit_1, lit_2, lit_3, lit_4, lit_5, lit_6, lit_7, lit_8, lit_9, lit_10, lit_11, lit_12, lit_17, lit_20, lit_30, lit_31, lit_32, lit_47, lit_48, lit_60, lit_99, lit_100, lit_144, lit_200, lit_240, lit_300, lit_576, lit_960, lit_1008, lit_1000000, lit_100000000, true_implies, not_true_eq_false, false_implies, not_false_eq_true, true_and, and_true, neg_1, nI_add, pk_mul, nI_clamp, vp_nI, tI_lt, tI_le, tI_eq, tI_nI, tI_NN, tI_pred, mP, mW, mF, mG, mC, mN, mD, mB]
        all_goals repeat' (first | refine Rn_and (by first | omega | assumption) ?_ | refine Rn_pos (by first | omega | assumption) ?_ | refine Rn_neg (by first | omega | assumption) ?_ | refine Rn_pos' (by first | omega | assumption) ?_ | refine Rn_neg' (by first | omega | assumption) ?_ | refine Rn_if (fun _ => ?_) (fun _ => ?_) | refine Rn_if' (fun _ => ?_) (fun _ => ?_) | fail)
        all_goals first
          | exact Rn_ret (Agr rfl R0)
          | exact Rn_ret (Agr rfl (Rel_ref R0 1)) | exact Rn_ret (Agr rfl (Rel_ref R0 2)) | exact Rn_ret (Agr rfl (Rel_ref R0 3)) | exact Rn_ret (Agr rfl (Rel_ref R0 4)) | exact Rn_ret (Agr rfl (Rel_ref R0 5)) | exact Rn_ret (Agr rfl (Rel_ref R0 6)) | exact Rn_ret (Agr rfl (Rel_ref R0 7))
          | (exact Rn_ret (Agr e4.symm R0))
          | (exfalso; omega)
