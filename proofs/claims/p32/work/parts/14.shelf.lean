variable {κ : Nat → Nat → Nat → Prop}
theorem R_row {σx σm : Mem} {dx dm : Nat} {p0 p1 p2 : Int32} (R : Rel κ σx σm) : Rn (fun K => CalI IX (dx + 3) S_X7_row [ar 0 0, ai p0, ai p1, ai p2] σx K) (fun r sx => Rn (fun K => CalI IM (dm + 3) S_X8_row [ar 30 0, ai p0, ai p1, ai p2] σm K) (fun r' sm => Agree κ r r' sx sm)) := by
  have R0 := R
  obtain ⟨P, W, F, G, C, N, D, B, w, l, gSc, gRef, gHrs, gLck, gWay, gFar, gDist, gShl, gCell, gHome, gKeys, gLike, gDuty, gGone, gBent, gPlan, gCost, gSeat, gMeet, gTly, gKnow, gFlt, gRow, gPln⟩ := R
  have hSc0 := gSc
  obtain ⟨⟨xP, mP, hP⟩, ⟨xW, mW, hW⟩, ⟨xF, mF, hF⟩, ⟨xG, mG, hG⟩, ⟨xC, mC, hC⟩, ⟨xN, mN, hN⟩, ⟨xD, mD, hD⟩, ⟨xB, mB, hB⟩, hpl, hb0⟩ := hSc0
  rcases ix_cases p0 8 (by omega) with hs | hs | ⟨s, hs, rfl⟩
  · refine Rn_map (fun K => x_X7_row) ?_
    try simp (disch := omega) only [lit_0, lit_1, lit_2, lit_3, lit_4, lit_5, lit_6, lit_7, lit_8, lit_9, lit_10, lit_11, lit_12, lit_17, lit_20, lit_30, lit_31, lit_32, lit_47, lit_48, lit_60, lit_99, lit_100, lit_144, lit_200, lit_240, lit_300, lit_576, lit_960, lit_1008, lit_1000000, lit_100000000, true_implies, not_true_eq_false, false_implies, not_false_eq_true, true_and, and_true, neg_1, nI_add, pk_mul, nI_clamp, vp_nI, tI_lt, tI_le, tI_eq, tI_nI, tI_NN, tI_pred, xP, xW, xF, xG, xC, xN, xD, xB]
    repeat' (first | refine Rn_and (by first | omega | assumption) ?_ | refine Rn_pos (by first | omega | assumption) ?_ | refine Rn_neg (by first | omega | assumption) ?_ | refine Rn_pos' (by first | omega | assumption) ?_ | refine Rn_neg' (by first | omega | assumption) ?_ | refine Rn_if (fun _ => ?_) (fun _ => ?_) | refine Rn_if' (fun _ => ?_) (fun _ => ?_) | fail)
    all_goals (refine Rn_ret ?_; refine Rn_map (fun K => x_X8_row) ?_)
    all_goals try simp (disch := omega) only [lit_0, lit_1, lit_2, lit_3, lit_4, lit_5, lit_6, lit_7, lit_8, lit_9, lit_10, lit_11, lit_12, lit_17, lit_20, lit_30, lit_31, lit_32, lit_47, lit_48, lit_60, lit_99, lit_100, lit_144, lit_200, lit_240, lit_300, lit_576, lit_960, lit_1008, lit_1000000, lit_100000000, true_implies, not_true_eq_false, false_implies, not_false_eq_true, true_and, and_true, neg_1, nI_add, pk_mul, nI_clamp, vp_nI, tI_lt, tI_le, tI_eq, tI_nI, tI_NN, tI_pred, mP, mW, mF, mG, mC, mN, mD, mB]
    all_goals repeat' (first | refine Rn_and (by first | omega | assumption) ?_ | refine Rn_pos (by first | omega | assumption) ?_ | refine Rn_neg (by first | omega | assumption) ?_ | refine Rn_pos' (by first | omega | assumption) ?_ | refine Rn_neg' (by first | omega | assumption) ?_ | refine Rn_if (fun _ => ?_) (fun _ => ?_) | refine Rn_if' (fun _ => ?_) (fun _ => ?_) | fail)
    all_goals first
      | exact Rn_ret (Agr rfl R0)
      | exact Rn_ret (Agr rfl (Rel_ref R0 1)) | exact Rn_ret (Agr rfl (Rel_ref R0 2)) | exact Rn_ret (Agr rfl (Rel_ref R0 3)) | exact Rn_ret (Agr rfl (Rel_ref R0 4)) | exact Rn_ret (Agr rfl (Rel_ref R0 5)) | exact Rn_ret (Agr rfl (Rel_ref R0 6)) | exact Rn_ret (Agr rfl (Rel_ref R0 7))
      | (exfalso; omega)
  · refine Rn_map (fun K => x_X7_row) ?_
    try simp (disch := omega) only [lit_0, lit_1, lit_2, lit_3, lit_4, lit_5, lit_6, lit_7, lit_8, lit_9, lit_10, lit_11, lit_12, lit_17, lit_20, lit_30, lit_31, lit_32, lit_47, lit_48, lit_60, lit_99, lit_100, lit_144, lit_200, lit_240, lit_300, lit_576, lit_960, lit_1008, lit_1000000, lit_100000000, true_implies, not_true_eq_false, false_implies, not_false_eq_true, true_and, and_true, neg_1, nI_add, pk_mul, nI_clamp, vp_nI, tI_lt, tI_le, tI_eq, tI_nI, tI_NN, tI_pred, xP, xW, xF, xG, xC, xN, xD, xB]
    repeat' (first | refine Rn_and (by first | omega | assumption) ?_ | refine Rn_pos (by first | omega | assumption) ?_ | refine Rn_neg (by first | omega | assumption) ?_ | refine Rn_pos' (by first | omega | assumption) ?_ | refine Rn_neg' (by first | omega | assumption) ?_ | refine Rn_if (fun _ => ?_) (fun _ => ?_) | refine Rn_if' (fun _ => ?_) (fun _ => ?_) | fail)
    all_goals (refine Rn_ret ?_; refine Rn_map (fun K => x_X8_row) ?_)
    all_goals try simp (disch := omega) only [lit_0, lit_1, lit_2, lit_3, lit_4, lit_5, lit_6, lit_7, lit_8, lit_9, lit_10, lit_11, lit_12, lit_17, lit_20, lit_30, lit_31, lit_32, lit_47, lit_48, lit_60, lit_99, lit_100, lit_144, lit_200, lit_240, lit_300, lit_576, lit_960, lit_1008, lit_1000000, lit_100000000, true_implies, not_true_eq_false, false_implies, not_false_eq_true, true_and, and_true, neg_1, nI_add, pk_mul, nI_clamp, vp_nI, tI_lt, tI_le, tI_eq, tI_nI, tI_NN, tI_pred, mP, mW, mF, mG, mC, mN, mD, mB]
    all_goals repeat' (first | refine Rn_and (by first | omega | assumption) ?_ | refine Rn_pos (by first | omega | assumption) ?_ | refine Rn_neg (by first | omega | assumption) ?_ | refine Rn_pos' (by first | omega | assumption) ?_ | refine Rn_neg' (by first | omega | assumption) ?_ | refine Rn_if (fun _ => ?_) (fun _ => ?_) | refine Rn_if' (fun _ => ?_) (fun _ => ?_) | fail)
    all_goals first
      | exact Rn_ret (Agr rfl R0)
      | exact Rn_ret (Agr rfl (Rel_ref R0 1)) | exact Rn_ret (Agr rfl (Rel_ref R0 2)) | exact Rn_ret (Agr rfl (Rel_ref R0 3)) | exact Rn_ret (Agr rfl (Rel_ref R0 4)) | exact Rn_ret (Agr rfl (Rel_ref R0 5)) | exact Rn_ret (Agr rfl (Rel_ref R0 6)) | exact Rn_ret (Agr rfl (Rel_ref R0 7))
      | (exfalso; omega)
  · rcases ix_cases p1 4 (by omega) with ht | ht | ⟨t, ht, rfl⟩
    · refine Rn_map (fun K => x_X7_row) ?_
      try simp (disch := omega) only [lit_0, lit_1, lit_2, lit_3, lit_4, lit_5, lit_6, lit_7, lit_8, lit_9, lit_10, lit_11, lit_12, lit_17, lit_20, lit_30, lit_31, lit_32, lit_47, lit_48, lit_60, lit_99, lit_100, lit_144, lit_200, lit_240, lit_300, lit_576, lit_960, lit_1008, lit_1000000, lit_100000000, true_implies, not_true_eq_false, false_implies, not_false_eq_true, true_and, and_true, neg_1, nI_add, pk_mul, nI_clamp, vp_nI, tI_lt, tI_le, tI_eq, tI_nI, tI_NN, tI_pred, xP, xW, xF, xG, xC, xN, xD, xB]
      repeat' (first | refine Rn_and (by first | omega | assumption) ?_ | refine Rn_pos (by first | omega | assumption) ?_ | refine Rn_neg (by first | omega | assumption) ?_ | refine Rn_pos' (by first | omega | assumption) ?_ | refine Rn_neg' (by first | omega | assumption) ?_ | refine Rn_if (fun _ => ?_) (fun _ => ?_) | refine Rn_if' (fun _ => ?_) (fun _ => ?_) | fail)
      all_goals (refine Rn_ret ?_; refine Rn_map (fun K => x_X8_row) ?_)
      all_goals try simp (disch := omega) only [lit_0, lit_1, lit_2, lit_3, lit_4, lit_5, lit_6, lit_7, lit_8, lit_9, lit_10, lit_11, lit_12, lit_17, lit_20, lit_30, lit_31, lit_32, lit_47, lit_48, lit_60, lit_99, lit_100, lit_144, lit_200, lit_240, lit_300, lit_576, lit_960, lit_1008, lit_1000000, lit_100000000, true_implies, not_true_eq_false, false_implies, not_false_eq_true, true_and, and_true, neg_1, nI_add, pk_mul, nI_clamp, vp_nI, tI_lt, tI_le, tI_eq, tI_nI, tI_NN, tI_pred, mP, mW, mF, mG, mC, mN, mD, mB]
      all_goals repeat' (first | refine Rn_and (by first | omega | assumption) ?_ | refine Rn_pos (by first | omega | assumption) ?_ | refine Rn_neg (by first | omega | assumption) ?_ | refine Rn_pos' (by first | omega | assumption) ?_ | refine Rn_neg' (by first | omega | assumption) ?_ | refine Rn_if (fun _ => ?_) (fun _ => ?_) | refine Rn_if' (fun _ => ?_) (fun _ => ?_) | fail)
      all_goals first
        | exact Rn_ret (Agr rfl R0)
        | exact Rn_ret (Agr rfl (Rel_ref R0 1)) | exact Rn_ret (Agr rfl (Rel_ref R0 2)) | exact Rn_ret (Agr rfl (Rel_ref R0 3)) | exact Rn_ret (Agr rfl (Rel_ref R0 4)) | exact Rn_ret (Agr rfl (Rel_ref R0 5)) | exact Rn_ret (Agr rfl (Rel_ref R0 6)) | exact Rn_ret (Agr rfl (Rel_ref R0 7))
        | (exfalso; omega)
    · refine Rn_map (fun K => x_X7_row) ?_
      try simp (disch := omega) only [lit_0, lit_1, lit_2, lit_3, lit_4, lit_5, lit_6, lit_7, lit_8, lit_9, lit_10, lit_11, lit_12, lit_17, lit_20, lit_30, lit_31, lit_32, lit_47, lit_48, lit_60, lit_99, lit_100, lit_144, lit_200, lit_240, lit_300, lit_576, lit_960, lit_1008, lit_1000000, lit_100000000, true_implies, not_true_eq_false, false_implies, not_false_eq_true, true_and, and_true, neg_1, nI_add, pk_mul, nI_clamp, vp_nI, tI_lt, tI_le, tI_eq, tI_nI, tI_NN, tI_pred, xP, xW, xF, xG, xC, xN, xD, xB]
      repeat' (first | refine Rn_and (by first | omega | assumption) ?_ | refine Rn_pos (by first | omega | assumption) ?_ | refine Rn_neg (by first | omega | assumption) ?_ | refine Rn_pos' (by first | omega | assumption) ?_ | refine Rn_neg' (by first | omega | assumption) ?_ | refine Rn_if (fun _ => ?_) (fun _ => ?_) | refine Rn_if' (fun _ => ?_) (fun _ => ?_) | fail)
      all_goals (refine Rn_ret ?_; refine Rn_map (fun K => x_X8_row) ?_)
      all_goals try simp (disch := omega) only [lit_0, lit_1, lit_2, lit_3, lit_4, lit_5, lit_6, lit_7, lit_8, lit_9, lit_10, lit_11, lit_12, lit_17, lit_20, lit_30, lit_31, lit_32, lit_47, lit_48, lit_60, lit_99, lit_100, lit_144, lit_200, lit_240, lit_300, lit_576, lit_960, lit_1008, lit_1000000, lit_100000000, true_implies, not_true_eq_false, false_implies, not_false_eq_true, true_and, and_true, neg_1, nI_add, pk_mul, nI_clamp, vp_nI, tI_lt, tI_le, tI_eq, tI_nI, tI_NN, tI_pred, mP, mW, mF, mG, mC, mN, mD, mB]
      all_goals repeat' (first | refine Rn_and (by first | omega | assumption) ?_ | refine Rn_pos (by first | omega | assumption) ?_ | refine Rn_neg (by first | omega | assumption) ?_ | refine Rn_pos' (by first | omega | assumption) ?_ | refine Rn_neg' (by first | omega | assumption) ?_ | refine Rn_if (fun _ => ?_) (fun _ => ?_) | refine Rn_if' (fun _ => ?_) (fun _ => ?_) | fail)
      all_goals first
        | exact Rn_ret (Agr rfl R0)
        | exact Rn_ret (Agr rfl (Rel_ref R0 1)) | exact Rn_ret (Agr rfl (Rel_ref R0 2)) | exact Rn_ret (Agr rfl (Rel_ref R0 3)) | exact Rn_ret (Agr rfl (Rel_ref R0 4)) | exact Rn_ret (Agr rfl (Rel_ref R0 5)) | exact Rn_ret (Agr rfl (Rel_ref R0 6)) | exact Rn_ret (Agr rfl (Rel_ref R0 7))
        | (exfalso; omega)
    · rcases ix_cases p2 61 (by omega) with hn | hn | ⟨n, hn, rfl⟩
      · refine Rn_map (fun K => x_X7_row) ?_
        try simp (disch := omega) only [lit_0, lit_1, lit_2, lit_3, lit_4, lit_5, lit_6, lit_7, lit_8, lit_9, lit_10, lit_11, lit_12, lit_17, lit_20, lit_30, lit_31, lit_32, lit_47, lit_48, lit_60, lit_99, lit_100, lit_144, lit_200, lit_240, lit_300, lit_576, lit_960, lit_1008, lit_1000000, lit_100000000, true_implies, not_true_eq_false, false_implies, not_false_eq_true, true_and, and_true, neg_1, nI_add, pk_mul, nI_clamp, vp_nI, tI_lt, tI_le, tI_eq, tI_nI, tI_NN, tI_pred, xP, xW, xF, xG, xC, xN, xD, xB]
        repeat' (first | refine Rn_and (by first | omega | assumption) ?_ | refine Rn_pos (by first | omega | assumption) ?_ | refine Rn_neg (by first | omega | assumption) ?_ | refine Rn_pos' (by first | omega | assumption) ?_ | refine Rn_neg' (by first | omega | assumption) ?_ | refine Rn_if (fun _ => ?_) (fun _ => ?_) | refine Rn_if' (fun _ => ?_) (fun _ => ?_) | fail)
        all_goals (refine Rn_ret ?_; refine Rn_map (fun K => x_X8_row) ?_)
        all_goals try simp (disch := omega) only [lit_0, lit_1, lit_2, lit_3, lit_4, lit_5, lit_6, lit_7, lit_8, lit_9, lit_10, lit_11, lit_12, lit_17, lit_20, lit_30, lit_31, lit_32, lit_47, lit_48, lit_60, lit_99, lit_100, lit_144, lit_200, lit_240, lit_300, lit_576, lit_960, lit_1008, lit_1000000, lit_100000000, true_implies, not_true_eq_false, false_implies, not_false_eq_true, true_and, and_true, neg_1, nI_add, pk_mul, nI_clamp, vp_nI, tI_lt, tI_le, tI_eq, tI_nI, tI_NN, tI_pred, mP, mW, mF, mG, mC, mN, mD, mB]
        all_goals repeat' (first | refine Rn_and (by first | omega | assumption) ?_ | refine Rn_pos (by first | omega | assumption) ?_ | refine Rn_neg (by first | omega | assumption) ?_ | refine Rn_pos' (by first | omega | assumption) ?_ | refine Rn_neg' (by first | omega | assumption) ?_ | refine Rn_if (fun _ => ?_) (fun _ => ?_) | refine Rn_if' (fun _ => ?_) (fun _ => ?_) | fail)
        all_goals first
          | exact Rn_ret (Agr rfl R0)
          | exact Rn_ret (Agr rfl (Rel_ref R0 1)) | exact Rn_ret (Agr rfl (Rel_ref R0 2)) | exact Rn_ret (Agr rfl (Rel_ref R0 3)) | exact Rn_ret (Agr rfl (Rel_ref R0 4)) | exact Rn_ret (Agr rfl (Rel_ref R0 5)) | exact Rn_ret (Agr rfl (Rel_ref R0 6)) | exact Rn_ret (Agr rfl (Rel_ref R0 7))
          | (exfalso; omega)
      · refine Rn_map (fun K => x_X7_row) ?_
        try simp (disch := omega) only [lit_0, lit_1, lit_2, lit_3, lit_4, lit_5, lit_6, lit_7, lit_8, lit_9, lit_10, lit_11, lit_12, lit_17, lit_20, lit_30, lit_31, lit_32, lit_47, lit_48, lit_60, lit_99, lit_100, lit_144, lit_200, lit_240, lit_300, lit_576, lit_960, lit_1008, lit_1000000, lit_100000000, true_implies, not_true_eq_false, false_implies, not_false_eq_true, true_and, and_true, neg_1, nI_add, pk_mul, nI_clamp, vp_nI, tI_lt, tI_le, tI_eq, tI_nI, tI_NN, tI_pred, xP, xW, xF, xG, xC, xN, xD, xB]
        repeat' (first | refine Rn_and (by first | omega | assumption) ?_ | refine Rn_pos (by first | omega | assumption) ?_ | refine Rn_neg (by first | omega | assumption) ?_ | refine Rn_pos' (by first | omega | assumption) ?_ | refine Rn_neg' (by first | omega | assumption) ?_ | refine Rn_if (fun _ => ?_) (fun _ => ?_) | refine Rn_if' (fun _ => ?_) (fun _ => ?_) | fail)
        all_goals (refine Rn_ret ?_; refine Rn_map (fun K => x_X8_row) ?_)
        all_goals try simp (disch := omega) only [lit_0, lit_1, lit_2, lit_3, lit_4, lit_5, lit_6, lit_7, lit_8, lit_9, lit_10, lit_11, lit_12, lit_17, lit_20, lit_30, lit_31, lit_32, lit_47, lit_48, lit_60, lit_99, lit_100, lit_144, lit_200, lit_240, lit_300, lit_576, lit_960, lit_1008, lit_1000000, lit_100000000, true_implies, not_true_eq_false, false_implies, not_false_eq_true, true_and, and_true, neg_1, nI_add, pk_mul, nI_clamp, vp_nI, tI_lt, tI_le, tI_eq, tI_nI, tI_NN, tI_pred, mP, mW, mF, mG, mC, mN, mD, mB]
        all_goals repeat' (first | refine Rn_and (by first | omega | assumption) ?_ | refine Rn_pos (by first | omega | assumption) ?_ | refine Rn_neg (by first | omega | assumption) ?_ | refine Rn_pos' (by first | omega | assumption) ?_ | refine Rn_neg' (by first | omega | assumption) ?_ | refine Rn_if (fun _ => ?_) (fun _ => ?_) | refine Rn_if' (fun _ => ?_) (fun _ => ?_) | fail)
        all_goals first
          | exact Rn_ret (Agr rfl R0)
          | exact Rn_ret (Agr rfl (Rel_ref R0 1)) | exact Rn_ret (Agr rfl (Rel_ref R0 2)) | exact Rn_ret (Agr rfl (Rel_ref R0 3)) | exact Rn_ret (Agr rfl (Rel_ref R0 4)) | exact Rn_ret (Agr rfl (Rel_ref R0 5)) | exact Rn_ret (Agr rfl (Rel_ref R0 6)) | exact Rn_ret (Agr rfl (Rel_ref R0 7))
          | (exfalso; omega)
      · refine Rn_map (fun K => x_X7_row) ?_
        simp (disch := omega) only [lit_0, lit_1, lit_2, lit_3, lit_4, lit_5, lit_6, lit_7, lit_8, lit_9, lit_10, lit_11, lit_12, lit_17, lit_20, lit_30, lit_31, lit_32, lit_47, lit_48, lit_60, lit_99, lit_100, lit_144, lit_200, lit_240, lit_300, lit_576, lit_960, lit_1008, lit_1000000, lit_100000000, true_implies, not_true_eq_false, false_implies, not_false_eq_true, true_and, and_true, neg_1, nI_add, pk_mul, nI_clamp, vp_nI, tI_lt, tI_le, tI_eq, tI_nI, tI_NN, tI_pred, xP, xW, xF, xG, xC, xN, xD, xB]
        repeat' (first | refine Rn_and (by first | omega | assumption) ?_ | refine Rn_pos (by first | omega | assumption) ?_ | refine Rn_neg (by first | omega | assumption) ?_ | refine Rn_pos' (by first | omega | assumption) ?_ | refine Rn_neg' (by first | omega | assumption) ?_ | fail)
        refine Rn_cV (Rv_mono f_fill8 (fun s1 hs1 => ?_))
        refine Rn_ret ?_
        refine Rn_map (fun K => x_X8_row) ?_
        simp (disch := omega) only [lit_0, lit_1, lit_2, lit_3, lit_4, lit_5, lit_6, lit_7, lit_8, lit_9, lit_10, lit_11, lit_12, lit_17, lit_20, lit_30, lit_31, lit_32, lit_47, lit_48, lit_60, lit_99, lit_100, lit_144, lit_200, lit_240, lit_300, lit_576, lit_960, lit_1008, lit_1000000, lit_100000000, true_implies, not_true_eq_false, false_implies, not_false_eq_true, true_and, and_true, neg_1, nI_add, pk_mul, nI_clamp, vp_nI, tI_lt, tI_le, tI_eq, tI_nI, tI_NN, tI_pred, mP, mW, mF, mG, mC, mN, mD, mB]
        repeat' (first | refine Rn_and (by first | omega | assumption) ?_ | refine Rn_pos (by first | omega | assumption) ?_ | refine Rn_neg (by first | omega | assumption) ?_ | refine Rn_pos' (by first | omega | assumption) ?_ | refine Rn_neg' (by first | omega | assumption) ?_ | fail)
        refine f_X8_row_73 hs (Agr rfl ?_)
        subst hs1
        refine ⟨P, W, F, G, C, N, D, B, w, l, gSc, gRef, gHrs, gLck, gWay, gFar, gDist, ?_, ?_, gHome, gKeys, gLike, gDuty, gGone, gBent, gPlan, gCost, gSeat, gMeet, gTly, gKnow, gFlt, gRow, gPln⟩
        · intro z hz
          by_cases e : z = s
          · subst e
            exact Or.inr (Or.inr ⟨t, n, by omega, by omega, by simp [sL_1, wI_r], by simp [sL_1, wI_r], by simp [sL_1, wI_r], by simp [sL_1, wI_r], by simp [sL_1, wI_r]⟩)
          · have := gShl z hz
            simpa [sL_1, wI_r, e] using this
        · intro z i hz hi
          have h1 := gCell z i hz hi
          simp only [sL_r, wI_2]
          grind

