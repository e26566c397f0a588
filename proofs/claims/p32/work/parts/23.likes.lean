variable {κ : Nat → Nat → Nat → Prop}
theorem f_X3_takeDuties {d f z n : Nat} {σ : Mem} {P : Int32 → Mem → Prop} (hn : n ≤ 48) (hsz : σ.1 7 z 3 = nI n) (hP : P (nI (n / 4)) (sK (wI σ 9 f 6 (nI n)) 11 (fun i j => if i = f ∧ j < n then Int64.toInt32 (σ.2 8 z j) else σ.1 11 i j))) : Rn (fun K => CalI IX (d + 2) S_X3_takeDuties [ar 9 f, ar 7 z] σ K) P := by
  refine Rn_map (fun K => x_X3_takeDuties) (Rn_KQ ?_)
  have e : (if (48 : Int32) < σ.1 7 z 3 then 48 else σ.1 7 z 3) = nI n := by
    rw [hsz, if_neg (by rw [lit_48, lt_nI (by omega) (by omega)]; omega)]
  rw [e]
  simp (disch := omega) only [lit_0, lit_1, lit_2, lit_3, lit_4, lit_5, lit_6, lit_7, lit_8, lit_9, lit_10, lit_11, lit_12, lit_17, lit_20, lit_30, lit_31, lit_32, lit_47, lit_48, lit_60, lit_99, lit_100, lit_144, lit_200, lit_240, lit_300, lit_576, lit_960, lit_1008, lit_1000000, lit_100000000, true_implies, not_true_eq_false, false_implies, not_false_eq_true, true_and, and_true, neg_1, nI_add, pk_mul, nI_clamp, le_nI, lt_nI, eq_nI, vp_nI, nI_NN, NN_nI, NN_lt, NN_le, lt_NN, le_NN]
  have edv : nI n / nI 4 = nI (n / 4) := pk_div (by omega) (by omega) (by omega)
  refine loopU (C := fun i s Q => J IX M_X3_takeDuties (d + 2) 15 [(0, ar 9 f), (1, ar 7 z), (2, ai (nI i))] [] s Q) (Inv := fun m s => s = sK (wI σ 9 f 6 (nI n)) 11 (fun i j => if i = f ∧ j < m then Int64.toInt32 (σ.2 8 z j) else σ.1 11 i j)) (n := n) ?_ ?_ (by omega) ?_
  · rintro i s hi hs ih
    have s1 : s.1 9 f 6 = nI n := by rw [hs]; exact wI_same _ _ _ _ _
    refine Rn_map (fun Q => x_X3_takeDuties_15) ?_
    simp (disch := omega) only [lit_0, lit_1, lit_2, lit_3, lit_4, lit_5, lit_6, lit_7, lit_8, lit_9, lit_10, lit_11, lit_12, lit_17, lit_20, lit_30, lit_31, lit_32, lit_47, lit_48, lit_60, lit_99, lit_100, lit_144, lit_200, lit_240, lit_300, lit_576, lit_960, lit_1008, lit_1000000, lit_100000000, true_implies, not_true_eq_false, false_implies, not_false_eq_true, true_and, and_true, neg_1, nI_add, pk_mul, nI_clamp, le_nI, lt_nI, eq_nI, vp_nI, nI_NN, NN_nI, NN_lt, NN_le, lt_NN, le_NN, s1]
    repeat' (first | refine Rn_and (by first | omega | assumption) ?_ | refine Rn_pos (by first | omega | assumption) ?_ | refine Rn_neg (by first | omega | assumption) ?_ | refine Rn_pos' (by first | omega | assumption) ?_ | refine Rn_neg' (by first | omega | assumption) ?_ | fail)
    subst hs
    refine ih _ (Mem_ext (fun k a b => ?_) rfl)
    simp only [wI_r, sK_r, sK_2, wI_2]
    grind
  · rintro s hs
    have s1 : s.1 9 f 6 = nI n := by rw [hs]; exact wI_same _ _ _ _ _
    refine Rn_map (fun Q => x_X3_takeDuties_15) ?_
    simp (disch := omega) only [lit_0, lit_1, lit_2, lit_3, lit_4, lit_5, lit_6, lit_7, lit_8, lit_9, lit_10, lit_11, lit_12, lit_17, lit_20, lit_30, lit_31, lit_32, lit_47, lit_48, lit_60, lit_99, lit_100, lit_144, lit_200, lit_240, lit_300, lit_576, lit_960, lit_1008, lit_1000000, lit_100000000, true_implies, not_true_eq_false, false_implies, not_false_eq_true, true_and, and_true, neg_1, nI_add, pk_mul, nI_clamp, le_nI, lt_nI, eq_nI, vp_nI, nI_NN, NN_nI, NN_lt, NN_le, lt_NN, le_NN, s1, edv]
    repeat' (first | refine Rn_and (by first | omega | assumption) ?_ | refine Rn_pos (by first | omega | assumption) ?_ | refine Rn_neg (by first | omega | assumption) ?_ | refine Rn_pos' (by first | omega | assumption) ?_ | refine Rn_neg' (by first | omega | assumption) ?_ | fail)
    subst hs
    exact Rn_ret ⟨_, rfl, hP⟩
  · refine Mem_ext (fun k a b => ?_) rfl
    simp only [sK_r, wI_r]
    grind
theorem f_X8_duties_84 {d f z n : Nat} {σ : Mem} {P : Int32 → Mem → Prop} (hf : f < 20) (hz : z < 8) (hn : n ≤ 48) (hsz : σ.1 58 0 z = nI n) (hP : P (σ.1 41 0 f) (sK σ 42 (fun i j => if i = 0 ∧ 48 * f ≤ j ∧ j < 48 * f + n then Int64.toInt32 (σ.2 59 0 (60 * z + (j - 48 * f))) else σ.1 42 i j))) : Rn (fun K => J IM M_X8_duties (d + 5) 84 [(0, ar 30 0), (1, ai (nI f)), (2, ai (nI z)), (3, ai (nI 0))] [] σ (KQ K)) P := by
  refine Rn_KQ ?_
  refine loopU (C := fun i s Q => J IM M_X8_duties (d + 5) 84 [(0, ar 30 0), (1, ai (nI f)), (2, ai (nI z)), (3, ai (nI i))] [] s Q) (Inv := fun m s => s = sK σ 42 (fun i j => if i = 0 ∧ 48 * f ≤ j ∧ j < 48 * f + m then Int64.toInt32 (σ.2 59 0 (60 * z + (j - 48 * f))) else σ.1 42 i j)) (n := n) ?_ ?_ (by omega) ?_
  · rintro i s hi hs ih
    have s1 : s.1 58 0 z = nI n := by rw [hs]; exact hsz
    refine Rn_map (fun Q => x_X8_duties_84) ?_
    simp (disch := omega) only [lit_0, lit_1, lit_2, lit_3, lit_4, lit_5, lit_6, lit_7, lit_8, lit_9, lit_10, lit_11, lit_12, lit_17, lit_20, lit_30, lit_31, lit_32, lit_47, lit_48, lit_60, lit_99, lit_100, lit_144, lit_200, lit_240, lit_300, lit_576, lit_960, lit_1008, lit_1000000, lit_100000000, true_implies, not_true_eq_false, false_implies, not_false_eq_true, true_and, and_true, neg_1, nI_add, pk_mul, nI_clamp, le_nI, lt_nI, eq_nI, vp_nI, nI_NN, NN_nI, NN_lt, NN_le, lt_NN, le_NN, s1]
    repeat' (first | refine Rn_and (by first | omega | assumption) ?_ | refine Rn_pos (by first | omega | assumption) ?_ | refine Rn_neg (by first | omega | assumption) ?_ | refine Rn_pos' (by first | omega | assumption) ?_ | refine Rn_neg' (by first | omega | assumption) ?_ | fail)
    subst hs
    refine ih _ (Mem_ext (fun k a b => ?_) rfl)
    simp only [wI_r, sK_r, sK_2]
    have hb : b = 48 * f + i → b - 48 * f = i := by omega
    grind
  · rintro s hs
    have s1 : s.1 58 0 z = nI n := by rw [hs]; exact hsz
    refine Rn_map (fun Q => x_X8_duties_84) ?_
    simp (disch := omega) only [lit_0, lit_1, lit_2, lit_3, lit_4, lit_5, lit_6, lit_7, lit_8, lit_9, lit_10, lit_11, lit_12, lit_17, lit_20, lit_30, lit_31, lit_32, lit_47, lit_48, lit_60, lit_99, lit_100, lit_144, lit_200, lit_240, lit_300, lit_576, lit_960, lit_1008, lit_1000000, lit_100000000, true_implies, not_true_eq_false, false_implies, not_false_eq_true, true_and, and_true, neg_1, nI_add, pk_mul, nI_clamp, le_nI, lt_nI, eq_nI, vp_nI, nI_NN, NN_nI, NN_lt, NN_le, lt_NN, le_NN, s1]
    repeat' (first | refine Rn_and (by first | omega | assumption) ?_ | refine Rn_pos (by first | omega | assumption) ?_ | refine Rn_neg (by first | omega | assumption) ?_ | refine Rn_pos' (by first | omega | assumption) ?_ | refine Rn_neg' (by first | omega | assumption) ?_ | fail)
    subst hs
    exact Rn_ret ⟨_, rfl, hP⟩
  · refine Mem_ext (fun k a b => ?_) rfl
    simp only [sK_r]
    grind
def Lbad (c : Int32) : Prop := c.toInt < 0 ∨ 9 < c.toInt
theorem f_X8_likes_79 {d f z n : Nat} {c : Nat → Int32} {σ : Mem} {P : Int32 → Mem → Prop} (hf : f < 20) (hz : z < 8) (hn : n ≤ 12) (hc : ∀ k, k < 60 → Int64.toInt32 (σ.2 59 0 (60 * z + k)) = c k) (h6 : (∃ k, k < n ∧ Lbad (c k)) → P (-nI 6) (wI σ 31 0 6 (σ.1 31 0 6 + nI 1))) (h1 : (∀ k, k < n → ¬ Lbad (c k)) → P (nI n) (sK σ 40 (fun i j => if i = 0 ∧ 12 * f ≤ j ∧ j < 12 * f + n then c (j - 12 * f) else σ.1 40 i j))) : Rn (fun K => J IM M_X8_likes (d + 3) 79 [(0, ar 30 0), (1, ai (nI f)), (2, ai (nI z)), (3, ai (nI n)), (4, ai (nI 0))] [] σ (KQ K)) P := by
  refine Rn_KQ ?_
  refine loopU (C := fun i (_ : Unit) Q => J IM M_X8_likes (d + 3) 79 [(0, ar 30 0), (1, ai (nI f)), (2, ai (nI z)), (3, ai (nI n)), (4, ai (nI i))] [] σ Q) (Inv := fun m _ => ∀ k, k < m → ¬ Lbad (c k)) (n := n) ?_ ?_ (by omega) (fun k hk => by omega) (b := ())
  · rintro i _ hi hall ih
    refine Rn_map (fun Q => x_X8_likes_79) ?_
    simp (disch := omega) only [lit_0, lit_1, lit_2, lit_3, lit_4, lit_5, lit_6, lit_7, lit_8, lit_9, lit_10, lit_11, lit_12, lit_17, lit_20, lit_30, lit_31, lit_32, lit_47, lit_48, lit_60, lit_99, lit_100, lit_144, lit_200, lit_240, lit_300, lit_576, lit_960, lit_1008, lit_1000000, lit_100000000, true_implies, not_true_eq_false, false_implies, not_false_eq_true, true_and, and_true, neg_1, nI_add, pk_mul, nI_clamp, vp_nI, tI_lt, tI_le, tI_eq, tI_nI, tI_NN, tI_pred, hc]
    repeat' (first | refine Rn_and (by first | omega | assumption) ?_ | refine Rn_pos (by first | omega | assumption) ?_ | refine Rn_neg (by first | omega | assumption) ?_ | refine Rn_pos' (by first | omega | assumption) ?_ | refine Rn_neg' (by first | omega | assumption) ?_ | refine Rn_if (fun _ => ?_) (fun _ => ?_) | refine Rn_if' (fun _ => ?_) (fun _ => ?_) | fail)
    · exact Rn_ret ⟨_, rfl, h6 ⟨i, hi, Or.inl (by omega)⟩⟩
    · exact Rn_ret ⟨_, rfl, h6 ⟨i, hi, Or.inr (by omega)⟩⟩
    · refine ih () (fun k hk => ?_)
      by_cases e : k = i
      · rw [e]; unfold Lbad; omega
      · exact hall k (by omega)
  · rintro _ hall
    refine Rn_map (fun Q => x_X8_likes_79) ?_
    simp (disch := omega) only [lit_0, lit_1, lit_2, lit_3, lit_4, lit_5, lit_6, lit_7, lit_8, lit_9, lit_10, lit_11, lit_12, lit_17, lit_20, lit_30, lit_31, lit_32, lit_47, lit_48, lit_60, lit_99, lit_100, lit_144, lit_200, lit_240, lit_300, lit_576, lit_960, lit_1008, lit_1000000, lit_100000000, true_implies, not_true_eq_false, false_implies, not_false_eq_true, true_and, and_true, neg_1, nI_add, pk_mul, nI_clamp, vp_nI, tI_lt, tI_le, tI_eq, tI_nI, tI_NN, tI_pred]
    repeat' (first | refine Rn_and (by first | omega | assumption) ?_ | refine Rn_pos (by first | omega | assumption) ?_ | refine Rn_neg (by first | omega | assumption) ?_ | refine Rn_pos' (by first | omega | assumption) ?_ | refine Rn_neg' (by first | omega | assumption) ?_ | fail)
    refine loopU (C := fun i s Q => J IM M_X8_likes (d + 3) 117 [(0, ar 30 0), (1, ai (nI f)), (2, ai (nI z)), (3, ai (nI n)), (4, ai (nI i))] [] s Q) (Inv := fun m s => s = sK σ 40 (fun i j => if i = 0 ∧ 12 * f ≤ j ∧ j < 12 * f + m then c (j - 12 * f) else σ.1 40 i j)) (n := n) ?_ ?_ (by omega) ?_
    · rintro i s hi hs ih
      have hc' : ∀ k, k < 60 → Int64.toInt32 (s.2 59 0 (60 * z + k)) = c k := by rw [hs]; exact hc
      refine Rn_map (fun Q => x_X8_likes_117) ?_
      simp (disch := omega) only [lit_0, lit_1, lit_2, lit_3, lit_4, lit_5, lit_6, lit_7, lit_8, lit_9, lit_10, lit_11, lit_12, lit_17, lit_20, lit_30, lit_31, lit_32, lit_47, lit_48, lit_60, lit_99, lit_100, lit_144, lit_200, lit_240, lit_300, lit_576, lit_960, lit_1008, lit_1000000, lit_100000000, true_implies, not_true_eq_false, false_implies, not_false_eq_true, true_and, and_true, neg_1, nI_add, pk_mul, nI_clamp, le_nI, lt_nI, eq_nI, vp_nI, nI_NN, NN_nI, NN_lt, NN_le, lt_NN, le_NN, hc']
      repeat' (first | refine Rn_and (by first | omega | assumption) ?_ | refine Rn_pos (by first | omega | assumption) ?_ | refine Rn_neg (by first | omega | assumption) ?_ | refine Rn_pos' (by first | omega | assumption) ?_ | refine Rn_neg' (by first | omega | assumption) ?_ | fail)
      subst hs
      refine ih _ (Mem_ext (fun k a b => ?_) rfl)
      simp only [wI_r, sK_r, sK_2]
      have hb : b = 12 * f + i → b - 12 * f = i := by omega
      grind
    · rintro s hs
      refine Rn_map (fun Q => x_X8_likes_117) ?_
      simp (disch := omega) only [lit_0, lit_1, lit_2, lit_3, lit_4, lit_5, lit_6, lit_7, lit_8, lit_9, lit_10, lit_11, lit_12, lit_17, lit_20, lit_30, lit_31, lit_32, lit_47, lit_48, lit_60, lit_99, lit_100, lit_144, lit_200, lit_240, lit_300, lit_576, lit_960, lit_1008, lit_1000000, lit_100000000, true_implies, not_true_eq_false, false_implies, not_false_eq_true, true_and, and_true, neg_1, nI_add, pk_mul, nI_clamp, le_nI, lt_nI, eq_nI, vp_nI, nI_NN, NN_nI, NN_lt, NN_le, lt_NN, le_NN]
      repeat' (first | refine Rn_and (by first | omega | assumption) ?_ | refine Rn_pos (by first | omega | assumption) ?_ | refine Rn_neg (by first | omega | assumption) ?_ | refine Rn_pos' (by first | omega | assumption) ?_ | refine Rn_neg' (by first | omega | assumption) ?_ | fail)
      subst hs
      exact Rn_ret ⟨_, rfl, h1 hall⟩
    · refine Mem_ext (fun k a b => ?_) rfl
      simp only [sK_r]
      grind
theorem R_duties {σx σm : Mem} {dx dm : Nat} {p0 p1 : Int32} (R : Rel κ σx σm) : Rn (fun K => CalI IX (dx + 7) S_X7_duties [ar 0 0, ai p0, ai p1] σx K) (fun r sx => Rn (fun K => CalI IM (dm + 5) S_X8_duties [ar 30 0, ai p0, ai p1] σm K) (fun r' sm => Agree κ r r' sx sm)) := by
  have R0 := R
  obtain ⟨P, W, F, G, C, N, D, B, w, l, gSc, gRef, gHrs, gLck, gWay, gFar, gDist, gShl, gCell, gHome, gKeys, gLike, gDuty, gGone, gBent, gPlan, gCost, gSeat, gMeet, gTly, gKnow, gFlt, gRow, gPln⟩ := R
  have hSc0 := gSc
  obtain ⟨⟨xP, mP, hP⟩, ⟨xW, mW, hW⟩, ⟨xF, mF, hF⟩, ⟨xG, mG, hG⟩, ⟨xC, mC, hC⟩, ⟨xN, mN, hN⟩, ⟨xD, mD, hD⟩, ⟨xB, mB, hB⟩, hpl, hb0⟩ := hSc0
  rcases ix_cases p0 F (by omega) with hf | hf | ⟨f, hf, rfl⟩
  · refine Rn_map (fun K => x_X7_duties) ?_
    try simp (disch := omega) only [lit_0, lit_1, lit_2, lit_3, lit_4, lit_5, lit_6, lit_7, lit_8, lit_9, lit_10, lit_11, lit_12, lit_17, lit_20, lit_30, lit_31, lit_32, lit_47, lit_48, lit_60, lit_99, lit_100, lit_144, lit_200, lit_240, lit_300, lit_576, lit_960, lit_1008, lit_1000000, lit_100000000, true_implies, not_true_eq_false, false_implies, not_false_eq_true, true_and, and_true, neg_1, nI_add, pk_mul, nI_clamp, vp_nI, tI_lt, tI_le, tI_eq, tI_nI, tI_NN, tI_pred, xP, xW, xF, xG, xC, xN, xD, xB, pk_sub, tI_sub, Nat.add_sub_cancel_left, Nat.add_sub_cancel, wI_same]
    repeat' (first | refine Rn_and (by first | omega | assumption) ?_ | refine Rn_pos (by first | omega | assumption) ?_ | refine Rn_neg (by first | omega | assumption) ?_ | refine Rn_pos' (by first | omega | assumption) ?_ | refine Rn_neg' (by first | omega | assumption) ?_ | refine Rn_if (fun _ => ?_) (fun _ => ?_) | refine Rn_if' (fun _ => ?_) (fun _ => ?_) | fail)
    all_goals (refine Rn_ret ?_; refine Rn_map (fun K => x_X8_duties) ?_)
    all_goals try simp (disch := omega) only [lit_0, lit_1, lit_2, lit_3, lit_4, lit_5, lit_6, lit_7, lit_8, lit_9, lit_10, lit_11, lit_12, lit_17, lit_20, lit_30, lit_31, lit_32, lit_47, lit_48, lit_60, lit_99, lit_100, lit_144, lit_200, lit_240, lit_300, lit_576, lit_960, lit_1008, lit_1000000, lit_100000000, true_implies, not_true_eq_false, false_implies, not_false_eq_true, true_and, and_true, neg_1, nI_add, pk_mul, nI_clamp, vp_nI, tI_lt, tI_le, tI_eq, tI_nI, tI_NN, tI_pred, mP, mW, mF, mG, mC, mN, mD, mB, pk_sub, tI_sub, Nat.add_sub_cancel_left, Nat.add_sub_cancel, wI_same]
    all_goals repeat' (first | refine Rn_and (by first | omega | assumption) ?_ | refine Rn_pos (by first | omega | assumption) ?_ | refine Rn_neg (by first | omega | assumption) ?_ | refine Rn_pos' (by first | omega | assumption) ?_ | refine Rn_neg' (by first | omega | assumption) ?_ | refine Rn_if (fun _ => ?_) (fun _ => ?_) | refine Rn_if' (fun _ => ?_) (fun _ => ?_) | fail)
    all_goals first
      | exact Rn_ret (Agr rfl R0)
      | exact Rn_ret (Agr rfl (Rel_ref R0 1)) | exact Rn_ret (Agr rfl (Rel_ref R0 2)) | exact Rn_ret (Agr rfl (Rel_ref R0 3)) | exact Rn_ret (Agr rfl (Rel_ref R0 4)) | exact Rn_ret (Agr rfl (Rel_ref R0 5)) | exact Rn_ret (Agr rfl (Rel_ref R0 6)) | exact Rn_ret (Agr rfl (Rel_ref R0 7))
      | (exfalso; omega)
  · refine Rn_map (fun K => x_X7_duties) ?_
    try simp (disch := omega) only [lit_0, lit_1, lit_2, lit_3, lit_4, lit_5, lit_6, lit_7, lit_8, lit_9, lit_10, lit_11, lit_12, lit_17, lit_20, lit_30, lit_31, lit_32, lit_47, lit_48, lit_60, lit_99, lit_100, lit_144, lit_200, lit_240, lit_300, lit_576, lit_960, lit_1008, lit_1000000, lit_100000000, true_implies, not_true_eq_false, false_implies, not_false_eq_true, true_and, and_true, neg_1, nI_add, pk_mul, nI_clamp, vp_nI, tI_lt, tI_le, tI_eq, tI_nI, tI_NN, tI_pred, xP, xW, xF, xG, xC, xN, xD, xB, pk_sub, tI_sub, Nat.add_sub_cancel_left, Nat.add_sub_cancel, wI_same]
    repeat' (first | refine Rn_and (by first | omega | assumption) ?_ | refine Rn_pos (by first | omega | assumption) ?_ | refine Rn_neg (by first | omega | assumption) ?_ | refine Rn_pos' (by first | omega | assumption) ?_ | refine Rn_neg' (by first | omega | assumption) ?_ | refine Rn_if (fun _ => ?_) (fun _ => ?_) | refine Rn_if' (fun _ => ?_) (fun _ => ?_) | fail)
    all_goals (refine Rn_ret ?_; refine Rn_map (fun K => x_X8_duties) ?_)
    all_goals try simp (disch := omega) only [lit_0, lit_1, lit_2, lit_3, lit_4, lit_5, lit_6, lit_7, lit_8, lit_9, lit_10, lit_11, lit_12, lit_17, lit_20, lit_30, lit_31, lit_32, lit_47, lit_48, lit_60, lit_99, lit_100, lit_144, lit_200, lit_240, lit_300, lit_576, lit_960, lit_1008, lit_1000000, lit_100000000, true_implies, not_true_eq_false, false_implies, not_false_eq_true, true_and, and_true, neg_1, nI_add, pk_mul, nI_clamp, vp_nI, tI_lt, tI_le, tI_eq, tI_nI, tI_NN, tI_pred, mP, mW, mF, mG, mC, mN, mD, mB, pk_sub, tI_sub, Nat.add_sub_cancel_left, Nat.add_sub_cancel, wI_same]
    all_goals repeat' (first | refine Rn_and (by first | omega | assumption) ?_ | refine Rn_pos (by first | omega | assumption) ?_ | refine Rn_neg (by first | omega | assumption) ?_ | refine Rn_pos' (by first | omega | assumption) ?_ | refine Rn_neg' (by first | omega | assumption) ?_ | refine Rn_if (fun _ => ?_) (fun _ => ?_) | refine Rn_if' (fun _ => ?_) (fun _ => ?_) | fail)
    all_goals first
      | exact Rn_ret (Agr rfl R0)
      | exact Rn_ret (Agr rfl (Rel_ref R0 1)) | exact Rn_ret (Agr rfl (Rel_ref R0 2)) | exact Rn_ret (Agr rfl (Rel_ref R0 3)) | exact Rn_ret (Agr rfl (Rel_ref R0 4)) | exact Rn_ret (Agr rfl (Rel_ref R0 5)) | exact Rn_ret (Agr rfl (Rel_ref R0 6)) | exact Rn_ret (Agr rfl (Rel_ref R0 7))
      | (exfalso; omega)
  · rcases (gGone f (by omega)).2 with eg | eg
    all_goals have egx := (gGone f (by omega)).1.trans eg
    · rcases ix_cases p1 8 (by omega) with hs | hs | ⟨s, hs, rfl⟩
      · refine Rn_map (fun K => x_X7_duties) ?_
        try simp (disch := omega) only [lit_0, lit_1, lit_2, lit_3, lit_4, lit_5, lit_6, lit_7, lit_8, lit_9, lit_10, lit_11, lit_12, lit_17, lit_20, lit_30, lit_31, lit_32, lit_47, lit_48, lit_60, lit_99, lit_100, lit_144, lit_200, lit_240, lit_300, lit_576, lit_960, lit_1008, lit_1000000, lit_100000000, true_implies, not_true_eq_false, false_implies, not_false_eq_true, true_and, and_true, neg_1, nI_add, pk_mul, nI_clamp, vp_nI, tI_lt, tI_le, tI_eq, tI_nI, tI_NN, tI_pred, xP, xW, xF, xG, xC, xN, xD, xB, egx, pk_sub, tI_sub, Nat.add_sub_cancel_left, Nat.add_sub_cancel, wI_same]
        repeat' (first | refine Rn_and (by first | omega | assumption) ?_ | refine Rn_pos (by first | omega | assumption) ?_ | refine Rn_neg (by first | omega | assumption) ?_ | refine Rn_pos' (by first | omega | assumption) ?_ | refine Rn_neg' (by first | omega | assumption) ?_ | refine Rn_if (fun _ => ?_) (fun _ => ?_) | refine Rn_if' (fun _ => ?_) (fun _ => ?_) | fail)
        all_goals (refine Rn_ret ?_; refine Rn_map (fun K => x_X8_duties) ?_)
        all_goals try simp (disch := omega) only [lit_0, lit_1, lit_2, lit_3, lit_4, lit_5, lit_6, lit_7, lit_8, lit_9, lit_10, lit_11, lit_12, lit_17, lit_20, lit_30, lit_31, lit_32, lit_47, lit_48, lit_60, lit_99, lit_100, lit_144, lit_200, lit_240, lit_300, lit_576, lit_960, lit_1008, lit_1000000, lit_100000000, true_implies, not_true_eq_false, false_implies, not_false_eq_true, true_and, and_true, neg_1, nI_add, pk_mul, nI_clamp, vp_nI, tI_lt, tI_le, tI_eq, tI_nI, tI_NN, tI_pred, mP, mW, mF, mG, mC, mN, mD, mB, eg, pk_sub, tI_sub, Nat.add_sub_cancel_left, Nat.add_sub_cancel, wI_same]
        all_goals repeat' (first | refine Rn_and (by first | omega | assumption) ?_ | refine Rn_pos (by first | omega | assumption) ?_ | refine Rn_neg (by first | omega | assumption) ?_ | refine Rn_pos' (by first | omega | assumption) ?_ | refine Rn_neg' (by first | omega | assumption) ?_ | refine Rn_if (fun _ => ?_) (fun _ => ?_) | refine Rn_if' (fun _ => ?_) (fun _ => ?_) | fail)
        all_goals first
          | exact Rn_ret (Agr rfl R0)
          | exact Rn_ret (Agr rfl (Rel_ref R0 1)) | exact Rn_ret (Agr rfl (Rel_ref R0 2)) | exact Rn_ret (Agr rfl (Rel_ref R0 3)) | exact Rn_ret (Agr rfl (Rel_ref R0 4)) | exact Rn_ret (Agr rfl (Rel_ref R0 5)) | exact Rn_ret (Agr rfl (Rel_ref R0 6)) | exact Rn_ret (Agr rfl (Rel_ref R0 7))
          | (exfalso; omega)
      · refine Rn_map (fun K => x_X7_duties) ?_
        try simp (disch := omega) only [lit_0, lit_1, lit_2, lit_3, lit_4, lit_5, lit_6, lit_7, lit_8, lit_9, lit_10, lit_11, lit_12, lit_17, lit_20, lit_30, lit_31, lit_32, lit_47, lit_48, lit_60, lit_99, lit_100, lit_144, lit_200, lit_240, lit_300, lit_576, lit_960, lit_1008, lit_1000000, lit_100000000, true_implies, not_true_eq_false, false_implies, not_false_eq_true, true_and, and_true, neg_1, nI_add, pk_mul, nI_clamp, vp_nI, tI_lt, tI_le, tI_eq, tI_nI, tI_NN, tI_pred, xP, xW, xF, xG, xC, xN, xD, xB, egx, pk_sub, tI_sub, Nat.add_sub_cancel_left, Nat.add_sub_cancel, wI_same]
        repeat' (first | refine Rn_and (by first | omega | assumption) ?_ | refine Rn_pos (by first | omega | assumption) ?_ | refine Rn_neg (by first | omega | assumption) ?_ | refine Rn_pos' (by first | omega | assumption) ?_ | refine Rn_neg' (by first | omega | assumption) ?_ | refine Rn_if (fun _ => ?_) (fun _ => ?_) | refine Rn_if' (fun _ => ?_) (fun _ => ?_) | fail)
        all_goals (refine Rn_ret ?_; refine Rn_map (fun K => x_X8_duties) ?_)
        all_goals try simp (disch := omega) only [lit_0, lit_1, lit_2, lit_3, lit_4, lit_5, lit_6, lit_7, lit_8, lit_9, lit_10, lit_11, lit_12, lit_17, lit_20, lit_30, lit_31, lit_32, lit_47, lit_48, lit_60, lit_99, lit_100, lit_144, lit_200, lit_240, lit_300, lit_576, lit_960, lit_1008, lit_1000000, lit_100000000, true_implies, not_true_eq_false, false_implies, not_false_eq_true, true_and, and_true, neg_1, nI_add, pk_mul, nI_clamp, vp_nI, tI_lt, tI_le, tI_eq, tI_nI, tI_NN, tI_pred, mP, mW, mF, mG, mC, mN, mD, mB, eg, pk_sub, tI_sub, Nat.add_sub_cancel_left, Nat.add_sub_cancel, wI_same]
        all_goals repeat' (first | refine Rn_and (by first | omega | assumption) ?_ | refine Rn_pos (by first | omega | assumption) ?_ | refine Rn_neg (by first | omega | assumption) ?_ | refine Rn_pos' (by first | omega | assumption) ?_ | refine Rn_neg' (by first | omega | assumption) ?_ | refine Rn_if (fun _ => ?_) (fun _ => ?_) | refine Rn_if' (fun _ => ?_) (fun _ => ?_) | fail)
        all_goals first
          | exact Rn_ret (Agr rfl R0)
          | exact Rn_ret (Agr rfl (Rel_ref R0 1)) | exact Rn_ret (Agr rfl (Rel_ref R0 2)) | exact Rn_ret (Agr rfl (Rel_ref R0 3)) | exact Rn_ret (Agr rfl (Rel_ref R0 4)) | exact Rn_ret (Agr rfl (Rel_ref R0 5)) | exact Rn_ret (Agr rfl (Rel_ref R0 6)) | exact Rn_ret (Agr rfl (Rel_ref R0 7))
          | (exfalso; omega)
      · rcases gShl s hs with ⟨a1, a2, a3, a4⟩ | ⟨g, hg, a1, a2, a3, a4⟩ | ⟨k, n, hk, hn, a1, a2, a3, a4, a5⟩
        · refine Rn_map (fun K => x_X7_duties) ?_
          try simp (disch := omega) only [lit_0, lit_1, lit_2, lit_3, lit_4, lit_5, lit_6, lit_7, lit_8, lit_9, lit_10, lit_11, lit_12, lit_17, lit_20, lit_30, lit_31, lit_32, lit_47, lit_48, lit_60, lit_99, lit_100, lit_144, lit_200, lit_240, lit_300, lit_576, lit_960, lit_1008, lit_1000000, lit_100000000, true_implies, not_true_eq_false, false_implies, not_false_eq_true, true_and, and_true, neg_1, nI_add, pk_mul, nI_clamp, vp_nI, tI_lt, tI_le, tI_eq, tI_nI, tI_NN, tI_pred, xP, xW, xF, xG, xC, xN, xD, xB, egx, a1, a2, a3, pk_sub, tI_sub, Nat.add_sub_cancel_left, Nat.add_sub_cancel, wI_same]
          repeat' (first | refine Rn_and (by first | omega | assumption) ?_ | refine Rn_pos (by first | omega | assumption) ?_ | refine Rn_neg (by first | omega | assumption) ?_ | refine Rn_pos' (by first | omega | assumption) ?_ | refine Rn_neg' (by first | omega | assumption) ?_ | refine Rn_if (fun _ => ?_) (fun _ => ?_) | refine Rn_if' (fun _ => ?_) (fun _ => ?_) | fail)
          all_goals (refine Rn_ret ?_; refine Rn_map (fun K => x_X8_duties) ?_)
          all_goals try simp (disch := omega) only [lit_0, lit_1, lit_2, lit_3, lit_4, lit_5, lit_6, lit_7, lit_8, lit_9, lit_10, lit_11, lit_12, lit_17, lit_20, lit_30, lit_31, lit_32, lit_47, lit_48, lit_60, lit_99, lit_100, lit_144, lit_200, lit_240, lit_300, lit_576, lit_960, lit_1008, lit_1000000, lit_100000000, true_implies, not_true_eq_false, false_implies, not_false_eq_true, true_and, and_true, neg_1, nI_add, pk_mul, nI_clamp, vp_nI, tI_lt, tI_le, tI_eq, tI_nI, tI_NN, tI_pred, mP, mW, mF, mG, mC, mN, mD, mB, eg, a4, pk_sub, tI_sub, Nat.add_sub_cancel_left, Nat.add_sub_cancel, wI_same]
          all_goals repeat' (first | refine Rn_and (by first | omega | assumption) ?_ | refine Rn_pos (by first | omega | assumption) ?_ | refine Rn_neg (by first | omega | assumption) ?_ | refine Rn_pos' (by first | omega | assumption) ?_ | refine Rn_neg' (by first | omega | assumption) ?_ | refine Rn_if (fun _ => ?_) (fun _ => ?_) | refine Rn_if' (fun _ => ?_) (fun _ => ?_) | fail)
          all_goals first
            | exact Rn_ret (Agr rfl R0)
            | exact Rn_ret (Agr rfl (Rel_ref R0 1)) | exact Rn_ret (Agr rfl (Rel_ref R0 2)) | exact Rn_ret (Agr rfl (Rel_ref R0 3)) | exact Rn_ret (Agr rfl (Rel_ref R0 4)) | exact Rn_ret (Agr rfl (Rel_ref R0 5)) | exact Rn_ret (Agr rfl (Rel_ref R0 6)) | exact Rn_ret (Agr rfl (Rel_ref R0 7))
            | (exfalso; omega)
        · refine Rn_map (fun K => x_X7_duties) ?_
          try simp (disch := omega) only [lit_0, lit_1, lit_2, lit_3, lit_4, lit_5, lit_6, lit_7, lit_8, lit_9, lit_10, lit_11, lit_12, lit_17, lit_20, lit_30, lit_31, lit_32, lit_47, lit_48, lit_60, lit_99, lit_100, lit_144, lit_200, lit_240, lit_300, lit_576, lit_960, lit_1008, lit_1000000, lit_100000000, true_implies, not_true_eq_false, false_implies, not_false_eq_true, true_and, and_true, neg_1, nI_add, pk_mul, nI_clamp, vp_nI, tI_lt, tI_le, tI_eq, tI_nI, tI_NN, tI_pred, xP, xW, xF, xG, xC, xN, xD, xB, egx, a1, a2, a3, pk_sub, tI_sub, Nat.add_sub_cancel_left, Nat.add_sub_cancel, wI_same]
          repeat' (first | refine Rn_and (by first | omega | assumption) ?_ | refine Rn_pos (by first | omega | assumption) ?_ | refine Rn_neg (by first | omega | assumption) ?_ | refine Rn_pos' (by first | omega | assumption) ?_ | refine Rn_neg' (by first | omega | assumption) ?_ | refine Rn_if (fun _ => ?_) (fun _ => ?_) | refine Rn_if' (fun _ => ?_) (fun _ => ?_) | fail)
          all_goals (refine Rn_ret ?_; refine Rn_map (fun K => x_X8_duties) ?_)
          all_goals try simp (disch := omega) only [lit_0, lit_1, lit_2, lit_3, lit_4, lit_5, lit_6, lit_7, lit_8, lit_9, lit_10, lit_11, lit_12, lit_17, lit_20, lit_30, lit_31, lit_32, lit_47, lit_48, lit_60, lit_99, lit_100, lit_144, lit_200, lit_240, lit_300, lit_576, lit_960, lit_1008, lit_1000000, lit_100000000, true_implies, not_true_eq_false, false_implies, not_false_eq_true, true_and, and_true, neg_1, nI_add, pk_mul, nI_clamp, vp_nI, tI_lt, tI_le, tI_eq, tI_nI, tI_NN, tI_pred, mP, mW, mF, mG, mC, mN, mD, mB, eg, a4, pk_sub, tI_sub, Nat.add_sub_cancel_left, Nat.add_sub_cancel, wI_same]
          all_goals repeat' (first | refine Rn_and (by first | omega | assumption) ?_ | refine Rn_pos (by first | omega | assumption) ?_ | refine Rn_neg (by first | omega | assumption) ?_ | refine Rn_pos' (by first | omega | assumption) ?_ | refine Rn_neg' (by first | omega | assumption) ?_ | refine Rn_if (fun _ => ?_) (fun _ => ?_) | refine Rn_if' (fun _ => ?_) (fun _ => ?_) | fail)
          all_goals first
            | exact Rn_ret (Agr rfl R0)
            | exact Rn_ret (Agr rfl (Rel_ref R0 1)) | exact Rn_ret (Agr rfl (Rel_ref R0 2)) | exact Rn_ret (Agr rfl (Rel_ref R0 3)) | exact Rn_ret (Agr rfl (Rel_ref R0 4)) | exact Rn_ret (Agr rfl (Rel_ref R0 5)) | exact Rn_ret (Agr rfl (Rel_ref R0 6)) | exact Rn_ret (Agr rfl (Rel_ref R0 7))
            | (exfalso; omega)
        · have hc : ∀ k, k < 60 → Int64.toInt32 (σx.2 8 s k) = Int64.toInt32 (σm.2 59 0 (60 * s + k)) := fun k hk => congrArg _ (gCell s k hs hk)
          have hlx : ∀ a b, a < P → b < P → l a b ≤ 1000000 ∧ σx.1 6 0 (a * 12 + b) = if l a b = 1000000 then NN else nI (l a b) := by
            intro a b ha hb
            rw [Nat.mul_comm]
            exact ⟨by have := (gFar.1 a b (by omega) (by omega)).2.1; omega, gFar.2 a b ha hb⟩
          have hlm : ∀ a b, a < P → b < P → l a b ≤ 1000000 ∧ σm.1 37 0 (12 * a + b) = nI (l a b) := by
            intro a b ha hb
            have := gFar.1 a b (by omega) (by omega)
            exact ⟨by omega, this.1⟩
          refine Rn_map (fun K => x_X7_duties) ?_
          simp (disch := omega) only [lit_0, lit_1, lit_2, lit_3, lit_4, lit_5, lit_6, lit_7, lit_8, lit_9, lit_10, lit_11, lit_12, lit_17, lit_20, lit_30, lit_31, lit_32, lit_47, lit_48, lit_60, lit_99, lit_100, lit_144, lit_200, lit_240, lit_300, lit_576, lit_960, lit_1008, lit_1000000, lit_100000000, true_implies, not_true_eq_false, false_implies, not_false_eq_true, true_and, and_true, neg_1, nI_add, pk_mul, nI_clamp, le_nI, lt_nI, eq_nI, vp_nI, nI_NN, NN_nI, NN_lt, NN_le, lt_NN, le_NN, xP, xW, xF, xG, xC, xN, xD, xB, egx, a1, a2, a3]
          repeat' (first | refine Rn_and (by first | omega | assumption) ?_ | refine Rn_pos (by first | omega | assumption) ?_ | refine Rn_neg (by first | omega | assumption) ?_ | refine Rn_pos' (by first | omega | assumption) ?_ | refine Rn_neg' (by first | omega | assumption) ?_ | fail)
          refine Rn_cV ?_
          refine f_X0_examine (c := fun k => Int64.toInt32 (σm.2 59 0 (60 * s + k))) hP hn xP a3 hc hlx (fun a b hab => ?_)
          have rx : (wI (wI σx 23 0 0 a) 23 0 1 b).1 23 0 0 = a := by
            rw [wI_r, if_neg (by omega), wI_r, if_pos ⟨rfl, rfl, rfl⟩]
          have rm : (wI (wI σm 30 0 39 a) 30 0 40 b).1 30 0 39 = a := by
            rw [wI_r, if_neg (by omega), wI_r, if_pos ⟨rfl, rfl, rfl⟩]
          have key0 : Rel κ (wI (wI σx 23 0 0 a) 23 0 1 b) (wI (wI σm 30 0 39 a) 30 0 40 b) := by
            refine ⟨P, W, F, G, C, N, D, B, w, l, gSc, gRef, gHrs, gLck, gWay, gFar, gDist, gShl, gCell, gHome, gKeys, gLike, gDuty, gGone, gBent, gPlan, gCost, gSeat, gMeet, gTly, gKnow, ?_, gRow, gPln⟩
            exact ⟨rx.trans rm.symm, by
              show (wI (wI σx 23 0 0 a) 23 0 1 b).1 23 0 1 = (wI (wI σm 30 0 39 a) 30 0 40 b).1 30 0 40
              rw [wI_same, wI_same]⟩
          have hm : ∀ {r : Int32} {sx : Mem}, ((a ≠ nI 0 → Agree κ r (-nI 6) sx (wI (wI (wI σm 30 0 39 a) 30 0 40 b) 31 0 6 ((wI (wI σm 30 0 39 a) 30 0 40 b).1 31 0 6 + nI 1))) ∧ (a = nI 0 → n % 4 = 0 → n ≤ 48 → Agree κ r (nI (n / 4)) sx (sK (wI (wI (wI σm 30 0 39 a) 30 0 40 b) 41 0 f (nI (n / 4))) 42 (fun i j => if i = 0 ∧ 48 * f ≤ j ∧ j < 48 * f + n then Int64.toInt32 (σm.2 59 0 (60 * s + (j - 48 * f))) else σm.1 42 i j)))) → Rn (fun K => CalI IM (dm + 5) S_X8_duties [ar 30 0, ai (nI f), ai (nI s)] σm K) (fun r' sm => Agree κ r r' sx sm) := by
            intro r sx ⟨h1, h2⟩
            refine Rn_map (fun K => x_X8_duties) ?_
            simp (disch := omega) only [lit_0, lit_1, lit_2, lit_3, lit_4, lit_5, lit_6, lit_7, lit_8, lit_9, lit_10, lit_11, lit_12, lit_17, lit_20, lit_30, lit_31, lit_32, lit_47, lit_48, lit_60, lit_99, lit_100, lit_144, lit_200, lit_240, lit_300, lit_576, lit_960, lit_1008, lit_1000000, lit_100000000, true_implies, not_true_eq_false, false_implies, not_false_eq_true, true_and, and_true, neg_1, nI_add, pk_mul, nI_clamp, vp_nI, tI_lt, tI_le, tI_eq, tI_nI, tI_NN, tI_pred, mP, mW, mF, mG, mC, mN, mD, mB, eg, a4, a5, pk_sub, tI_sub, Nat.add_sub_cancel_left, Nat.add_sub_cancel, wI_same]
            repeat' (first | refine Rn_and (by first | omega | assumption) ?_ | refine Rn_pos (by first | omega | assumption) ?_ | refine Rn_neg (by first | omega | assumption) ?_ | refine Rn_pos' (by first | omega | assumption) ?_ | refine Rn_neg' (by first | omega | assumption) ?_ | fail)
            refine Rn_cV ?_
            refine f_X8_findFault (c := fun k => Int64.toInt32 (σm.2 59 0 (60 * s + k))) hP hs hn mP a5 (fun _ _ => rfl) hlm (fun a' b' hab' => ?_)
            obtain ⟨e1, e2⟩ := dRes_u hab hab'
            subst e1
            subst e2
            by_cases ha : a = nI 0
            · have edv : nI n / nI 4 = nI (n / 4) := pk_div (by omega) (by omega) (by omega)
              have r58 : (wI (wI σm 30 0 39 a) 30 0 40 b).1 58 0 s = nI n := a5
              have h44 : n % 4 = 0 ∧ n ≤ 48 := by
                rcases hab with ⟨_, q2, _⟩ | ⟨q1, q2, _⟩
                · rw [ha] at q2; exact absurd q2 (by decide)
                · exact ⟨q1, q2⟩
              rw [rm]
              have h2' := h2 ha h44.1 h44.2
              subst ha
              simp (disch := omega) only [lit_0, lit_1, lit_2, lit_3, lit_4, lit_5, lit_6, lit_7, lit_8, lit_9, lit_10, lit_11, lit_12, lit_17, lit_20, lit_30, lit_31, lit_32, lit_47, lit_48, lit_60, lit_99, lit_100, lit_144, lit_200, lit_240, lit_300, lit_576, lit_960, lit_1008, lit_1000000, lit_100000000, true_implies, not_true_eq_false, false_implies, not_false_eq_true, true_and, and_true, neg_1, nI_add, pk_mul, nI_clamp, vp_nI, tI_lt, tI_le, tI_eq, tI_nI, tI_NN, tI_pred, r58, edv]
              repeat' (first | refine Rn_and (by first | omega | assumption) ?_ | refine Rn_pos (by first | omega | assumption) ?_ | refine Rn_neg (by first | omega | assumption) ?_ | refine Rn_pos' (by first | omega | assumption) ?_ | refine Rn_neg' (by first | omega | assumption) ?_ | fail)
              refine f_X8_duties_84 (f := f) (z := s) (n := n) (by omega) hs h44.2 r58 ?_
              rw [wI_same]
              exact h2'
            · have h1' := h1 ha
              rw [rm]
              have ha' := ha
              rw [tI_eq, nI_toInt (by omega)] at ha'
              repeat' (first | refine Rn_and (by first | omega | assumption) ?_ | refine Rn_pos (by first | omega | assumption) ?_ | refine Rn_neg (by first | omega | assumption) ?_ | refine Rn_pos' (by first | omega | assumption) ?_ | refine Rn_neg' (by first | omega | assumption) ?_ | fail)
              exact Rn_ret h1'
          by_cases ha : a = nI 0
          · have h44 : n % 4 = 0 ∧ n ≤ 48 := by
              rcases hab with ⟨_, q2, _⟩ | ⟨q1, q2, _⟩
              · rw [ha] at q2; exact absurd q2 (by decide)
              · exact ⟨q1, q2⟩
            have hok : ∀ i, i < n / 4 → dFv (fun k => Int64.toInt32 (σm.2 59 0 (60 * s + k))) P l i 0 := by
              rcases hab with ⟨_, q2, _⟩ | ⟨_, _, ⟨_, _, q3⟩ | ⟨i, v, _, q4, q4b, q5, _⟩⟩
              · rw [ha] at q2; exact absurd q2 (by decide)
              · exact q3
              · rw [ha, eq_nI (by omega) (by omega)] at q5; exact absurd q5.symm q4
            rw [rx]
            have r73 : (wI (wI σx 23 0 0 a) 23 0 1 b).1 7 s 3 = nI n := a3
            refine Rn_pos ha ?_
            refine Rn_and (by omega) ?_
            refine Rn_and (by omega) ?_
            refine Rn_cI (f_X3_takeDuties (f := f) h44.2 r73 ?_)
            refine Rn_ret ?_
            refine hm ⟨fun h => absurd ha h, fun _ _ _ => Agr rfl ?_⟩
            have h9 : ∀ u j, j ≠ 6 → (wI (wI (wI σx 23 0 0 a) 23 0 1 b) 9 f 6 (nI n)).1 9 u j = σx.1 9 u j := fun u j hj => wI_j (k' := 9) (i' := u) (j' := j) hj
            refine ⟨P, W, F, G, C, N, D, B, w, l, gSc, gRef, gHrs, gLck, gWay, gFar, gDist, gShl, gCell, (GHome_c (fun _ => h9 _ _ (by omega)) gHome), (GKeys_c (fun _ => h9 _ _ (by omega)) gKeys), gLike, ?_, (GGone_c (fun _ => h9 _ _ (by omega)) gGone), (GBent_c (fun _ => h9 _ _ (by omega)) (fun _ => h9 _ _ (by omega)) (fun _ => h9 _ _ (by omega)) (fun _ => h9 _ _ (by omega)) gBent), gPlan, (GCost_c (fun _ => h9 _ _ (by omega)) gCost), gSeat, gMeet, gTly, (GKnow_c (fun _ => h9 _ _ (by omega)) gKnow), ?_, gRow, gPln⟩
            · intro u hu
              have gu := gDuty u hu
              show ∃ m, m ≤ 12 ∧ (wI (wI (wI σx 23 0 0 a) 23 0 1 b) 9 f 6 (nI n)).1 9 u 6 = nI (4 * m) ∧ (wI (wI (wI σm 30 0 39 a) 30 0 40 b) 41 0 f (nI (n / 4))).1 41 0 u = nI m ∧ (∀ i, i < 48 → (if u = f ∧ i < n then Int64.toInt32 (σx.2 8 s i) else σx.1 11 u i) = (if 0 = 0 ∧ 48 * f ≤ 48 * u + i ∧ 48 * u + i < 48 * f + n then Int64.toInt32 (σm.2 59 0 (60 * s + (48 * u + i - 48 * f))) else σm.1 42 0 (48 * u + i))) ∧ ∀ k, k < m → ∃ p x y v, p < P ∧ x < y ∧ y ≤ 48 ∧ 1 ≤ v ∧ v ≤ 100 ∧ (if 0 = 0 ∧ 48 * f ≤ 48 * u + 4 * k ∧ 48 * u + 4 * k < 48 * f + n then Int64.toInt32 (σm.2 59 0 (60 * s + (48 * u + 4 * k - 48 * f))) else σm.1 42 0 (48 * u + 4 * k)) = nI p ∧ (if 0 = 0 ∧ 48 * f ≤ 48 * u + 4 * k + 1 ∧ 48 * u + 4 * k + 1 < 48 * f + n then Int64.toInt32 (σm.2 59 0 (60 * s + (48 * u + 4 * k + 1 - 48 * f))) else σm.1 42 0 (48 * u + 4 * k + 1)) = nI x ∧ (if 0 = 0 ∧ 48 * f ≤ 48 * u + 4 * k + 2 ∧ 48 * u + 4 * k + 2 < 48 * f + n then Int64.toInt32 (σm.2 59 0 (60 * s + (48 * u + 4 * k + 2 - 48 * f))) else σm.1 42 0 (48 * u + 4 * k + 2)) = nI y ∧ (if 0 = 0 ∧ 48 * f ≤ 48 * u + 4 * k + 3 ∧ 48 * u + 4 * k + 3 < 48 * f + n then Int64.toInt32 (σm.2 59 0 (60 * s + (48 * u + 4 * k + 3 - 48 * f))) else σm.1 42 0 (48 * u + 4 * k + 3)) = nI v
              by_cases e : u = f
              · subst e
                obtain ⟨m0, _, _, _, i4, _⟩ := gu
                refine ⟨n / 4, by omega, ?_, wI_same _ _ _ _ _, fun i hi => ?_, fun k hk => ?_⟩
                · rw [wI_same]; congr 1; omega
                · by_cases hin : i < n
                  · rw [if_pos ⟨rfl, hin⟩, if_pos ⟨rfl, by omega, by omega⟩, hc i (by omega), show 48 * u + i - 48 * u = i by omega]
                  · rw [if_neg (by omega), if_neg (by omega)]
                    exact i4 i hi
                · obtain ⟨k1, k2, k3⟩ := dFv_ok (hok k hk)
                  obtain ⟨p, x, y, hp, hxy, hy, j1, j2, j3⟩ := OKd_of k1 k2
                  have k3' : 1 ≤ (Int64.toInt32 (σm.2 59 0 (60 * s + (4 * k + 3)))).toInt ∧ (Int64.toInt32 (σm.2 59 0 (60 * s + (4 * k + 3)))).toInt ≤ 100 := k3
                  obtain ⟨v, hv, j4⟩ := of_tI (n := 101) (by omega : (0 : Int) ≤ (Int64.toInt32 (σm.2 59 0 (60 * s + (4 * k + 3)))).toInt) (by omega)
                  rw [j4, nI_toInt (by omega)] at k3'
                  rw [if_pos ⟨rfl, by omega, by omega⟩, if_pos ⟨rfl, by omega, by omega⟩, if_pos ⟨rfl, by omega, by omega⟩, if_pos ⟨rfl, by omega, by omega⟩, show 48 * u + 4 * k - 48 * u = 4 * k by omega, show 48 * u + 4 * k + 1 - 48 * u = 4 * k + 1 by omega, show 48 * u + 4 * k + 2 - 48 * u = 4 * k + 2 by omega, show 48 * u + 4 * k + 3 - 48 * u = 4 * k + 3 by omega]
                  exact ⟨p, x, y, v, hp, hxy, hy, by omega, by omega, j1, j2, j3, j4⟩
              · obtain ⟨m0, i1, i2, i3, i4, i5⟩ := gu
                refine ⟨m0, i1, ?_, ?_, fun i hi => ?_, fun k hk => ?_⟩
                · rw [wI_r, if_neg (by omega)]
                  exact i2
                · rw [wI_r, if_neg (by omega)]
                  exact i3
                · rw [if_neg (by omega), if_neg (by omega)]
                  exact i4 i hi
                · rw [if_neg (by omega), if_neg (by omega), if_neg (by omega), if_neg (by omega)]
                  exact i5 k hk
            · exact ⟨rx.trans rm.symm, by
                show (wI (wI σx 23 0 0 a) 23 0 1 b).1 23 0 1 = (wI (wI σm 30 0 39 a) 30 0 40 b).1 30 0 40
                rw [wI_same, wI_same]⟩
          · rw [rx]
            refine Rn_neg ha ?_
            refine Rn_ret ?_
            exact hm ⟨fun _ => Agr rfl (Rel_ref key0 6), fun h => absurd h ha⟩
    · refine Rn_map (fun K => x_X7_duties) ?_
      try simp (disch := omega) only [lit_0, lit_1, lit_2, lit_3, lit_4, lit_5, lit_6, lit_7, lit_8, lit_9, lit_10, lit_11, lit_12, lit_17, lit_20, lit_30, lit_31, lit_32, lit_47, lit_48, lit_60, lit_99, lit_100, lit_144, lit_200, lit_240, lit_300, lit_576, lit_960, lit_1008, lit_1000000, lit_100000000, true_implies, not_true_eq_false, false_implies, not_false_eq_true, true_and, and_true, neg_1, nI_add, pk_mul, nI_clamp, vp_nI, tI_lt, tI_le, tI_eq, tI_nI, tI_NN, tI_pred, xP, xW, xF, xG, xC, xN, xD, xB, egx, pk_sub, tI_sub, Nat.add_sub_cancel_left, Nat.add_sub_cancel, wI_same]
      repeat' (first | refine Rn_and (by first | omega | assumption) ?_ | refine Rn_pos (by first | omega | assumption) ?_ | refine Rn_neg (by first | omega | assumption) ?_ | refine Rn_pos' (by first | omega | assumption) ?_ | refine Rn_neg' (by first | omega | assumption) ?_ | refine Rn_if (fun _ => ?_) (fun _ => ?_) | refine Rn_if' (fun _ => ?_) (fun _ => ?_) | fail)
      all_goals (refine Rn_ret ?_; refine Rn_map (fun K => x_X8_duties) ?_)
      all_goals try simp (disch := omega) only [lit_0, lit_1, lit_2, lit_3, lit_4, lit_5, lit_6, lit_7, lit_8, lit_9, lit_10, lit_11, lit_12, lit_17, lit_20, lit_30, lit_31, lit_32, lit_47, lit_48, lit_60, lit_99, lit_100, lit_144, lit_200, lit_240, lit_300, lit_576, lit_960, lit_1008, lit_1000000, lit_100000000, true_implies, not_true_eq_false, false_implies, not_false_eq_true, true_and, and_true, neg_1, nI_add, pk_mul, nI_clamp, vp_nI, tI_lt, tI_le, tI_eq, tI_nI, tI_NN, tI_pred, mP, mW, mF, mG, mC, mN, mD, mB, eg, pk_sub, tI_sub, Nat.add_sub_cancel_left, Nat.add_sub_cancel, wI_same]
      all_goals repeat' (first | refine Rn_and (by first | omega | assumption) ?_ | refine Rn_pos (by first | omega | assumption) ?_ | refine Rn_neg (by first | omega | assumption) ?_ | refine Rn_pos' (by first | omega | assumption) ?_ | refine Rn_neg' (by first | omega | assumption) ?_ | refine Rn_if (fun _ => ?_) (fun _ => ?_) | refine Rn_if' (fun _ => ?_) (fun _ => ?_) | fail)
      all_goals first
        | exact Rn_ret (Agr rfl R0)
        | exact Rn_ret (Agr rfl (Rel_ref R0 1)) | exact Rn_ret (Agr rfl (Rel_ref R0 2)) | exact Rn_ret (Agr rfl (Rel_ref R0 3)) | exact Rn_ret (Agr rfl (Rel_ref R0 4)) | exact Rn_ret (Agr rfl (Rel_ref R0 5)) | exact Rn_ret (Agr rfl (Rel_ref R0 6)) | exact Rn_ret (Agr rfl (Rel_ref R0 7))
        | (exfalso; omega)


