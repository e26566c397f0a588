variable {κ : Nat → Nat → Nat → Prop}
theorem f_X8_way_143 {d a b t : Nat} {l : Nat → Nat → Nat} {σ : Mem} {P : Int32 → Mem → Prop} (ha : a < 12) (hb : b < 12) (ht : t ≤ 9) (hl : ∀ p q, p < 12 → q < 12 → σ.1 37 0 (12 * p + q) = nI (l p q) ∧ l p q ≤ 1000000) (hP : ∀ f56, P (nI 1) (sK (sK σ 56 f56) 37 (fun i j => if i = 0 ∧ j < 144 then nI (lN' l a b t (j / 12) (j % 12)) else σ.1 37 i j))) : Rn (fun K => J IM M_X8_way (d + 3) 143 [(0, ar 30 0), (1, ai (nI a)), (2, ai (nI b)), (3, ai (nI t)), (4, ai (nI 0))] [] σ (KQ K)) P := by
  refine Rn_KQ ?_
  refine loopU (C := fun i s Q => J IM M_X8_way (d + 3) 143 [(0, ar 30 0), (1, ai (nI a)), (2, ai (nI b)), (3, ai (nI t)), (4, ai (nI i))] [] s Q) (Inv := fun n s => s = sK σ 56 (fun i j => if i = 0 ∧ j < n then nI (lN' l a b t (j / 12) (j % 12)) else σ.1 56 i j)) (n := 144) ?_ ?_ (by omega) ?_
  · rintro k s hk hs ih
    have e1 : nI k / nI 12 = nI (k / 12) := pk_div (by omega) (by omega) (by omega)
    have e2 : nI k - nI (k / 12 * 12) = nI (k % 12) := by rw [pk_sub (by omega)]; congr 1; omega
    have s37 : ∀ p q, p < 12 → q < 12 → s.1 37 0 (12 * p + q) = nI (l p q) := by
      intro p q hp hq
      rw [hs]
      exact (hl p q hp hq).1
    have s0 : s.1 37 0 k = nI (l (k / 12) (k % 12)) := by
      have := s37 (k / 12) (k % 12) (by omega) (by omega)
      rwa [show 12 * (k / 12) + k % 12 = k by omega] at this
    have s1 := s37 (k / 12) a (by omega) ha
    have s2 := s37 b (k % 12) hb (by omega)
    have s3 := s37 (k / 12) b (by omega) hb
    have s4 := s37 a (k % 12) ha (by omega)
    have l0 := (hl (k / 12) (k % 12) (by omega) (by omega)).2
    have l1 := (hl (k / 12) a (by omega) ha).2
    have l2 := (hl b (k % 12) hb (by omega)).2
    have l3 := (hl (k / 12) b (by omega) hb).2
    have l4 := (hl a (k % 12) ha (by omega)).2
    have hu : lN' l a b t (k / 12) (k % 12) = min (l (k / 12) (k % 12)) (min (l (k / 12) a + t + l b (k % 12)) (l (k / 12) b + t + l a (k % 12))) := rfl
    have close : ∀ v, v = lN' l a b t (k / 12) (k % 12) → wI s 56 0 k (nI v) = sK σ 56 (fun i j => if i = 0 ∧ j < k + 1 then nI (lN' l a b t (j / 12) (j % 12)) else σ.1 56 i j) := by
      intro v hv
      subst hv
      subst hs
      refine Mem_ext (fun k' i j => ?_) rfl
      simp only [wI_r, sK_r]
      grind
    refine Rn_map (fun Q => x_X8_way_143) ?_
    simp (disch := omega) only [lit_0, lit_1, lit_2, lit_3, lit_4, lit_5, lit_6, lit_7, lit_8, lit_9, lit_10, lit_11, lit_12, lit_17, lit_20, lit_30, lit_31, lit_32, lit_47, lit_48, lit_60, lit_99, lit_100, lit_144, lit_200, lit_240, lit_300, lit_576, lit_960, lit_1008, lit_1000000, lit_100000000, true_implies, not_true_eq_false, false_implies, not_false_eq_true, true_and, and_true, neg_1, nI_add, pk_mul, nI_clamp, le_nI, lt_nI, eq_nI, vp_nI, nI_NN, NN_nI, NN_lt, NN_le, lt_NN, le_NN, e1, e2, s0, s1, s2, s3, s4]
    repeat' (first | refine Rn_and (by first | omega | assumption) ?_ | refine Rn_pos (by first | omega | assumption) ?_ | refine Rn_neg (by first | omega | assumption) ?_ | refine Rn_pos' (by first | omega | assumption) ?_ | refine Rn_neg' (by first | omega | assumption) ?_ | refine Rn_if (fun _ => ?_) (fun _ => ?_) | refine Rn_if' (fun _ => ?_) (fun _ => ?_) | fail)
    all_goals exact ih _ (close _ (by omega))
  · rintro s hs
    refine Rn_map (fun Q => x_X8_way_143) ?_
    simp (disch := omega) only [lit_0, lit_1, lit_2, lit_3, lit_4, lit_5, lit_6, lit_7, lit_8, lit_9, lit_10, lit_11, lit_12, lit_17, lit_20, lit_30, lit_31, lit_32, lit_47, lit_48, lit_60, lit_99, lit_100, lit_144, lit_200, lit_240, lit_300, lit_576, lit_960, lit_1008, lit_1000000, lit_100000000, true_implies, not_true_eq_false, false_implies, not_false_eq_true, true_and, and_true, neg_1, nI_add, pk_mul, nI_clamp, le_nI, lt_nI, eq_nI, vp_nI, nI_NN, NN_nI, NN_lt, NN_le, lt_NN, le_NN]
    repeat' (first | refine Rn_and (by first | omega | assumption) ?_ | refine Rn_pos (by first | omega | assumption) ?_ | refine Rn_neg (by first | omega | assumption) ?_ | refine Rn_pos' (by first | omega | assumption) ?_ | refine Rn_neg' (by first | omega | assumption) ?_ | fail)
    refine loopU (C := fun i s Q => J IM M_X8_way (d + 3) 286 [(0, ar 30 0), (4, ai (nI i))] [] s Q) (Inv := fun n s' => s' = sK s 37 (fun i j => if i = 0 ∧ j < n then s.1 56 0 j else s.1 37 i j)) (n := 144) ?_ ?_ (by omega) ?_
    · rintro k s' hk hs' ih
      have e56 : s'.1 56 0 k = s.1 56 0 k := by rw [hs']; rfl
      refine Rn_map (fun Q => x_X8_way_286) ?_
      simp (disch := omega) only [lit_0, lit_1, lit_2, lit_3, lit_4, lit_5, lit_6, lit_7, lit_8, lit_9, lit_10, lit_11, lit_12, lit_17, lit_20, lit_30, lit_31, lit_32, lit_47, lit_48, lit_60, lit_99, lit_100, lit_144, lit_200, lit_240, lit_300, lit_576, lit_960, lit_1008, lit_1000000, lit_100000000, true_implies, not_true_eq_false, false_implies, not_false_eq_true, true_and, and_true, neg_1, nI_add, pk_mul, nI_clamp, le_nI, lt_nI, eq_nI, vp_nI, nI_NN, NN_nI, NN_lt, NN_le, lt_NN, le_NN, e56]
      repeat' (first | refine Rn_and (by first | omega | assumption) ?_ | refine Rn_pos (by first | omega | assumption) ?_ | refine Rn_neg (by first | omega | assumption) ?_ | refine Rn_pos' (by first | omega | assumption) ?_ | refine Rn_neg' (by first | omega | assumption) ?_ | fail)
      refine ih _ ?_
      subst hs'
      refine Mem_ext (fun k' i j => ?_) rfl
      simp only [wI_r, sK_r]
      grind
    · rintro s' hs'
      refine Rn_map (fun Q => x_X8_way_286) ?_
      simp (disch := omega) only [lit_0, lit_1, lit_2, lit_3, lit_4, lit_5, lit_6, lit_7, lit_8, lit_9, lit_10, lit_11, lit_12, lit_17, lit_20, lit_30, lit_31, lit_32, lit_47, lit_48, lit_60, lit_99, lit_100, lit_144, lit_200, lit_240, lit_300, lit_576, lit_960, lit_1008, lit_1000000, lit_100000000, true_implies, not_true_eq_false, false_implies, not_false_eq_true, true_and, and_true, neg_1, nI_add, pk_mul, nI_clamp, le_nI, lt_nI, eq_nI, vp_nI, nI_NN, NN_nI, NN_lt, NN_le, lt_NN, le_NN]
      repeat' (first | refine Rn_and (by first | omega | assumption) ?_ | refine Rn_pos (by first | omega | assumption) ?_ | refine Rn_neg (by first | omega | assumption) ?_ | refine Rn_pos' (by first | omega | assumption) ?_ | refine Rn_neg' (by first | omega | assumption) ?_ | fail)
      refine Rn_ret ⟨_, rfl, ?_⟩
      have e : s' = sK (sK σ 56 (fun i j => if i = 0 ∧ j < 144 then nI (lN' l a b t (j / 12) (j % 12)) else σ.1 56 i j)) 37 (fun i j => if i = 0 ∧ j < 144 then nI (lN' l a b t (j / 12) (j % 12)) else σ.1 37 i j) := by
        subst hs'
        subst hs
        refine Mem_ext (fun k' i j => ?_) rfl
        simp only [sK_r]
        grind
      rw [e]
      exact hP _
    · refine Mem_ext (fun k' i j => ?_) rfl
      simp only [sK_r]
      grind
  · refine Mem_ext (fun k' i j => ?_) rfl
    simp only [sK_r]
    grind
theorem R_way {σx σm : Mem} {dx dm : Nat} {p0 p1 p2 : Int32} (R : Rel κ σx σm) : Rn (fun K => CalI IX (dx + 3) S_X7_way [ar 0 0, ai p0, ai p1, ai p2] σx K) (fun r sx => Rn (fun K => CalI IM (dm + 3) S_X8_way [ar 30 0, ai p0, ai p1, ai p2] σm K) (fun r' sm => Agree κ r r' sx sm)) := by
  have R0 := R
  obtain ⟨P, W, F, G, C, N, D, B, w, l, gSc, gRef, gHrs, gLck, gWay, gFar, gDist, gShl, gCell, gHome, gKeys, gLike, gDuty, gGone, gBent, gPlan, gCost, gSeat, gMeet, gTly, gKnow, gFlt, gRow, gPln⟩ := R
  have hSc0 := gSc
  obtain ⟨⟨xP, mP, hP⟩, ⟨xW, mW, hW⟩, ⟨xF, mF, hF⟩, ⟨xG, mG, hG⟩, ⟨xC, mC, hC⟩, ⟨xN, mN, hN⟩, ⟨xD, mD, hD⟩, ⟨xB, mB, hB⟩, hpl, hb0⟩ := hSc0
  rcases ix_cases p0 P (by omega) with ha | ha | ⟨a, ha, rfl⟩
  · refine Rn_map (fun K => x_X7_way) ?_
    try simp (disch := omega) only [lit_0, lit_1, lit_2, lit_3, lit_4, lit_5, lit_6, lit_7, lit_8, lit_9, lit_10, lit_11, lit_12, lit_17, lit_20, lit_30, lit_31, lit_32, lit_47, lit_48, lit_60, lit_99, lit_100, lit_144, lit_200, lit_240, lit_300, lit_576, lit_960, lit_1008, lit_1000000, lit_100000000, true_implies, not_true_eq_false, false_implies, not_false_eq_true, true_and, and_true, neg_1, nI_add, pk_mul, nI_clamp, vp_nI, tI_lt, tI_le, tI_eq, tI_nI, tI_NN, tI_pred, xP, xW, xF, xG, xC, xN, xD, xB, pk_sub, tI_sub, Nat.add_sub_cancel_left, Nat.add_sub_cancel, wI_same]
    repeat' (first | refine Rn_and (by first | omega | assumption) ?_ | refine Rn_pos (by first | omega | assumption) ?_ | refine Rn_neg (by first | omega | assumption) ?_ | refine Rn_pos' (by first | omega | assumption) ?_ | refine Rn_neg' (by first | omega | assumption) ?_ | refine Rn_if (fun _ => ?_) (fun _ => ?_) | refine Rn_if' (fun _ => ?_) (fun _ => ?_) | fail)
    all_goals (refine Rn_ret ?_; refine Rn_map (fun K => x_X8_way) ?_)
    all_goals try simp (disch := omega) only [lit_0, lit_1, lit_2, lit_3, lit_4, lit_5, lit_6, lit_7, lit_8, lit_9, lit_10, lit_11, lit_12, lit_17, lit_20, lit_30, lit_31, lit_32, lit_47, lit_48, lit_60, lit_99, lit_100, lit_144, lit_200, lit_240, lit_300, lit_576, lit_960, lit_1008, lit_1000000, lit_100000000, true_implies, not_true_eq_false, false_implies, not_false_eq_true, true_and, and_true, neg_1, nI_add, pk_mul, nI_clamp, vp_nI, tI_lt, tI_le, tI_eq, tI_nI, tI_NN, tI_pred, mP, mW, mF, mG, mC, mN, mD, mB, pk_sub, tI_sub, Nat.add_sub_cancel_left, Nat.add_sub_cancel, wI_same]
    all_goals repeat' (first | refine Rn_and (by first | omega | assumption) ?_ | refine Rn_pos (by first | omega | assumption) ?_ | refine Rn_neg (by first | omega | assumption) ?_ | refine Rn_pos' (by first | omega | assumption) ?_ | refine Rn_neg' (by first | omega | assumption) ?_ | refine Rn_if (fun _ => ?_) (fun _ => ?_) | refine Rn_if' (fun _ => ?_) (fun _ => ?_) | fail)
    all_goals first
      | exact Rn_ret (Agr rfl R0)
      | exact Rn_ret (Agr rfl (Rel_ref R0 1)) | exact Rn_ret (Agr rfl (Rel_ref R0 2)) | exact Rn_ret (Agr rfl (Rel_ref R0 3)) | exact Rn_ret (Agr rfl (Rel_ref R0 4)) | exact Rn_ret (Agr rfl (Rel_ref R0 5)) | exact Rn_ret (Agr rfl (Rel_ref R0 6)) | exact Rn_ret (Agr rfl (Rel_ref R0 7))
      | (exfalso; omega)
  · refine Rn_map (fun K => x_X7_way) ?_
    try simp (disch := omega) only [lit_0, lit_1, lit_2, lit_3, lit_4, lit_5, lit_6, lit_7, lit_8, lit_9, lit_10, lit_11, lit_12, lit_17, lit_20, lit_30, lit_31, lit_32, lit_47, lit_48, lit_60, lit_99, lit_100, lit_144, lit_200, lit_240, lit_300, lit_576, lit_960, lit_1008, lit_1000000, lit_100000000, true_implies, not_true_eq_false, false_implies, not_false_eq_true, true_and, and_true, neg_1, nI_add, pk_mul, nI_clamp, vp_nI, tI_lt, tI_le, tI_eq, tI_nI, tI_NN, tI_pred, xP, xW, xF, xG, xC, xN, xD, xB, pk_sub, tI_sub, Nat.add_sub_cancel_left, Nat.add_sub_cancel, wI_same]
    repeat' (first | refine Rn_and (by first | omega | assumption) ?_ | refine Rn_pos (by first | omega | assumption) ?_ | refine Rn_neg (by first | omega | assumption) ?_ | refine Rn_pos' (by first | omega | assumption) ?_ | refine Rn_neg' (by first | omega | assumption) ?_ | refine Rn_if (fun _ => ?_) (fun _ => ?_) | refine Rn_if' (fun _ => ?_) (fun _ => ?_) | fail)
    all_goals (refine Rn_ret ?_; refine Rn_map (fun K => x_X8_way) ?_)
    all_goals try simp (disch := omega) only [lit_0, lit_1, lit_2, lit_3, lit_4, lit_5, lit_6, lit_7, lit_8, lit_9, lit_10, lit_11, lit_12, lit_17, lit_20, lit_30, lit_31, lit_32, lit_47, lit_48, lit_60, lit_99, lit_100, lit_144, lit_200, lit_240, lit_300, lit_576, lit_960, lit_1008, lit_1000000, lit_100000000, true_implies, not_true_eq_false, false_implies, not_false_eq_true, true_and, and_true, neg_1, nI_add, pk_mul, nI_clamp, vp_nI, tI_lt, tI_le, tI_eq, tI_nI, tI_NN, tI_pred, mP, mW, mF, mG, mC, mN, mD, mB, pk_sub, tI_sub, Nat.add_sub_cancel_left, Nat.add_sub_cancel, wI_same]
    all_goals repeat' (first | refine Rn_and (by first | omega | assumption) ?_ | refine Rn_pos (by first | omega | assumption) ?_ | refine Rn_neg (by first | omega | assumption) ?_ | refine Rn_pos' (by first | omega | assumption) ?_ | refine Rn_neg' (by first | omega | assumption) ?_ | refine Rn_if (fun _ => ?_) (fun _ => ?_) | refine Rn_if' (fun _ => ?_) (fun _ => ?_) | fail)
    all_goals first
      | exact Rn_ret (Agr rfl R0)
      | exact Rn_ret (Agr rfl (Rel_ref R0 1)) | exact Rn_ret (Agr rfl (Rel_ref R0 2)) | exact Rn_ret (Agr rfl (Rel_ref R0 3)) | exact Rn_ret (Agr rfl (Rel_ref R0 4)) | exact Rn_ret (Agr rfl (Rel_ref R0 5)) | exact Rn_ret (Agr rfl (Rel_ref R0 6)) | exact Rn_ret (Agr rfl (Rel_ref R0 7))
      | (exfalso; omega)
  · rcases ix_cases p1 P (by omega) with hb | hb | ⟨b, hb, rfl⟩
    · refine Rn_map (fun K => x_X7_way) ?_
      try simp (disch := omega) only [lit_0, lit_1, lit_2, lit_3, lit_4, lit_5, lit_6, lit_7, lit_8, lit_9, lit_10, lit_11, lit_12, lit_17, lit_20, lit_30, lit_31, lit_32, lit_47, lit_48, lit_60, lit_99, lit_100, lit_144, lit_200, lit_240, lit_300, lit_576, lit_960, lit_1008, lit_1000000, lit_100000000, true_implies, not_true_eq_false, false_implies, not_false_eq_true, true_and, and_true, neg_1, nI_add, pk_mul, nI_clamp, vp_nI, tI_lt, tI_le, tI_eq, tI_nI, tI_NN, tI_pred, xP, xW, xF, xG, xC, xN, xD, xB, pk_sub, tI_sub, Nat.add_sub_cancel_left, Nat.add_sub_cancel, wI_same]
      repeat' (first | refine Rn_and (by first | omega | assumption) ?_ | refine Rn_pos (by first | omega | assumption) ?_ | refine Rn_neg (by first | omega | assumption) ?_ | refine Rn_pos' (by first | omega | assumption) ?_ | refine Rn_neg' (by first | omega | assumption) ?_ | refine Rn_if (fun _ => ?_) (fun _ => ?_) | refine Rn_if' (fun _ => ?_) (fun _ => ?_) | fail)
      all_goals (refine Rn_ret ?_; refine Rn_map (fun K => x_X8_way) ?_)
      all_goals try simp (disch := omega) only [lit_0, lit_1, lit_2, lit_3, lit_4, lit_5, lit_6, lit_7, lit_8, lit_9, lit_10, lit_11, lit_12, lit_17, lit_20, lit_30, lit_31, lit_32, lit_47, lit_48, lit_60, lit_99, lit_100, lit_144, lit_200, lit_240, lit_300, lit_576, lit_960, lit_1008, lit_1000000, lit_100000000, true_implies, not_true_eq_false, false_implies, not_false_eq_true, true_and, and_true, neg_1, nI_add, pk_mul, nI_clamp, vp_nI, tI_lt, tI_le, tI_eq, tI_nI, tI_NN, tI_pred, mP, mW, mF, mG, mC, mN, mD, mB, pk_sub, tI_sub, Nat.add_sub_cancel_left, Nat.add_sub_cancel, wI_same]
      all_goals repeat' (first | refine Rn_and (by first | omega | assumption) ?_ | refine Rn_pos (by first | omega | assumption) ?_ | refine Rn_neg (by first | omega | assumption) ?_ | refine Rn_pos' (by first | omega | assumption) ?_ | refine Rn_neg' (by first | omega | assumption) ?_ | refine Rn_if (fun _ => ?_) (fun _ => ?_) | refine Rn_if' (fun _ => ?_) (fun _ => ?_) | fail)
      all_goals first
        | exact Rn_ret (Agr rfl R0)
        | exact Rn_ret (Agr rfl (Rel_ref R0 1)) | exact Rn_ret (Agr rfl (Rel_ref R0 2)) | exact Rn_ret (Agr rfl (Rel_ref R0 3)) | exact Rn_ret (Agr rfl (Rel_ref R0 4)) | exact Rn_ret (Agr rfl (Rel_ref R0 5)) | exact Rn_ret (Agr rfl (Rel_ref R0 6)) | exact Rn_ret (Agr rfl (Rel_ref R0 7))
        | (exfalso; omega)
    · refine Rn_map (fun K => x_X7_way) ?_
      try simp (disch := omega) only [lit_0, lit_1, lit_2, lit_3, lit_4, lit_5, lit_6, lit_7, lit_8, lit_9, lit_10, lit_11, lit_12, lit_17, lit_20, lit_30, lit_31, lit_32, lit_47, lit_48, lit_60, lit_99, lit_100, lit_144, lit_200, lit_240, lit_300, lit_576, lit_960, lit_1008, lit_1000000, lit_100000000, true_implies, not_true_eq_false, false_implies, not_false_eq_true, true_and, and_true, neg_1, nI_add, pk_mul, nI_clamp, vp_nI, tI_lt, tI_le, tI_eq, tI_nI, tI_NN, tI_pred, xP, xW, xF, xG, xC, xN, xD, xB, pk_sub, tI_sub, Nat.add_sub_cancel_left, Nat.add_sub_cancel, wI_same]
      repeat' (first | refine Rn_and (by first | omega | assumption) ?_ | refine Rn_pos (by first | omega | assumption) ?_ | refine Rn_neg (by first | omega | assumption) ?_ | refine Rn_pos' (by first | omega | assumption) ?_ | refine Rn_neg' (by first | omega | assumption) ?_ | refine Rn_if (fun _ => ?_) (fun _ => ?_) | refine Rn_if' (fun _ => ?_) (fun _ => ?_) | fail)
      all_goals (refine Rn_ret ?_; refine Rn_map (fun K => x_X8_way) ?_)
      all_goals try simp (disch := omega) only [lit_0, lit_1, lit_2, lit_3, lit_4, lit_5, lit_6, lit_7, lit_8, lit_9, lit_10, lit_11, lit_12, lit_17, lit_20, lit_30, lit_31, lit_32, lit_47, lit_48, lit_60, lit_99, lit_100, lit_144, lit_200, lit_240, lit_300, lit_576, lit_960, lit_1008, lit_1000000, lit_100000000, true_implies, not_true_eq_false, false_implies, not_false_eq_true, true_and, and_true, neg_1, nI_add, pk_mul, nI_clamp, vp_nI, tI_lt, tI_le, tI_eq, tI_nI, tI_NN, tI_pred, mP, mW, mF, mG, mC, mN, mD, mB, pk_sub, tI_sub, Nat.add_sub_cancel_left, Nat.add_sub_cancel, wI_same]
      all_goals repeat' (first | refine Rn_and (by first | omega | assumption) ?_ | refine Rn_pos (by first | omega | assumption) ?_ | refine Rn_neg (by first | omega | assumption) ?_ | refine Rn_pos' (by first | omega | assumption) ?_ | refine Rn_neg' (by first | omega | assumption) ?_ | refine Rn_if (fun _ => ?_) (fun _ => ?_) | refine Rn_if' (fun _ => ?_) (fun _ => ?_) | fail)
      all_goals first
        | exact Rn_ret (Agr rfl R0)
        | exact Rn_ret (Agr rfl (Rel_ref R0 1)) | exact Rn_ret (Agr rfl (Rel_ref R0 2)) | exact Rn_ret (Agr rfl (Rel_ref R0 3)) | exact Rn_ret (Agr rfl (Rel_ref R0 4)) | exact Rn_ret (Agr rfl (Rel_ref R0 5)) | exact Rn_ret (Agr rfl (Rel_ref R0 6)) | exact Rn_ret (Agr rfl (Rel_ref R0 7))
        | (exfalso; omega)
    · have hq2 := tI_bds p2
      by_cases hs : a ≠ b ∧ 1 ≤ p2.toInt ∧ p2.toInt ≤ 9 ∧ B = 0 ∧ W < 30
      · obtain ⟨t, ht, rfl⟩ := of_tI (x := p2) (n := 10) (by omega) (by omega)
        rw [nI_toInt (by omega)] at hs
        have hsym : ∀ u v, u < 12 → v < 12 → w u v = w v u := fun u v hu hv => (gWay u v hu hv).2.2.2
        have hw1 : ∀ u v, u < 12 → v < 12 → 1 ≤ w u v := by
          intro u v hu hv
          rcases (gWay u v hu hv).2.2.1 with h | h <;> omega
        have gD2 : GDist (wN' w a b t) (lN' l a b t) := lN_dist gDist hsym (by omega) (by omega) (by omega) (by omega)
        obtain ⟨m1, x1, w1, sy1⟩ := gWay a b (by omega) (by omega)
        have x1' : σx.1 5 0 (a * 12 + b) = if w a b = 1000000 then nI 0 else nI (w a b) := by rw [Nat.mul_comm]; exact x1
        have hmin : min t (w a b) = if w a b ≤ t then w a b else t := by split <;> omega
        have gPln2 : GPln (σm.1 43 0) (σm.1 46 0) P F N B (wN' w a b t) := by
          have allN : ∀ f s, f < 20 → s < 48 → σm.1 46 0 (48 * f + s) = NN := fun f s hf hs' => (gPln.1 f s hf hs').2 (Or.inl (by omega))
          exact ⟨fun f s hf hs' => ⟨Or.inl (allN f s hf hs'), fun _ => allN f s hf hs'⟩, fun f hf hB1 => by omega⟩
        have hfar2 : ∀ u v, u < 12 → v < 12 → (lN' l a b t u v ≤ 108 ∨ lN' l a b t u v = 1000000) ∧ (P ≤ u ∨ P ≤ v → lN' l a b t u v = if u = v then 0 else 1000000) := by
          intro u v hu hv
          have hw2 : ∀ u v, u < 12 → v < 12 → 1 ≤ wN' w a b t u v := by
            intro u v hu hv
            have i1 := hw1 u v hu hv
            have i2 := hw1 a b (by omega) (by omega)
            unfold wN'
            split <;> omega
          have hle : lN' l a b t u v ≤ l u v := by unfold lN'; omega
          have hlu := (gFar.1 u v hu hv).2.1
          refine ⟨?_, fun hp => ?_⟩
          · by_cases h : lN' l a b t u v < 1000000
            · exact Or.inl (dist_108 hw2 gD2 hu hv h)
            · exact Or.inr (by omega)
          · have q1 := (gFar.1 u v hu hv).2.2 hp
            have q2 := (gFar.1 u a hu (by omega)).2.2
            have q3 := (gFar.1 u b hu (by omega)).2.2
            have q4 := (gFar.1 a v (by omega) hv).2.2
            have q5 := (gFar.1 b v (by omega) hv).2.2
            rw [← q1]
            unfold lN'
            by_cases hu2 : P ≤ u
            · have j1 := q2 (Or.inl hu2)
              have j2 := q3 (Or.inl hu2)
              rw [if_neg (by omega)] at j1 j2
              omega
            · have j1 := q4 (Or.inr (by omega))
              have j2 := q5 (Or.inr (by omega))
              rw [if_neg (by omega)] at j1 j2
              omega
        have key : ∀ sx : Mem, GSc κ (sx.1 0 0) (sx.1 1 0) (fun j => if j = 10 then nI (W + 1) else σm.1 30 0 j) P (W + 1) F G C N D B → (∀ u v, u < 12 → v < 12 → sx.1 5 0 (12 * u + v) = if wN' w a b t u v = 1000000 then nI 0 else nI (wN' w a b t u v)) → (∀ u v, u < P → v < P → sx.1 6 0 (12 * u + v) = enc (lN' l a b t u v)) → (∀ k, k ≠ 0 → k ≠ 1 → k ≠ 5 → k ≠ 6 → sx.1 k = σx.1 k) → sx.1 0 = σx.1 0 → sx.2 = σx.2 → Rn (fun K => CalI IM (dm + 3) S_X8_way [ar 30 0, ai (nI a), ai (nI b), ai (nI t)] σm K) (fun r' sm => Agree κ (nI 1) r' sx sm) := by
          intro sx k1 k2 k3 k4 k40 k5
          have fin : ∀ (s : Mem) f56, s = wI (wI (wI σm 30 0 10 (nI (W + 1))) 36 0 (12 * a + b) (nI (min t (w a b)))) 36 0 (12 * b + a) (nI (min t (w a b))) → Agree κ (nI 1) (nI 1) sx (sK (sK s 56 f56) 37 (fun i j => if i = 0 ∧ j < 144 then nI (lN' l a b t (j / 12) (j % 12)) else s.1 37 i j)) := by
            intro s f56 hs'
            refine Agr rfl ?_
            subst hs'
            have kk : ∀ k, k ≠ 0 → k ≠ 1 → k ≠ 5 → k ≠ 6 → ∀ i, sx.1 k i = σx.1 k i := fun k h1 h2 h3 h4 i => by rw [k4 k h1 h2 h3 h4]
            refine ⟨P, (W + 1), F, G, C, N, D, B, (wN' w a b t), (lN' l a b t), ?_, (by rw [kk 28 (by omega) (by omega) (by omega) (by omega)]; exact gRef), (by rw [kk 2 (by omega) (by omega) (by omega) (by omega), kk 3 (by omega) (by omega) (by omega) (by omega), kk 4 (by omega) (by omega) (by omega) (by omega)]; exact gHrs), (by rw [k40]; exact gLck), ?_, ?_, gD2, (by rw [k4 7 (by omega) (by omega) (by omega) (by omega)]; exact gShl), (by rw [k5]; exact gCell), (by rw [k4 9 (by omega) (by omega) (by omega) (by omega)]; exact gHome), (by rw [k4 9 (by omega) (by omega) (by omega) (by omega)]; exact gKeys), (by rw [k4 10 (by omega) (by omega) (by omega) (by omega)]; exact gLike), (by rw [k4 9 (by omega) (by omega) (by omega) (by omega), k4 11 (by omega) (by omega) (by omega) (by omega)]; exact gDuty), (by rw [k4 9 (by omega) (by omega) (by omega) (by omega)]; exact gGone), (by rw [k4 9 (by omega) (by omega) (by omega) (by omega)]; exact gBent), (by rw [k4 12 (by omega) (by omega) (by omega) (by omega)]; exact gPlan), (by rw [k4 9 (by omega) (by omega) (by omega) (by omega)]; exact gCost), (by rw [kk 16 (by omega) (by omega) (by omega) (by omega)]; exact gSeat), (by rw [k4 14 (by omega) (by omega) (by omega) (by omega)]; exact gMeet), (by rw [k4 14 (by omega) (by omega) (by omega) (by omega)]; exact gTly), (by rw [k4 9 (by omega) (by omega) (by omega) (by omega), k4 13 (by omega) (by omega) (by omega) (by omega)]; exact gKnow), (by rw [kk 23 (by omega) (by omega) (by omega) (by omega)]; exact gFlt), (by rw [kk 21 (by omega) (by omega) (by omega) (by omega)]; exact gRow), gPln2⟩
            · exact k1
            · intro u v hu hv
              obtain ⟨i1, i2, i3, i4⟩ := gWay u v hu hv
              refine ⟨?_, k2 u v hu hv, ?_, ?_⟩
              · show (wI (wI (wI σm 30 0 10 (nI (W + 1))) 36 0 (12 * a + b) (nI (min t (w a b)))) 36 0 (12 * b + a) (nI (min t (w a b)))).1 36 0 (12 * u + v) = _
                rw [wI_r, wI_r, wI_r]
                unfold wN'
                by_cases c1 : u = b ∧ v = a
                · rw [if_pos (by omega), if_pos (Or.inr c1)]
                · by_cases c2 : u = a ∧ v = b
                  · rw [if_neg (by omega), if_pos (by omega), if_pos (Or.inl c2)]
                  · rw [if_neg (by omega), if_neg (by omega), if_neg (by omega), if_neg (by omega)]
                    exact i1
              · have i2 := hw1 a b (by omega) (by omega)
                unfold wN'
                split
                · exact Or.inr ⟨by omega, by omega, by omega, by omega, by omega⟩
                · exact i3
              · unfold wN'
                split
                · rw [if_pos (by omega)]
                · rw [if_neg (by omega)]; exact i4
            · refine ⟨fun u v hu hv => ?_, fun u v hu hv => k3 u v hu hv⟩
              refine ⟨?_, hfar2 u v hu hv⟩
              rw [sK_r, if_pos rfl, if_pos ⟨rfl, by omega⟩, show (12 * u + v) / 12 = u by omega, show (12 * u + v) % 12 = v by omega]
          refine Rn_map (fun K => x_X8_way) ?_
          have hl37 : ∀ (s : Mem), (∀ j, s.1 37 0 j = σm.1 37 0 j) → ∀ p q, p < 12 → q < 12 → s.1 37 0 (12 * p + q) = nI (l p q) ∧ l p q ≤ 1000000 := by
            intro s h p q hp hq
            rw [h]
            have := gFar.1 p q hp hq
            exact ⟨this.1, by omega⟩
          simp (disch := omega) only [lit_0, lit_1, lit_2, lit_3, lit_4, lit_5, lit_6, lit_7, lit_8, lit_9, lit_10, lit_11, lit_12, lit_17, lit_20, lit_30, lit_31, lit_32, lit_47, lit_48, lit_60, lit_99, lit_100, lit_144, lit_200, lit_240, lit_300, lit_576, lit_960, lit_1008, lit_1000000, lit_100000000, true_implies, not_true_eq_false, false_implies, not_false_eq_true, true_and, and_true, neg_1, nI_add, pk_mul, nI_clamp, le_nI, lt_nI, eq_nI, vp_nI, nI_NN, NN_nI, NN_lt, NN_le, lt_NN, le_NN, mP, mW, mF, mG, mC, mN, mD, mB, m1, tI_pred, pk_sub, wI_same]
          have eP : nI P - nI 1 = nI (P - 1) := pk_sub (by omega)
          by_cases hle : w a b ≤ t
          · have em : min t (w a b) = w a b := by omega
            rw [em] at fin
            repeat' (first | refine Rn_and (by first | omega | assumption) ?_ | refine Rn_pos (by first | omega | assumption) ?_ | refine Rn_neg (by first | omega | assumption) ?_ | refine Rn_pos' (by first | omega | assumption) ?_ | refine Rn_neg' (by first | omega | assumption) ?_ | fail)
            exact f_X8_way_143 (by omega) (by omega) (by omega) (hl37 _ (fun j => rfl)) (fun f56 => fin _ f56 rfl)
          · have em : min t (w a b) = t := by omega
            rw [em] at fin
            repeat' (first | refine Rn_and (by first | omega | assumption) ?_ | refine Rn_pos (by first | omega | assumption) ?_ | refine Rn_neg (by first | omega | assumption) ?_ | refine Rn_pos' (by first | omega | assumption) ?_ | refine Rn_neg' (by first | omega | assumption) ?_ | fail)
            exact f_X8_way_143 (by omega) (by omega) (by omega) (hl37 _ (fun j => rfl)) (fun f56 => fin _ f56 rfl)
        have hS : ∀ sx : Mem, sx.1 0 = σx.1 0 → sx.1 1 0 5 = nI P → sx.1 1 0 6 = nI (W + 1) → GSc κ (sx.1 0 0) (sx.1 1 0) (fun j => if j = 10 then nI (W + 1) else σm.1 30 0 j) P (W + 1) F G C N D B := by
          intro sx h0 h5 h6
          rw [h0]
          exact ⟨⟨h5, mP, hP⟩, ⟨h6, rfl, by omega⟩, ⟨xF, mF, hF⟩, ⟨xG, mG, hG⟩, ⟨xC, mC, hC⟩, ⟨xN, mN, hN⟩, ⟨xD, mD, hD⟩, ⟨xB, mB, hB⟩, hpl, hb0⟩
        refine Rn_map (fun K => x_X7_way) ?_
        simp (disch := omega) only [lit_0, lit_1, lit_2, lit_3, lit_4, lit_5, lit_6, lit_7, lit_8, lit_9, lit_10, lit_11, lit_12, lit_17, lit_20, lit_30, lit_31, lit_32, lit_47, lit_48, lit_60, lit_99, lit_100, lit_144, lit_200, lit_240, lit_300, lit_576, lit_960, lit_1008, lit_1000000, lit_100000000, true_implies, not_true_eq_false, false_implies, not_false_eq_true, true_and, and_true, neg_1, nI_add, pk_mul, nI_clamp, vp_nI, tI_lt, tI_le, tI_eq, tI_nI, tI_NN, tI_pred, xP, xW, xF, xG, xC, xN, xD, xB]
        repeat' (first | refine Rn_and (by first | omega | assumption) ?_ | refine Rn_pos (by first | omega | assumption) ?_ | refine Rn_neg (by first | omega | assumption) ?_ | refine Rn_pos' (by first | omega | assumption) ?_ | refine Rn_neg' (by first | omega | assumption) ?_ | fail)
        refine Rn_cV ?_
        refine Rv_map (fun K => x_X6_addWay) ?_
        have taken : (w a b = 1000000 ∨ t < w a b) → Rv (fun K => J IX M_X6_addWay (dx + 2) 62 [(0, ar 1 0), (1, ai (nI a)), (2, ai (nI b)), (3, ai (nI t)), (5, ai (nI 0))] [] (wI (wI (wI σx 1 0 6 (nI (W + 1))) 5 0 (a * 12 + b) (nI t)) 5 0 (b * 12 + a) (nI t)) (KV K)) (fun s => Rn (fun K => K (nI 1) s) (fun r sx => Rn (fun K => CalI IM (dm + 3) S_X8_way [ar 30 0, ai (nI a), ai (nI b), ai (nI t)] σm K) (fun r' sm => Agree κ r r' sx sm))) := by
          intro htk
          refine f_X6_addWay_62 hP ha hb (by omega) gDist (fun p q hp hq => (gFar.1 p q hp hq).2.1) xP ?_ ?_
          · refine Mem_ext (fun k i j => ?_) rfl
            unfold wM
            rw [sK_r]
            by_cases hk : k = 6
            · subst hk
              rw [if_pos rfl]
              by_cases hc : i = 0 ∧ j < 144 ∧ j / 12 < P ∧ j % 12 < P
              · rw [if_pos hc, hc.1]
                have := gFar.2 (j / 12) (j % 12) hc.2.2.1 hc.2.2.2
                rw [show 12 * (j / 12) + j % 12 = j by omega] at this
                exact this.symm
              · rw [if_neg hc]
            · rw [if_neg hk]
          · refine Rn_ret ?_
            refine key _ (hS _ rfl xP ?_) (fun u v hu hv => ?_) (fun u v hu hv => ?_) (fun k h0 h1 h5 h6 => ?_) rfl rfl
            · rfl
            · show (wI (wI (wI σx 1 0 6 (nI (W + 1))) 5 0 (a * 12 + b) (nI t)) 5 0 (b * 12 + a) (nI t)).1 5 0 (12 * u + v) = _
              rw [wI_r, wI_r, wI_r]
              have i2 := hw1 a b (by omega) (by omega)
              have hmt : min t (w a b) = t := by omega
              by_cases c1 : u = b ∧ v = a
              · have e : wN' w a b t u v = t := (if_pos (Or.inr c1)).trans hmt
                rw [e, if_pos (by omega), if_neg (by omega)]
              · by_cases c2 : u = a ∧ v = b
                · have e : wN' w a b t u v = t := (if_pos (Or.inl c2)).trans hmt
                  rw [e, if_neg (by omega), if_pos (by omega), if_neg (by omega)]
                · have e : wN' w a b t u v = w u v := if_neg (by omega)
                  rw [e, if_neg (by omega), if_neg (by omega), if_neg (by omega)]
                  exact (gWay u v hu hv).2.1
            · have := wM_r (σ := wI (wI (wI σx 1 0 6 (nI (W + 1))) 5 0 (a * 12 + b) (nI t)) 5 0 (b * 12 + a) (nI t)) (L := lN' l a b t) hP hu hv
              rw [Nat.mul_comm u 12] at this
              exact this
            · funext i j
              rw [wM_o h6, wI_r, wI_r, wI_r, if_neg (by omega), if_neg (by omega), if_neg (by omega)]
        by_cases hF1 : w a b = 1000000
        · rw [if_pos hF1] at x1'
          simp (disch := omega) only [lit_0, lit_1, lit_2, lit_3, lit_4, lit_5, lit_6, lit_7, lit_8, lit_9, lit_10, lit_11, lit_12, lit_17, lit_20, lit_30, lit_31, lit_32, lit_47, lit_48, lit_60, lit_99, lit_100, lit_144, lit_200, lit_240, lit_300, lit_576, lit_960, lit_1008, lit_1000000, lit_100000000, true_implies, not_true_eq_false, false_implies, not_false_eq_true, true_and, and_true, neg_1, nI_add, pk_mul, nI_clamp, le_nI, lt_nI, eq_nI, vp_nI, nI_NN, NN_nI, NN_lt, NN_le, lt_NN, le_NN, x1', xW]
          repeat' (first | refine Rv_and (by first | omega | assumption) ?_ | refine Rv_pos (by first | omega | assumption) ?_ | refine Rv_neg (by first | omega | assumption) ?_ | refine Rv_pos' (by first | omega | assumption) ?_ | refine Rv_neg' (by first | omega | assumption) ?_ | fail)
          exact taken (Or.inl hF1)
        · rw [if_neg hF1] at x1'
          have w9 : w a b ≤ 9 := by rcases w1 with h | h <;> omega
          have w0 : 1 ≤ w a b := hw1 a b (by omega) (by omega)
          by_cases hlt : t < w a b
          · simp (disch := omega) only [lit_0, lit_1, lit_2, lit_3, lit_4, lit_5, lit_6, lit_7, lit_8, lit_9, lit_10, lit_11, lit_12, lit_17, lit_20, lit_30, lit_31, lit_32, lit_47, lit_48, lit_60, lit_99, lit_100, lit_144, lit_200, lit_240, lit_300, lit_576, lit_960, lit_1008, lit_1000000, lit_100000000, true_implies, not_true_eq_false, false_implies, not_false_eq_true, true_and, and_true, neg_1, nI_add, pk_mul, nI_clamp, le_nI, lt_nI, eq_nI, vp_nI, nI_NN, NN_nI, NN_lt, NN_le, lt_NN, le_NN, x1', xW]
            repeat' (first | refine Rv_and (by first | omega | assumption) ?_ | refine Rv_pos (by first | omega | assumption) ?_ | refine Rv_neg (by first | omega | assumption) ?_ | refine Rv_pos' (by first | omega | assumption) ?_ | refine Rv_neg' (by first | omega | assumption) ?_ | fail)
            exact taken (Or.inr hlt)
          · simp (disch := omega) only [lit_0, lit_1, lit_2, lit_3, lit_4, lit_5, lit_6, lit_7, lit_8, lit_9, lit_10, lit_11, lit_12, lit_17, lit_20, lit_30, lit_31, lit_32, lit_47, lit_48, lit_60, lit_99, lit_100, lit_144, lit_200, lit_240, lit_300, lit_576, lit_960, lit_1008, lit_1000000, lit_100000000, true_implies, not_true_eq_false, false_implies, not_false_eq_true, true_and, and_true, neg_1, nI_add, pk_mul, nI_clamp, le_nI, lt_nI, eq_nI, vp_nI, nI_NN, NN_nI, NN_lt, NN_le, lt_NN, le_NN, x1', xW]
            repeat' (first | refine Rv_and (by first | omega | assumption) ?_ | refine Rv_pos (by first | omega | assumption) ?_ | refine Rv_neg (by first | omega | assumption) ?_ | refine Rv_pos' (by first | omega | assumption) ?_ | refine Rv_neg' (by first | omega | assumption) ?_ | fail)
            refine Rv_ret (Rn_ret ?_)
            have same : ∀ u v, u < 12 → v < 12 → lN' l a b t u v = l u v := fun u v hu hv => lN_same gDist (hsym a b (by omega) (by omega)) (by omega) (by omega) (by omega) hu hv
            refine key _ (hS _ rfl xP rfl) (fun u v hu hv => ?_) (fun u v hu hv => ?_) (fun k h0 h1 h5 h6 => ?_) rfl rfl
            · have e : wN' w a b t u v = w u v := by
                unfold wN'
                split
                · rename_i hh
                  rcases hh with ⟨e1, e2⟩ | ⟨e1, e2⟩
                  · subst e1; subst e2; omega
                  · subst e1; subst e2
                    have := hsym u v hu hv
                    omega
                · rfl
              rw [e]
              exact (gWay u v hu hv).2.1
            · rw [same u v (by omega) (by omega)]
              exact gFar.2 u v hu hv
            · funext i j
              rw [wI_r, if_neg (by omega)]
      · have hq3 : a = b ∨ p2.toInt < 1 ∨ 9 < p2.toInt ∨ B ≠ 0 ∨ W = 30 := by omega
        by_cases hab : a = b
        · refine Rn_map (fun K => x_X7_way) ?_
          try simp (disch := omega) only [lit_0, lit_1, lit_2, lit_3, lit_4, lit_5, lit_6, lit_7, lit_8, lit_9, lit_10, lit_11, lit_12, lit_17, lit_20, lit_30, lit_31, lit_32, lit_47, lit_48, lit_60, lit_99, lit_100, lit_144, lit_200, lit_240, lit_300, lit_576, lit_960, lit_1008, lit_1000000, lit_100000000, true_implies, not_true_eq_false, false_implies, not_false_eq_true, true_and, and_true, neg_1, nI_add, pk_mul, nI_clamp, vp_nI, tI_lt, tI_le, tI_eq, tI_nI, tI_NN, tI_pred, xP, xW, xF, xG, xC, xN, xD, xB, pk_sub, tI_sub, Nat.add_sub_cancel_left, Nat.add_sub_cancel, wI_same]
          repeat' (first | refine Rn_and (by first | omega | assumption) ?_ | refine Rn_pos (by first | omega | assumption) ?_ | refine Rn_neg (by first | omega | assumption) ?_ | refine Rn_pos' (by first | omega | assumption) ?_ | refine Rn_neg' (by first | omega | assumption) ?_ | refine Rn_if (fun _ => ?_) (fun _ => ?_) | refine Rn_if' (fun _ => ?_) (fun _ => ?_) | fail)
          all_goals (refine Rn_ret ?_; refine Rn_map (fun K => x_X8_way) ?_)
          all_goals try simp (disch := omega) only [lit_0, lit_1, lit_2, lit_3, lit_4, lit_5, lit_6, lit_7, lit_8, lit_9, lit_10, lit_11, lit_12, lit_17, lit_20, lit_30, lit_31, lit_32, lit_47, lit_48, lit_60, lit_99, lit_100, lit_144, lit_200, lit_240, lit_300, lit_576, lit_960, lit_1008, lit_1000000, lit_100000000, true_implies, not_true_eq_false, false_implies, not_false_eq_true, true_and, and_true, neg_1, nI_add, pk_mul, nI_clamp, vp_nI, tI_lt, tI_le, tI_eq, tI_nI, tI_NN, tI_pred, mP, mW, mF, mG, mC, mN, mD, mB, pk_sub, tI_sub, Nat.add_sub_cancel_left, Nat.add_sub_cancel, wI_same]
          all_goals repeat' (first | refine Rn_and (by first | omega | assumption) ?_ | refine Rn_pos (by first | omega | assumption) ?_ | refine Rn_neg (by first | omega | assumption) ?_ | refine Rn_pos' (by first | omega | assumption) ?_ | refine Rn_neg' (by first | omega | assumption) ?_ | refine Rn_if (fun _ => ?_) (fun _ => ?_) | refine Rn_if' (fun _ => ?_) (fun _ => ?_) | fail)
          all_goals first
            | exact Rn_ret (Agr rfl R0)
            | exact Rn_ret (Agr rfl (Rel_ref R0 1)) | exact Rn_ret (Agr rfl (Rel_ref R0 2)) | exact Rn_ret (Agr rfl (Rel_ref R0 3)) | exact Rn_ret (Agr rfl (Rel_ref R0 4)) | exact Rn_ret (Agr rfl (Rel_ref R0 5)) | exact Rn_ret (Agr rfl (Rel_ref R0 6)) | exact Rn_ret (Agr rfl (Rel_ref R0 7))
            | (exfalso; omega)
        · rcases (by omega : p2.toInt < 1 ∨ 9 < p2.toInt ∨ (1 ≤ p2.toInt ∧ p2.toInt ≤ 9 ∧ B ≠ 0) ∨ (1 ≤ p2.toInt ∧ p2.toInt ≤ 9 ∧ B = 0 ∧ W = 30)) with h | h | h | h
          all_goals (
            refine Rn_map (fun K => x_X7_way) ?_
            try simp (disch := omega) only [lit_0, lit_1, lit_2, lit_3, lit_4, lit_5, lit_6, lit_7, lit_8, lit_9, lit_10, lit_11, lit_12, lit_17, lit_20, lit_30, lit_31, lit_32, lit_47, lit_48, lit_60, lit_99, lit_100, lit_144, lit_200, lit_240, lit_300, lit_576, lit_960, lit_1008, lit_1000000, lit_100000000, true_implies, not_true_eq_false, false_implies, not_false_eq_true, true_and, and_true, neg_1, nI_add, pk_mul, nI_clamp, vp_nI, tI_lt, tI_le, tI_eq, tI_nI, tI_NN, tI_pred, xP, xW, xF, xG, xC, xN, xD, xB, pk_sub, tI_sub, Nat.add_sub_cancel_left, Nat.add_sub_cancel, wI_same]
            repeat' (first | refine Rn_and (by first | omega | assumption) ?_ | refine Rn_pos (by first | omega | assumption) ?_ | refine Rn_neg (by first | omega | assumption) ?_ | refine Rn_pos' (by first | omega | assumption) ?_ | refine Rn_neg' (by first | omega | assumption) ?_ | refine Rn_if (fun _ => ?_) (fun _ => ?_) | refine Rn_if' (fun _ => ?_) (fun _ => ?_) | fail)
            all_goals (refine Rn_ret ?_; refine Rn_map (fun K => x_X8_way) ?_)
            all_goals try simp (disch := omega) only [lit_0, lit_1, lit_2, lit_3, lit_4, lit_5, lit_6, lit_7, lit_8, lit_9, lit_10, lit_11, lit_12, lit_17, lit_20, lit_30, lit_31, lit_32, lit_47, lit_48, lit_60, lit_99, lit_100, lit_144, lit_200, lit_240, lit_300, lit_576, lit_960, lit_1008, lit_1000000, lit_100000000, true_implies, not_true_eq_false, false_implies, not_false_eq_true, true_and, and_true, neg_1, nI_add, pk_mul, nI_clamp, vp_nI, tI_lt, tI_le, tI_eq, tI_nI, tI_NN, tI_pred, mP, mW, mF, mG, mC, mN, mD, mB, pk_sub, tI_sub, Nat.add_sub_cancel_left, Nat.add_sub_cancel, wI_same]
            all_goals repeat' (first | refine Rn_and (by first | omega | assumption) ?_ | refine Rn_pos (by first | omega | assumption) ?_ | refine Rn_neg (by first | omega | assumption) ?_ | refine Rn_pos' (by first | omega | assumption) ?_ | refine Rn_neg' (by first | omega | assumption) ?_ | refine Rn_if (fun _ => ?_) (fun _ => ?_) | refine Rn_if' (fun _ => ?_) (fun _ => ?_) | fail)
            all_goals first
              | exact Rn_ret (Agr rfl R0)
              | exact Rn_ret (Agr rfl (Rel_ref R0 1)) | exact Rn_ret (Agr rfl (Rel_ref R0 2)) | exact Rn_ret (Agr rfl (Rel_ref R0 3)) | exact Rn_ret (Agr rfl (Rel_ref R0 4)) | exact Rn_ret (Agr rfl (Rel_ref R0 5)) | exact Rn_ret (Agr rfl (Rel_ref R0 6)) | exact Rn_ret (Agr rfl (Rel_ref R0 7))
              | (exfalso; omega))

