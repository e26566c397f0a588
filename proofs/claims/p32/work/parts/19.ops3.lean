variable {κ : Nat → Nat → Nat → Prop}
theorem tI_m7 : (-(nI 7)).toInt = -7 := by decide
theorem cntF_pop {L : Int32} {g : Nat → Int32} {A : Nat} (h : ∀ p, p < A → (g p = nI 0 ∨ g p = nI 1) ∧ (bt L p = true ↔ g p = nI 1)) : cntF (nI 0) (nI 1) g A = nI (popF L A) := by
  induction A with
  | zero => rfl
  | succ n ih =>
    rw [cntF, popF, ih (fun p hp => h p (by omega))]
    obtain ⟨h1, h2⟩ := h n (by omega)
    have hne : nI 0 ≠ nI 1 := by decide
    by_cases hb : bt L n = true
    · have e := h2.1 hb
      rw [if_neg (by rw [e]; exact hne.symm), if_pos hb, nI_add]
    · rcases h1 with e | e
      · rw [if_pos e, if_neg hb, nI_add]
      · exact absurd (h2.2 e) hb
theorem popF_ext {L : Int32} {A : Nat} (h : ∀ p, A ≤ p → bt L p = false) : ∀ k, popF L (A + k) = popF L A
  | 0 => rfl
  | k + 1 => by
    show popF L (A + k) + (if bt L (A + k) = true then 1 else 0) = _
    rw [popF_ext h k, h (A + k) (by omega)]
    rfl
theorem R_status {σx σm : Mem} {dx dm : Nat} {p0 : Int32} (R : Rel κ σx σm) : Rn (fun K => CalI IX (dx + 2) S_X7_status [ar 0 0, ai p0] σx K) (fun r sx => Rn (fun K => CalI IM (dm + 2) S_X8_status [ar 30 0, ai p0] σm K) (fun r' sm => Agree κ r r' sx sm)) := by
  have R0 := R
  obtain ⟨P, W, F, G, C, N, D, B, w, l, gSc, gRef, gHrs, gLck, gWay, gFar, gDist, gShl, gCell, gHome, gKeys, gLike, gDuty, gGone, gBent, gPlan, gCost, gSeat, gMeet, gTly, gKnow, gFlt, gRow, gPln⟩ := R
  have hSc0 := gSc
  obtain ⟨⟨xP, mP, hP⟩, ⟨xW, mW, hW⟩, ⟨xF, mF, hF⟩, ⟨xG, mG, hG⟩, ⟨xC, mC, hC⟩, ⟨xN, mN, hN⟩, ⟨xD, mD, hD⟩, ⟨xB, mB, hB⟩, hpl, hb0⟩ := hSc0
  have hq := tI_bds p0
  refine Rn_map (fun K => x_X7_status) ?_
  rcases (by omega : (p0.toInt < 0 ∨ 17 < p0.toInt) ∨ (11 ≤ p0.toInt ∧ p0.toInt ≤ 17) ∨ p0.toInt = 0 ∨ p0.toInt = 1 ∨ p0.toInt = 2 ∨ p0.toInt = 3 ∨ p0.toInt = 4 ∨ p0.toInt = 5 ∨ p0.toInt = 6 ∨ p0.toInt = 7 ∨ p0.toInt = 8 ∨ p0.toInt = 9 ∨ p0.toInt = 10) with h | h | h | h | h | h | h | h | h | h | h | h | h
  · have e : (nI 10 - p0).toInt = (10 - p0.toInt).bmod (2 ^ 32) := by rw [Int32.toInt_sub, nI_toInt (by omega)]; rfl
    have key : -1 < (nI 10 - p0).toInt ∨ (nI 10 - p0).toInt < -7 := by
      rw [e]
      rw [Int.bmod_def]
      split <;> omega
    simp (disch := omega) only [lit_0, lit_1, lit_2, lit_3, lit_4, lit_5, lit_6, lit_7, lit_8, lit_9, lit_10, lit_11, lit_12, lit_17, lit_20, lit_30, lit_31, lit_32, lit_47, lit_48, lit_60, lit_99, lit_100, lit_144, lit_200, lit_240, lit_300, lit_576, lit_960, lit_1008, lit_1000000, lit_100000000, true_implies, not_true_eq_false, false_implies, not_false_eq_true, true_and, and_true, neg_1, nI_add, pk_mul, nI_clamp, vp_nI, tI_lt, tI_le, tI_eq, tI_nI, tI_NN, tI_pred, xP, xW, xF, xG, xC, xN, xD, xB, tI_m7]
    refine Rn_last (by intro K; repeat' (first | exact True.intro | exact (fun h => absurd h (by omega)) | refine ⟨fun h => absurd h (by omega), ?_⟩)) ?_
    by_cases hk : -1 < (nI 10 - p0).toInt
    all_goals (
      repeat' (first | refine Rn_and (by first | omega | assumption) ?_ | refine Rn_pos (by first | omega | assumption) ?_ | refine Rn_neg (by first | omega | assumption) ?_ | refine Rn_pos' (by first | omega | assumption) ?_ | refine Rn_neg' (by first | omega | assumption) ?_ | fail)
      refine Rn_ret ?_
      refine Rn_map (fun K => x_X8_status) ?_
      simp (disch := omega) only [lit_0, lit_1, lit_2, lit_3, lit_4, lit_5, lit_6, lit_7, lit_8, lit_9, lit_10, lit_11, lit_12, lit_17, lit_20, lit_30, lit_31, lit_32, lit_47, lit_48, lit_60, lit_99, lit_100, lit_144, lit_200, lit_240, lit_300, lit_576, lit_960, lit_1008, lit_1000000, lit_100000000, true_implies, not_true_eq_false, false_implies, not_false_eq_true, true_and, and_true, neg_1, nI_add, pk_mul, nI_clamp, vp_nI, tI_lt, tI_le, tI_eq, tI_nI, tI_NN, tI_pred, mP, mW, mF, mG, mC, mN, mD, mB]
      refine Rn_last (by intro K; repeat' (first | exact True.intro | exact (fun h => absurd h (by omega)) | refine ⟨fun h => absurd h (by omega), ?_⟩)) ?_
      rcases h with h | h
      all_goals repeat' (first | refine Rn_and (by first | omega | assumption) ?_ | refine Rn_pos (by first | omega | assumption) ?_ | refine Rn_neg (by first | omega | assumption) ?_ | refine Rn_pos' (by first | omega | assumption) ?_ | refine Rn_neg' (by first | omega | assumption) ?_ | fail)
      all_goals exact Rn_ret (Agr rfl R0))
  · obtain ⟨j, hj, rfl⟩ := of_tI (x := p0) (n := 18) (by omega) (by omega)
    rw [nI_toInt (by omega)] at h
    have e : -(nI 10 - nI j) = nI (j - 10) := by
      rcases (by omega : j = 11 ∨ j = 12 ∨ j = 13 ∨ j = 14 ∨ j = 15 ∨ j = 16 ∨ j = 17) with rfl | rfl | rfl | rfl | rfl | rfl | rfl <;> rfl
    simp (disch := omega) only [lit_0, lit_1, lit_2, lit_3, lit_4, lit_5, lit_6, lit_7, lit_8, lit_9, lit_10, lit_11, lit_12, lit_17, lit_20, lit_30, lit_31, lit_32, lit_47, lit_48, lit_60, lit_99, lit_100, lit_144, lit_200, lit_240, lit_300, lit_576, lit_960, lit_1008, lit_1000000, lit_100000000, true_implies, not_true_eq_false, false_implies, not_false_eq_true, true_and, and_true, neg_1, nI_add, pk_mul, nI_clamp, vp_nI, tI_lt, tI_le, tI_eq, tI_nI, tI_NN, tI_pred, xP, xW, xF, xG, xC, xN, xD, xB, tI_m7, e, tI_sub]
    refine Rn_last (by intro K; repeat' (first | exact True.intro | exact (fun h => absurd h (by omega)) | refine ⟨fun h => absurd h (by omega), ?_⟩)) ?_
    repeat' (first | refine Rn_and (by first | omega | assumption) ?_ | refine Rn_pos (by first | omega | assumption) ?_ | refine Rn_neg (by first | omega | assumption) ?_ | refine Rn_pos' (by first | omega | assumption) ?_ | refine Rn_neg' (by first | omega | assumption) ?_ | fail)
    refine Rn_ret ?_
    refine Rn_map (fun K => x_X8_status) ?_
    simp (disch := omega) only [lit_0, lit_1, lit_2, lit_3, lit_4, lit_5, lit_6, lit_7, lit_8, lit_9, lit_10, lit_11, lit_12, lit_17, lit_20, lit_30, lit_31, lit_32, lit_47, lit_48, lit_60, lit_99, lit_100, lit_144, lit_200, lit_240, lit_300, lit_576, lit_960, lit_1008, lit_1000000, lit_100000000, true_implies, not_true_eq_false, false_implies, not_false_eq_true, true_and, and_true, neg_1, nI_add, pk_mul, nI_clamp, vp_nI, tI_lt, tI_le, tI_eq, tI_nI, tI_NN, tI_pred, mP, mW, mF, mG, mC, mN, mD, mB, pk_sub]
    refine Rn_last (by intro K; repeat' (first | exact True.intro | exact (fun h => absurd h (by omega)) | refine ⟨fun h => absurd h (by omega), ?_⟩)) ?_
    repeat' (first | refine Rn_and (by first | omega | assumption) ?_ | refine Rn_pos (by first | omega | assumption) ?_ | refine Rn_neg (by first | omega | assumption) ?_ | refine Rn_pos' (by first | omega | assumption) ?_ | refine Rn_neg' (by first | omega | assumption) ?_ | fail)
    exact Rn_ret (Agr (gRef _) R0)
  · simp (disch := omega) only [lit_0, lit_1, lit_2, lit_3, lit_4, lit_5, lit_6, lit_7, lit_8, lit_9, lit_10, lit_11, lit_12, lit_17, lit_20, lit_30, lit_31, lit_32, lit_47, lit_48, lit_60, lit_99, lit_100, lit_144, lit_200, lit_240, lit_300, lit_576, lit_960, lit_1008, lit_1000000, lit_100000000, true_implies, not_true_eq_false, false_implies, not_false_eq_true, true_and, and_true, neg_1, nI_add, pk_mul, nI_clamp, vp_nI, tI_lt, tI_le, tI_eq, tI_nI, tI_NN, tI_pred, xP, xW, xF, xG, xC, xN, xD, xB]
    refine Rn_skip (by omega) ?_; refine Rn_last (by intro K; repeat' (first | exact True.intro | exact (fun h => absurd h (by omega)) | refine ⟨fun h => absurd h (by omega), ?_⟩)) ?_
    refine Rn_ret ?_
    refine Rn_map (fun K => x_X8_status) ?_
    simp (disch := omega) only [lit_0, lit_1, lit_2, lit_3, lit_4, lit_5, lit_6, lit_7, lit_8, lit_9, lit_10, lit_11, lit_12, lit_17, lit_20, lit_30, lit_31, lit_32, lit_47, lit_48, lit_60, lit_99, lit_100, lit_144, lit_200, lit_240, lit_300, lit_576, lit_960, lit_1008, lit_1000000, lit_100000000, true_implies, not_true_eq_false, false_implies, not_false_eq_true, true_and, and_true, neg_1, nI_add, pk_mul, nI_clamp, vp_nI, tI_lt, tI_le, tI_eq, tI_nI, tI_NN, tI_pred, mP, mW, mF, mG, mC, mN, mD, mB]
    refine Rn_skip (by omega) ?_; refine Rn_last (by intro K; repeat' (first | exact True.intro | exact (fun h => absurd h (by omega)) | refine ⟨fun h => absurd h (by omega), ?_⟩)) ?_
    exact Rn_ret (Agr rfl R0)
  · simp (disch := omega) only [lit_0, lit_1, lit_2, lit_3, lit_4, lit_5, lit_6, lit_7, lit_8, lit_9, lit_10, lit_11, lit_12, lit_17, lit_20, lit_30, lit_31, lit_32, lit_47, lit_48, lit_60, lit_99, lit_100, lit_144, lit_200, lit_240, lit_300, lit_576, lit_960, lit_1008, lit_1000000, lit_100000000, true_implies, not_true_eq_false, false_implies, not_false_eq_true, true_and, and_true, neg_1, nI_add, pk_mul, nI_clamp, vp_nI, tI_lt, tI_le, tI_eq, tI_nI, tI_NN, tI_pred, xP, xW, xF, xG, xC, xN, xD, xB]
    refine Rn_skip (by omega) ?_; refine Rn_skip (by omega) ?_; refine Rn_last (by intro K; repeat' (first | exact True.intro | exact (fun h => absurd h (by omega)) | refine ⟨fun h => absurd h (by omega), ?_⟩)) ?_
    refine Rn_ret ?_
    refine Rn_map (fun K => x_X8_status) ?_
    simp (disch := omega) only [lit_0, lit_1, lit_2, lit_3, lit_4, lit_5, lit_6, lit_7, lit_8, lit_9, lit_10, lit_11, lit_12, lit_17, lit_20, lit_30, lit_31, lit_32, lit_47, lit_48, lit_60, lit_99, lit_100, lit_144, lit_200, lit_240, lit_300, lit_576, lit_960, lit_1008, lit_1000000, lit_100000000, true_implies, not_true_eq_false, false_implies, not_false_eq_true, true_and, and_true, neg_1, nI_add, pk_mul, nI_clamp, vp_nI, tI_lt, tI_le, tI_eq, tI_nI, tI_NN, tI_pred, mP, mW, mF, mG, mC, mN, mD, mB]
    refine Rn_skip (by omega) ?_; refine Rn_skip (by omega) ?_; refine Rn_last (by intro K; repeat' (first | exact True.intro | exact (fun h => absurd h (by omega)) | refine ⟨fun h => absurd h (by omega), ?_⟩)) ?_
    exact Rn_ret (Agr rfl R0)
  · simp (disch := omega) only [lit_0, lit_1, lit_2, lit_3, lit_4, lit_5, lit_6, lit_7, lit_8, lit_9, lit_10, lit_11, lit_12, lit_17, lit_20, lit_30, lit_31, lit_32, lit_47, lit_48, lit_60, lit_99, lit_100, lit_144, lit_200, lit_240, lit_300, lit_576, lit_960, lit_1008, lit_1000000, lit_100000000, true_implies, not_true_eq_false, false_implies, not_false_eq_true, true_and, and_true, neg_1, nI_add, pk_mul, nI_clamp, vp_nI, tI_lt, tI_le, tI_eq, tI_nI, tI_NN, tI_pred, xP, xW, xF, xG, xC, xN, xD, xB]
    refine Rn_skip (by omega) ?_; refine Rn_skip (by omega) ?_; refine Rn_skip (by omega) ?_; refine Rn_last (by intro K; repeat' (first | exact True.intro | exact (fun h => absurd h (by omega)) | refine ⟨fun h => absurd h (by omega), ?_⟩)) ?_
    refine Rn_ret ?_
    refine Rn_map (fun K => x_X8_status) ?_
    simp (disch := omega) only [lit_0, lit_1, lit_2, lit_3, lit_4, lit_5, lit_6, lit_7, lit_8, lit_9, lit_10, lit_11, lit_12, lit_17, lit_20, lit_30, lit_31, lit_32, lit_47, lit_48, lit_60, lit_99, lit_100, lit_144, lit_200, lit_240, lit_300, lit_576, lit_960, lit_1008, lit_1000000, lit_100000000, true_implies, not_true_eq_false, false_implies, not_false_eq_true, true_and, and_true, neg_1, nI_add, pk_mul, nI_clamp, vp_nI, tI_lt, tI_le, tI_eq, tI_nI, tI_NN, tI_pred, mP, mW, mF, mG, mC, mN, mD, mB]
    refine Rn_skip (by omega) ?_; refine Rn_skip (by omega) ?_; refine Rn_skip (by omega) ?_; refine Rn_last (by intro K; repeat' (first | exact True.intro | exact (fun h => absurd h (by omega)) | refine ⟨fun h => absurd h (by omega), ?_⟩)) ?_
    exact Rn_ret (Agr rfl R0)
  · simp (disch := omega) only [lit_0, lit_1, lit_2, lit_3, lit_4, lit_5, lit_6, lit_7, lit_8, lit_9, lit_10, lit_11, lit_12, lit_17, lit_20, lit_30, lit_31, lit_32, lit_47, lit_48, lit_60, lit_99, lit_100, lit_144, lit_200, lit_240, lit_300, lit_576, lit_960, lit_1008, lit_1000000, lit_100000000, true_implies, not_true_eq_false, false_implies, not_false_eq_true, true_and, and_true, neg_1, nI_add, pk_mul, nI_clamp, vp_nI, tI_lt, tI_le, tI_eq, tI_nI, tI_NN, tI_pred, xP, xW, xF, xG, xC, xN, xD, xB]
    refine Rn_skip (by omega) ?_; refine Rn_skip (by omega) ?_; refine Rn_skip (by omega) ?_; refine Rn_skip (by omega) ?_; refine Rn_last (by intro K; repeat' (first | exact True.intro | exact (fun h => absurd h (by omega)) | refine ⟨fun h => absurd h (by omega), ?_⟩)) ?_
    refine Rn_cI (Rn_mono (f_X7_countHere hF xF) ?_)
    rintro rx sx ⟨rfl, rfl⟩
    refine Rn_ret ?_
    refine Rn_map (fun K => x_X8_status) ?_
    simp (disch := omega) only [lit_0, lit_1, lit_2, lit_3, lit_4, lit_5, lit_6, lit_7, lit_8, lit_9, lit_10, lit_11, lit_12, lit_17, lit_20, lit_30, lit_31, lit_32, lit_47, lit_48, lit_60, lit_99, lit_100, lit_144, lit_200, lit_240, lit_300, lit_576, lit_960, lit_1008, lit_1000000, lit_100000000, true_implies, not_true_eq_false, false_implies, not_false_eq_true, true_and, and_true, neg_1, nI_add, pk_mul, nI_clamp, vp_nI, tI_lt, tI_le, tI_eq, tI_nI, tI_NN, tI_pred, mP, mW, mF, mG, mC, mN, mD, mB]
    refine Rn_skip (by omega) ?_; refine Rn_skip (by omega) ?_; refine Rn_skip (by omega) ?_; refine Rn_skip (by omega) ?_; refine Rn_last (by intro K; repeat' (first | exact True.intro | exact (fun h => absurd h (by omega)) | refine ⟨fun h => absurd h (by omega), ?_⟩)) ?_
    refine Rn_cI (Rn_mono (f_X8_still hF mF) ?_)
    rintro rm sm ⟨rfl, rfl⟩
    exact Rn_ret (Agr (cntF_congr (fun f hf => (gGone f (by omega)).1)) R0)
  · simp (disch := omega) only [lit_0, lit_1, lit_2, lit_3, lit_4, lit_5, lit_6, lit_7, lit_8, lit_9, lit_10, lit_11, lit_12, lit_17, lit_20, lit_30, lit_31, lit_32, lit_47, lit_48, lit_60, lit_99, lit_100, lit_144, lit_200, lit_240, lit_300, lit_576, lit_960, lit_1008, lit_1000000, lit_100000000, true_implies, not_true_eq_false, false_implies, not_false_eq_true, true_and, and_true, neg_1, nI_add, pk_mul, nI_clamp, vp_nI, tI_lt, tI_le, tI_eq, tI_nI, tI_NN, tI_pred, xP, xW, xF, xG, xC, xN, xD, xB]
    refine Rn_skip (by omega) ?_; refine Rn_skip (by omega) ?_; refine Rn_skip (by omega) ?_; refine Rn_skip (by omega) ?_; refine Rn_skip (by omega) ?_; refine Rn_last (by intro K; repeat' (first | exact True.intro | exact (fun h => absurd h (by omega)) | refine ⟨fun h => absurd h (by omega), ?_⟩)) ?_
    refine Rn_ret ?_
    refine Rn_map (fun K => x_X8_status) ?_
    simp (disch := omega) only [lit_0, lit_1, lit_2, lit_3, lit_4, lit_5, lit_6, lit_7, lit_8, lit_9, lit_10, lit_11, lit_12, lit_17, lit_20, lit_30, lit_31, lit_32, lit_47, lit_48, lit_60, lit_99, lit_100, lit_144, lit_200, lit_240, lit_300, lit_576, lit_960, lit_1008, lit_1000000, lit_100000000, true_implies, not_true_eq_false, false_implies, not_false_eq_true, true_and, and_true, neg_1, nI_add, pk_mul, nI_clamp, vp_nI, tI_lt, tI_le, tI_eq, tI_nI, tI_NN, tI_pred, mP, mW, mF, mG, mC, mN, mD, mB]
    refine Rn_skip (by omega) ?_; refine Rn_skip (by omega) ?_; refine Rn_skip (by omega) ?_; refine Rn_skip (by omega) ?_; refine Rn_skip (by omega) ?_; refine Rn_last (by intro K; repeat' (first | exact True.intro | exact (fun h => absurd h (by omega)) | refine ⟨fun h => absurd h (by omega), ?_⟩)) ?_
    exact Rn_ret (Agr rfl R0)
  · simp (disch := omega) only [lit_0, lit_1, lit_2, lit_3, lit_4, lit_5, lit_6, lit_7, lit_8, lit_9, lit_10, lit_11, lit_12, lit_17, lit_20, lit_30, lit_31, lit_32, lit_47, lit_48, lit_60, lit_99, lit_100, lit_144, lit_200, lit_240, lit_300, lit_576, lit_960, lit_1008, lit_1000000, lit_100000000, true_implies, not_true_eq_false, false_implies, not_false_eq_true, true_and, and_true, neg_1, nI_add, pk_mul, nI_clamp, vp_nI, tI_lt, tI_le, tI_eq, tI_nI, tI_NN, tI_pred, xP, xW, xF, xG, xC, xN, xD, xB]
    refine Rn_skip (by omega) ?_; refine Rn_skip (by omega) ?_; refine Rn_skip (by omega) ?_; refine Rn_skip (by omega) ?_; refine Rn_skip (by omega) ?_; refine Rn_skip (by omega) ?_; refine Rn_last (by intro K; repeat' (first | exact True.intro | exact (fun h => absurd h (by omega)) | refine ⟨fun h => absurd h (by omega), ?_⟩)) ?_
    refine Rn_ret ?_
    refine Rn_map (fun K => x_X8_status) ?_
    simp (disch := omega) only [lit_0, lit_1, lit_2, lit_3, lit_4, lit_5, lit_6, lit_7, lit_8, lit_9, lit_10, lit_11, lit_12, lit_17, lit_20, lit_30, lit_31, lit_32, lit_47, lit_48, lit_60, lit_99, lit_100, lit_144, lit_200, lit_240, lit_300, lit_576, lit_960, lit_1008, lit_1000000, lit_100000000, true_implies, not_true_eq_false, false_implies, not_false_eq_true, true_and, and_true, neg_1, nI_add, pk_mul, nI_clamp, vp_nI, tI_lt, tI_le, tI_eq, tI_nI, tI_NN, tI_pred, mP, mW, mF, mG, mC, mN, mD, mB]
    refine Rn_skip (by omega) ?_; refine Rn_skip (by omega) ?_; refine Rn_skip (by omega) ?_; refine Rn_skip (by omega) ?_; refine Rn_skip (by omega) ?_; refine Rn_skip (by omega) ?_; refine Rn_last (by intro K; repeat' (first | exact True.intro | exact (fun h => absurd h (by omega)) | refine ⟨fun h => absurd h (by omega), ?_⟩)) ?_
    exact Rn_ret (Agr rfl R0)
  · simp (disch := omega) only [lit_0, lit_1, lit_2, lit_3, lit_4, lit_5, lit_6, lit_7, lit_8, lit_9, lit_10, lit_11, lit_12, lit_17, lit_20, lit_30, lit_31, lit_32, lit_47, lit_48, lit_60, lit_99, lit_100, lit_144, lit_200, lit_240, lit_300, lit_576, lit_960, lit_1008, lit_1000000, lit_100000000, true_implies, not_true_eq_false, false_implies, not_false_eq_true, true_and, and_true, neg_1, nI_add, pk_mul, nI_clamp, vp_nI, tI_lt, tI_le, tI_eq, tI_nI, tI_NN, tI_pred, xP, xW, xF, xG, xC, xN, xD, xB]
    refine Rn_skip (by omega) ?_; refine Rn_skip (by omega) ?_; refine Rn_skip (by omega) ?_; refine Rn_skip (by omega) ?_; refine Rn_skip (by omega) ?_; refine Rn_skip (by omega) ?_; refine Rn_skip (by omega) ?_; refine Rn_last (by intro K; repeat' (first | exact True.intro | exact (fun h => absurd h (by omega)) | refine ⟨fun h => absurd h (by omega), ?_⟩)) ?_
    refine Rn_ret ?_
    refine Rn_map (fun K => x_X8_status) ?_
    simp (disch := omega) only [lit_0, lit_1, lit_2, lit_3, lit_4, lit_5, lit_6, lit_7, lit_8, lit_9, lit_10, lit_11, lit_12, lit_17, lit_20, lit_30, lit_31, lit_32, lit_47, lit_48, lit_60, lit_99, lit_100, lit_144, lit_200, lit_240, lit_300, lit_576, lit_960, lit_1008, lit_1000000, lit_100000000, true_implies, not_true_eq_false, false_implies, not_false_eq_true, true_and, and_true, neg_1, nI_add, pk_mul, nI_clamp, vp_nI, tI_lt, tI_le, tI_eq, tI_nI, tI_NN, tI_pred, mP, mW, mF, mG, mC, mN, mD, mB]
    refine Rn_skip (by omega) ?_; refine Rn_skip (by omega) ?_; refine Rn_skip (by omega) ?_; refine Rn_skip (by omega) ?_; refine Rn_skip (by omega) ?_; refine Rn_skip (by omega) ?_; refine Rn_skip (by omega) ?_; refine Rn_last (by intro K; repeat' (first | exact True.intro | exact (fun h => absurd h (by omega)) | refine ⟨fun h => absurd h (by omega), ?_⟩)) ?_
    exact Rn_ret (Agr rfl R0)
  · simp (disch := omega) only [lit_0, lit_1, lit_2, lit_3, lit_4, lit_5, lit_6, lit_7, lit_8, lit_9, lit_10, lit_11, lit_12, lit_17, lit_20, lit_30, lit_31, lit_32, lit_47, lit_48, lit_60, lit_99, lit_100, lit_144, lit_200, lit_240, lit_300, lit_576, lit_960, lit_1008, lit_1000000, lit_100000000, true_implies, not_true_eq_false, false_implies, not_false_eq_true, true_and, and_true, neg_1, nI_add, pk_mul, nI_clamp, vp_nI, tI_lt, tI_le, tI_eq, tI_nI, tI_NN, tI_pred, xP, xW, xF, xG, xC, xN, xD, xB]
    refine Rn_skip (by omega) ?_; refine Rn_skip (by omega) ?_; refine Rn_skip (by omega) ?_; refine Rn_skip (by omega) ?_; refine Rn_skip (by omega) ?_; refine Rn_skip (by omega) ?_; refine Rn_skip (by omega) ?_; refine Rn_skip (by omega) ?_; refine Rn_last (by intro K; repeat' (first | exact True.intro | exact (fun h => absurd h (by omega)) | refine ⟨fun h => absurd h (by omega), ?_⟩)) ?_
    refine Rn_ret ?_
    refine Rn_map (fun K => x_X8_status) ?_
    simp (disch := omega) only [lit_0, lit_1, lit_2, lit_3, lit_4, lit_5, lit_6, lit_7, lit_8, lit_9, lit_10, lit_11, lit_12, lit_17, lit_20, lit_30, lit_31, lit_32, lit_47, lit_48, lit_60, lit_99, lit_100, lit_144, lit_200, lit_240, lit_300, lit_576, lit_960, lit_1008, lit_1000000, lit_100000000, true_implies, not_true_eq_false, false_implies, not_false_eq_true, true_and, and_true, neg_1, nI_add, pk_mul, nI_clamp, vp_nI, tI_lt, tI_le, tI_eq, tI_nI, tI_NN, tI_pred, mP, mW, mF, mG, mC, mN, mD, mB]
    refine Rn_skip (by omega) ?_; refine Rn_skip (by omega) ?_; refine Rn_skip (by omega) ?_; refine Rn_skip (by omega) ?_; refine Rn_skip (by omega) ?_; refine Rn_skip (by omega) ?_; refine Rn_skip (by omega) ?_; refine Rn_skip (by omega) ?_; refine Rn_last (by intro K; repeat' (first | exact True.intro | exact (fun h => absurd h (by omega)) | refine ⟨fun h => absurd h (by omega), ?_⟩)) ?_
    exact Rn_ret (Agr rfl R0)
  · simp (disch := omega) only [lit_0, lit_1, lit_2, lit_3, lit_4, lit_5, lit_6, lit_7, lit_8, lit_9, lit_10, lit_11, lit_12, lit_17, lit_20, lit_30, lit_31, lit_32, lit_47, lit_48, lit_60, lit_99, lit_100, lit_144, lit_200, lit_240, lit_300, lit_576, lit_960, lit_1008, lit_1000000, lit_100000000, true_implies, not_true_eq_false, false_implies, not_false_eq_true, true_and, and_true, neg_1, nI_add, pk_mul, nI_clamp, vp_nI, tI_lt, tI_le, tI_eq, tI_nI, tI_NN, tI_pred, xP, xW, xF, xG, xC, xN, xD, xB]
    refine Rn_skip (by omega) ?_; refine Rn_skip (by omega) ?_; refine Rn_skip (by omega) ?_; refine Rn_skip (by omega) ?_; refine Rn_skip (by omega) ?_; refine Rn_skip (by omega) ?_; refine Rn_skip (by omega) ?_; refine Rn_skip (by omega) ?_; refine Rn_skip (by omega) ?_; refine Rn_last (by intro K; repeat' (first | exact True.intro | exact (fun h => absurd h (by omega)) | refine ⟨fun h => absurd h (by omega), ?_⟩)) ?_
    refine Rn_cI (Rn_mono (f_X7_countBent hF xF) ?_)
    rintro rx sx ⟨rfl, rfl⟩
    refine Rn_ret ?_
    refine Rn_map (fun K => x_X8_status) ?_
    simp (disch := omega) only [lit_0, lit_1, lit_2, lit_3, lit_4, lit_5, lit_6, lit_7, lit_8, lit_9, lit_10, lit_11, lit_12, lit_17, lit_20, lit_30, lit_31, lit_32, lit_47, lit_48, lit_60, lit_99, lit_100, lit_144, lit_200, lit_240, lit_300, lit_576, lit_960, lit_1008, lit_1000000, lit_100000000, true_implies, not_true_eq_false, false_implies, not_false_eq_true, true_and, and_true, neg_1, nI_add, pk_mul, nI_clamp, vp_nI, tI_lt, tI_le, tI_eq, tI_nI, tI_NN, tI_pred, mP, mW, mF, mG, mC, mN, mD, mB]
    refine Rn_skip (by omega) ?_; refine Rn_skip (by omega) ?_; refine Rn_skip (by omega) ?_; refine Rn_skip (by omega) ?_; refine Rn_skip (by omega) ?_; refine Rn_skip (by omega) ?_; refine Rn_skip (by omega) ?_; refine Rn_skip (by omega) ?_; refine Rn_skip (by omega) ?_; refine Rn_last (by intro K; repeat' (first | exact True.intro | exact (fun h => absurd h (by omega)) | refine ⟨fun h => absurd h (by omega), ?_⟩)) ?_
    refine Rn_cI (Rn_mono (f_X8_bent hF mF) ?_)
    rintro rm sm ⟨rfl, rfl⟩
    exact Rn_ret (Agr (cntF_congr (fun f hf => (gBent f (by omega)).1)) R0)
  · simp (disch := omega) only [lit_0, lit_1, lit_2, lit_3, lit_4, lit_5, lit_6, lit_7, lit_8, lit_9, lit_10, lit_11, lit_12, lit_17, lit_20, lit_30, lit_31, lit_32, lit_47, lit_48, lit_60, lit_99, lit_100, lit_144, lit_200, lit_240, lit_300, lit_576, lit_960, lit_1008, lit_1000000, lit_100000000, true_implies, not_true_eq_false, false_implies, not_false_eq_true, true_and, and_true, neg_1, nI_add, pk_mul, nI_clamp, vp_nI, tI_lt, tI_le, tI_eq, tI_nI, tI_NN, tI_pred, xP, xW, xF, xG, xC, xN, xD, xB]
    refine Rn_skip (by omega) ?_; refine Rn_skip (by omega) ?_; refine Rn_skip (by omega) ?_; refine Rn_skip (by omega) ?_; refine Rn_skip (by omega) ?_; refine Rn_skip (by omega) ?_; refine Rn_skip (by omega) ?_; refine Rn_skip (by omega) ?_; refine Rn_skip (by omega) ?_; refine Rn_skip (by omega) ?_; refine Rn_last (by intro K; repeat' (first | exact True.intro | exact (fun h => absurd h (by omega)) | refine ⟨fun h => absurd h (by omega), ?_⟩)) ?_
    refine Rn_cI (Rn_mono f_bitCount ?_)
    rintro rx sx ⟨rfl, rfl⟩
    refine Rn_ret ?_
    refine Rn_map (fun K => x_X8_status) ?_
    simp (disch := omega) only [lit_0, lit_1, lit_2, lit_3, lit_4, lit_5, lit_6, lit_7, lit_8, lit_9, lit_10, lit_11, lit_12, lit_17, lit_20, lit_30, lit_31, lit_32, lit_47, lit_48, lit_60, lit_99, lit_100, lit_144, lit_200, lit_240, lit_300, lit_576, lit_960, lit_1008, lit_1000000, lit_100000000, true_implies, not_true_eq_false, false_implies, not_false_eq_true, true_and, and_true, neg_1, nI_add, pk_mul, nI_clamp, vp_nI, tI_lt, tI_le, tI_eq, tI_nI, tI_NN, tI_pred, mP, mW, mF, mG, mC, mN, mD, mB]
    refine Rn_skip (by omega) ?_; refine Rn_skip (by omega) ?_; refine Rn_skip (by omega) ?_; refine Rn_skip (by omega) ?_; refine Rn_skip (by omega) ?_; refine Rn_skip (by omega) ?_; refine Rn_skip (by omega) ?_; refine Rn_skip (by omega) ?_; refine Rn_skip (by omega) ?_; refine Rn_skip (by omega) ?_; refine Rn_last (by intro K; repeat' (first | exact True.intro | exact (fun h => absurd h (by omega)) | refine ⟨fun h => absurd h (by omega), ?_⟩)) ?_
    refine Rn_cI (Rn_mono (f_X8_locked hP mP) ?_)
    rintro rm sm ⟨rfl, rfl⟩
    refine Rn_ret (Agr ?_ R0)
    obtain ⟨k, hk⟩ : ∃ k, 32 = P + k := ⟨32 - P, by omega⟩
    rw [cntF_pop (fun p hp => gLck.1 p (by omega)), hk, popF_ext gLck.2]
  · simp (disch := omega) only [lit_0, lit_1, lit_2, lit_3, lit_4, lit_5, lit_6, lit_7, lit_8, lit_9, lit_10, lit_11, lit_12, lit_17, lit_20, lit_30, lit_31, lit_32, lit_47, lit_48, lit_60, lit_99, lit_100, lit_144, lit_200, lit_240, lit_300, lit_576, lit_960, lit_1008, lit_1000000, lit_100000000, true_implies, not_true_eq_false, false_implies, not_false_eq_true, true_and, and_true, neg_1, nI_add, pk_mul, nI_clamp, vp_nI, tI_lt, tI_le, tI_eq, tI_nI, tI_NN, tI_pred, xP, xW, xF, xG, xC, xN, xD, xB]
    refine Rn_skip (by omega) ?_; refine Rn_skip (by omega) ?_; refine Rn_skip (by omega) ?_; refine Rn_skip (by omega) ?_; refine Rn_skip (by omega) ?_; refine Rn_skip (by omega) ?_; refine Rn_skip (by omega) ?_; refine Rn_skip (by omega) ?_; refine Rn_skip (by omega) ?_; refine Rn_skip (by omega) ?_; refine Rn_skip (by omega) ?_; refine Rn_imp ?_
    refine Rn_ret ?_
    refine Rn_map (fun K => x_X8_status) ?_
    simp (disch := omega) only [lit_0, lit_1, lit_2, lit_3, lit_4, lit_5, lit_6, lit_7, lit_8, lit_9, lit_10, lit_11, lit_12, lit_17, lit_20, lit_30, lit_31, lit_32, lit_47, lit_48, lit_60, lit_99, lit_100, lit_144, lit_200, lit_240, lit_300, lit_576, lit_960, lit_1008, lit_1000000, lit_100000000, true_implies, not_true_eq_false, false_implies, not_false_eq_true, true_and, and_true, neg_1, nI_add, pk_mul, nI_clamp, vp_nI, tI_lt, tI_le, tI_eq, tI_nI, tI_NN, tI_pred, mP, mW, mF, mG, mC, mN, mD, mB]
    refine Rn_skip (by omega) ?_; refine Rn_skip (by omega) ?_; refine Rn_skip (by omega) ?_; refine Rn_skip (by omega) ?_; refine Rn_skip (by omega) ?_; refine Rn_skip (by omega) ?_; refine Rn_skip (by omega) ?_; refine Rn_skip (by omega) ?_; refine Rn_skip (by omega) ?_; refine Rn_skip (by omega) ?_; refine Rn_skip (by omega) ?_; refine Rn_imp ?_
    exact Rn_ret (Agr hpl R0)

theorem R_place {σx σm : Mem} {dx dm : Nat} {p0 p1 p2 : Int32} {κ' : Nat → Nat → Nat → Prop} (R : Rel κ σx σm) (hκ : ∀ P F B, κ P F B → B = 0 ∧ P < 12 ∧ κ' (P + 1) F B) (hs0 : 1 ≤ p0.toInt ∧ p0.toInt ≤ 9 ∧ 0 ≤ p1.toInt ∧ p1.toInt < p2.toInt ∧ p2.toInt ≤ 48) : Rn (fun K => CalI IX (dx + 2) S_X7_place [ar 0 0, ai p0, ai p1, ai p2] σx K) (fun r sx => Rn (fun K => CalI IM (dm + 2) S_X8_place [ar 30 0, ai p0, ai p1, ai p2] σm K) (fun r' sm => Agree κ' r r' sx sm)) := by
  have R0 := R
  obtain ⟨P, W, F, G, C, N, D, B, w, l, gSc, gRef, gHrs, gLck, gWay, gFar, gDist, gShl, gCell, gHome, gKeys, gLike, gDuty, gGone, gBent, gPlan, gCost, gSeat, gMeet, gTly, gKnow, gFlt, gRow, gPln⟩ := R
  have hSc0 := gSc
  obtain ⟨⟨xP, mP, hP⟩, ⟨xW, mW, hW⟩, ⟨xF, mF, hF⟩, ⟨xG, mG, hG⟩, ⟨xC, mC, hC⟩, ⟨xN, mN, hN⟩, ⟨xD, mD, hD⟩, ⟨xB, mB, hB⟩, hpl, hb0⟩ := hSc0
  have hq0 := tI_bds p0
  obtain ⟨hκB, hκP, hκN⟩ := hκ _ _ _ hb0.2
  have hs : (1 ≤ p0.toInt ∧ p0.toInt ≤ 9 ∧ 0 ≤ p1.toInt ∧ p1.toInt < p2.toInt ∧ p2.toInt ≤ 48) ∧ B = 0 ∧ P < 12 := ⟨hs0, hκB, hκP⟩
  · obtain ⟨a, ha, e1⟩ := of_tI (x := p1) (n := 48) (by omega) (by omega)
    obtain ⟨b, hb, e2⟩ := of_tI (x := p2) (n := 49) (by omega) (by omega)
    have e1' := congrArg Int32.toInt e1
    have e2' := congrArg Int32.toInt e2
    rw [nI_toInt (by omega)] at e1' e2'
    refine Rn_map (fun K => x_X7_place) ?_
    simp (disch := omega) only [lit_0, lit_1, lit_2, lit_3, lit_4, lit_5, lit_6, lit_7, lit_8, lit_9, lit_10, lit_11, lit_12, lit_17, lit_20, lit_30, lit_31, lit_32, lit_47, lit_48, lit_60, lit_99, lit_100, lit_144, lit_200, lit_240, lit_300, lit_576, lit_960, lit_1008, lit_1000000, lit_100000000, true_implies, not_true_eq_false, false_implies, not_false_eq_true, true_and, and_true, neg_1, nI_add, pk_mul, nI_clamp, vp_nI, tI_lt, tI_le, tI_eq, tI_nI, tI_NN, tI_pred, xP, xW, xF, xG, xC, xN, xD, xB]
    repeat' (first | refine Rn_and (by first | omega | assumption) ?_ | refine Rn_pos (by first | omega | assumption) ?_ | refine Rn_neg (by first | omega | assumption) ?_ | refine Rn_pos' (by first | omega | assumption) ?_ | refine Rn_neg' (by first | omega | assumption) ?_ | fail)
    refine Rn_cI (f_X6_addPlace hs.2.2 xP ?_)
    refine Rn_ret ?_
    refine Rn_map (fun K => x_X8_place) ?_
    simp (disch := omega) only [lit_0, lit_1, lit_2, lit_3, lit_4, lit_5, lit_6, lit_7, lit_8, lit_9, lit_10, lit_11, lit_12, lit_17, lit_20, lit_30, lit_31, lit_32, lit_47, lit_48, lit_60, lit_99, lit_100, lit_144, lit_200, lit_240, lit_300, lit_576, lit_960, lit_1008, lit_1000000, lit_100000000, true_implies, not_true_eq_false, false_implies, not_false_eq_true, true_and, and_true, neg_1, nI_add, pk_mul, nI_clamp, vp_nI, tI_lt, tI_le, tI_eq, tI_nI, tI_NN, tI_pred, mP, mW, mF, mG, mC, mN, mD, mB, pk_sub, Nat.add_sub_cancel]
    repeat' (first | refine Rn_and (by first | omega | assumption) ?_ | refine Rn_pos (by first | omega | assumption) ?_ | refine Rn_neg (by first | omega | assumption) ?_ | refine Rn_pos' (by first | omega | assumption) ?_ | refine Rn_neg' (by first | omega | assumption) ?_ | fail)
    refine Rn_ret (Agr rfl ?_)
    refine ⟨(P + 1), W, F, G, C, N, D, B, w, l, ?_, gRef, ?_, (GLck_p (by omega) gLck), (GWay_p (by omega) gWay), ?_, gDist, gShl, gCell, (GHome_p (by omega) gHome), gKeys, gLike, (GDuty_p (by omega) gDuty), gGone, (GBent_p (by omega) gBent), gPlan, gCost, gSeat, (GMeet_p (by omega) (by omega) gMeet), gTly, gKnow, gFlt, gRow, (GPln_p (by omega) gPln)⟩
    · refine ⟨⟨?_, ?_, ?_⟩, ⟨?_, ?_, ?_⟩, ⟨?_, ?_, ?_⟩, ⟨?_, ?_, ?_⟩, ⟨?_, ?_, ?_⟩, ⟨?_, ?_, ?_⟩, ⟨?_, ?_, ?_⟩, ⟨?_, ?_, ?_⟩, ?_, ?_⟩ <;> first | rfl | assumption | omega | exact ⟨hb0.1, hκN⟩
    · intro p hp
      by_cases e : p = P
      · subst e
        refine ⟨?_, a, b, by omega, by omega, ?_, ?_, ?_, ?_⟩ <;> simp [sK_r, wI_r, e1, e2]
      · have := gHrs p (by omega)
        simpa [sK_r, wI_r, e] using this
    · refine ⟨fun u v hu hv => ?_, fun u v hu hv => ?_⟩
      · obtain ⟨i1, i2, i3⟩ := gFar.1 u v hu hv
        exact ⟨i1, i2, fun h => i3 (by omega)⟩
      · have h1 : (12 * u + v < 144 ∧ ((12 * u + v) / 12 = P ∧ (12 * u + v) % 12 ≤ P ∨ (12 * u + v) % 12 = P ∧ (12 * u + v) / 12 ≤ P)) ↔ (u = P ∨ v = P) := by omega
        have h2 : 12 * u + v = 13 * P → u = P ∧ v = P := by omega
        have h3 := (gFar.1 u v (by omega) (by omega)).2.2
        by_cases e : u = P ∨ v = P
        · have h4 := h3 (by omega)
          rw [sK_r, if_pos rfl, if_pos ⟨rfl, (h1.2 e).1, (h1.2 e).2⟩]
          by_cases e3 : u = v
          · rw [if_pos e3] at h4
            rw [if_pos (by omega), h4]
            rfl
          · rw [if_neg e3] at h4
            rw [if_neg (by omega), h4]
            rfl
        · rw [sK_r, if_pos rfl, if_neg (fun z => e (h1.1 ⟨z.2.1, z.2.2⟩))]
          exact gFar.2 u v (by omega) (by omega)
theorem R_folk {σx σm : Mem} {dx dm : Nat} {p0 : Int32} {κ' : Nat → Nat → Nat → Prop} (R : Rel κ σx σm) (hκ : ∀ P F B, κ P F B → B = 0 ∧ F < 20 ∧ (∃ h, h < P ∧ p0 = nI h) ∧ κ' P (F + 1) B) : Rn (fun K => CalI IX (dx + 2) S_X7_folk [ar 0 0, ai p0] σx K) (fun r sx => Rn (fun K => CalI IM (dm + 3) S_X8_folk [ar 30 0, ai p0] σm K) (fun r' sm => Agree κ' r r' sx sm)) := by
  have R0 := R
  obtain ⟨P, W, F, G, C, N, D, B, w, l, gSc, gRef, gHrs, gLck, gWay, gFar, gDist, gShl, gCell, gHome, gKeys, gLike, gDuty, gGone, gBent, gPlan, gCost, gSeat, gMeet, gTly, gKnow, gFlt, gRow, gPln⟩ := R
  have hSc0 := gSc
  obtain ⟨⟨xP, mP, hP⟩, ⟨xW, mW, hW⟩, ⟨xF, mF, hF⟩, ⟨xG, mG, hG⟩, ⟨xC, mC, hC⟩, ⟨xN, mN, hN⟩, ⟨xD, mD, hD⟩, ⟨xB, mB, hB⟩, hpl, hb0⟩ := hSc0
  obtain ⟨hκB, hκF, ⟨h, hh, rfl⟩, hκN⟩ := hκ _ _ _ hb0.2
  · have hs : B = 0 ∧ F < 20 := ⟨hκB, hκF⟩
    · refine Rn_map (fun K => x_X7_folk) ?_
      simp (disch := omega) only [lit_0, lit_1, lit_2, lit_3, lit_4, lit_5, lit_6, lit_7, lit_8, lit_9, lit_10, lit_11, lit_12, lit_17, lit_20, lit_30, lit_31, lit_32, lit_47, lit_48, lit_60, lit_99, lit_100, lit_144, lit_200, lit_240, lit_300, lit_576, lit_960, lit_1008, lit_1000000, lit_100000000, true_implies, not_true_eq_false, false_implies, not_false_eq_true, true_and, and_true, neg_1, nI_add, pk_mul, nI_clamp, vp_nI, tI_lt, tI_le, tI_eq, tI_nI, tI_NN, tI_pred, xP, xW, xF, xG, xC, xN, xD, xB, pk_sub, Nat.add_sub_cancel]
      repeat' (first | refine Rn_and (by first | omega | assumption) ?_ | refine Rn_pos (by first | omega | assumption) ?_ | refine Rn_neg (by first | omega | assumption) ?_ | refine Rn_pos' (by first | omega | assumption) ?_ | refine Rn_neg' (by first | omega | assumption) ?_ | fail)
      refine Rn_ret ?_
      refine Rn_map (fun K => x_X8_folk) ?_
      simp (disch := omega) only [lit_0, lit_1, lit_2, lit_3, lit_4, lit_5, lit_6, lit_7, lit_8, lit_9, lit_10, lit_11, lit_12, lit_17, lit_20, lit_30, lit_31, lit_32, lit_47, lit_48, lit_60, lit_99, lit_100, lit_144, lit_200, lit_240, lit_300, lit_576, lit_960, lit_1008, lit_1000000, lit_100000000, true_implies, not_true_eq_false, false_implies, not_false_eq_true, true_and, and_true, neg_1, nI_add, pk_mul, nI_clamp, vp_nI, tI_lt, tI_le, tI_eq, tI_nI, tI_NN, tI_pred, mP, mW, mF, mG, mC, mN, mD, mB]
      repeat' (first | refine Rn_and (by first | omega | assumption) ?_ | refine Rn_pos (by first | omega | assumption) ?_ | refine Rn_neg (by first | omega | assumption) ?_ | refine Rn_pos' (by first | omega | assumption) ?_ | refine Rn_neg' (by first | omega | assumption) ?_ | fail)
      refine f_X8_folk_56 hs.2 mF (Agr rfl ?_)
      have h9 : ∀ f j, j ≠ 4 → (wI (wI σx 9 F 4 (nI h)) 0 0 9 (nI (F + 1))).1 9 f j = σx.1 9 f j := fun f j hj => wI_j (k' := 9) (i' := f) (j' := j) hj
      refine ⟨P, W, (F + 1), G, C, N, D, B, w, l, ?_, gRef, gHrs, gLck, gWay, gFar, gDist, (GShl_f (by omega) gShl), gCell, ?_, (GKeys_c (fun _ => h9 _ _ (by omega)) gKeys), ?_, (GDuty_c (fun _ => h9 _ _ (by omega)) gDuty), (GGone_c (fun _ => h9 _ _ (by omega)) gGone), (GBent_c (fun _ => h9 _ _ (by omega)) (fun _ => h9 _ _ (by omega)) (fun _ => h9 _ _ (by omega)) (fun _ => h9 _ _ (by omega)) gBent), gPlan, (GCost_c (fun _ => h9 _ _ (by omega)) gCost), gSeat, (GMeet_p (by omega) (by omega) gMeet), gTly, (GKnow_c (fun _ => h9 _ _ (by omega)) gKnow), gFlt, gRow, ?_⟩
      · refine ⟨⟨?_, ?_, ?_⟩, ⟨?_, ?_, ?_⟩, ⟨?_, ?_, ?_⟩, ⟨?_, ?_, ?_⟩, ⟨?_, ?_, ?_⟩, ⟨?_, ?_, ?_⟩, ⟨?_, ?_, ?_⟩, ⟨?_, ?_, ?_⟩, ?_, ?_⟩ <;> first | rfl | assumption | omega | exact ⟨hb0.1, hκN⟩
      · intro f hf
        by_cases e : f = F
        · subst e
          refine ⟨h, hh, ?_, ?_⟩ <;> simp [sK_r, wI_r]
        · have := gHome f (by omega)
          simpa [sK_r, wI_r, e] using this
      · refine ⟨fun f p hf hp => ?_, fun f p hf hf2 hp => ?_⟩
        · show ∃ n, n ≤ 9 ∧ σx.1 10 f p = nI n ∧ (if 0 = 0 ∧ 12 * F ≤ 12 * f + p ∧ 12 * f + p < 12 * F + 12 then nI 5 else σm.1 40 0 (12 * f + p)) = nI n
          by_cases e : f = F
          · subst e
            rw [if_pos ⟨rfl, by omega, by omega⟩]
            exact ⟨5, by omega, gLike.2 f p (by omega) (by omega) hp, rfl⟩
          · rw [if_neg (by omega)]
            exact gLike.1 f p (by omega) hp
        · exact gLike.2 f p (by omega) hf2 hp
      · exact ⟨fun f t hf ht => ⟨(gPln.1 f t hf ht).1, fun z => (gPln.1 f t hf ht).2 (Or.inl hs.1)⟩, fun f hf hB1 => by omega⟩
theorem R_meeting {σx σm : Mem} {dx dm : Nat} {p0 p1 p2 p3 p4 : Int32} (R : Rel κ σx σm) : Rn (fun K => CalI IX (dx + 4) S_X7_meeting [ar 0 0, ai p0, ai p1, ai p2, ai p3, ai p4] σx K) (fun r sx => Rn (fun K => CalI IM (dm + 4) S_X8_meeting [ar 30 0, ai p0, ai p1, ai p2, ai p3, ai p4] σm K) (fun r' sm => Agree κ r r' sx sm)) := by
  have R0 := R
  obtain ⟨P, W, F, G, C, N, D, B, w, l, gSc, gRef, gHrs, gLck, gWay, gFar, gDist, gShl, gCell, gHome, gKeys, gLike, gDuty, gGone, gBent, gPlan, gCost, gSeat, gMeet, gTly, gKnow, gFlt, gRow, gPln⟩ := R
  have hSc0 := gSc
  obtain ⟨⟨xP, mP, hP⟩, ⟨xW, mW, hW⟩, ⟨xF, mF, hF⟩, ⟨xG, mG, hG⟩, ⟨xC, mC, hC⟩, ⟨xN, mN, hN⟩, ⟨xD, mD, hD⟩, ⟨xB, mB, hB⟩, hpl, hb0⟩ := hSc0
  have hpop := popF_le p0 32
  have hq4 := tI_bds p4
  have hiff : (∀ f, f < 32 → bt p0 f = true → f < F ∧ σx.1 9 f 13 = nI 0) ↔ (∀ f, f < 32 → bt p0 f = true → f < F ∧ σm.1 43 0 f = nI 0) := by
    constructor
    · intro h f hf hb
      obtain ⟨h1, h2⟩ := h f hf hb
      exact ⟨h1, by rw [← (gGone f (by omega)).1]; exact h2⟩
    · intro h f hf hb
      obtain ⟨h1, h2⟩ := h f hf hb
      exact ⟨h1, by rw [(gGone f (by omega)).1]; exact h2⟩
  by_cases ham : ∀ f, f < 32 → bt p0 f = true → f < F ∧ σm.1 43 0 f = nI 0
  · have hax := hiff.2 ham
    rcases ix_cases p1 P (by omega) with hp | hp | ⟨p, hp, rfl⟩
    · refine Rn_map (fun K => x_X7_meeting) ?_
      refine Rn_cI (Rn_mono (f_X7_areAllHere hF xF) ?_)
      rintro rx sx ⟨hsx, hrx⟩
      subst hsx
      have hrx := hrx.elim (fun z => z.2) (fun z => absurd hax z.1)
      subst hrx
      simp (disch := omega) only [lit_0, lit_1, lit_2, lit_3, lit_4, lit_5, lit_6, lit_7, lit_8, lit_9, lit_10, lit_11, lit_12, lit_17, lit_20, lit_30, lit_31, lit_32, lit_47, lit_48, lit_60, lit_99, lit_100, lit_144, lit_200, lit_240, lit_300, lit_576, lit_960, lit_1008, lit_1000000, lit_100000000, true_implies, not_true_eq_false, false_implies, not_false_eq_true, true_and, and_true, neg_1, nI_add, pk_mul, nI_clamp, vp_nI, tI_lt, tI_le, tI_eq, tI_nI, tI_NN, tI_pred, xP, xW, xF, xG, xC, xN, xD, xB]
      repeat' (first | refine Rn_and (by first | omega | assumption) ?_ | refine Rn_pos (by first | omega | assumption) ?_ | refine Rn_neg (by first | omega | assumption) ?_ | refine Rn_pos' (by first | omega | assumption) ?_ | refine Rn_neg' (by first | omega | assumption) ?_ | fail)
      refine Rn_ret ?_
      refine Rn_map (fun K => x_X8_meeting) ?_
      refine Rn_cI (Rn_mono (f_X8_areFolk hF mF) ?_)
      rintro rm sm ⟨hsm, hrm⟩
      subst hsm
      have hrm := hrm.elim (fun z => z.2) (fun z => absurd ham z.1)
      subst hrm
      simp (disch := omega) only [lit_0, lit_1, lit_2, lit_3, lit_4, lit_5, lit_6, lit_7, lit_8, lit_9, lit_10, lit_11, lit_12, lit_17, lit_20, lit_30, lit_31, lit_32, lit_47, lit_48, lit_60, lit_99, lit_100, lit_144, lit_200, lit_240, lit_300, lit_576, lit_960, lit_1008, lit_1000000, lit_100000000, true_implies, not_true_eq_false, false_implies, not_false_eq_true, true_and, and_true, neg_1, nI_add, pk_mul, nI_clamp, vp_nI, tI_lt, tI_le, tI_eq, tI_nI, tI_NN, tI_pred, mP, mW, mF, mG, mC, mN, mD, mB]
      repeat' (first | refine Rn_and (by first | omega | assumption) ?_ | refine Rn_pos (by first | omega | assumption) ?_ | refine Rn_neg (by first | omega | assumption) ?_ | refine Rn_pos' (by first | omega | assumption) ?_ | refine Rn_neg' (by first | omega | assumption) ?_ | fail)
      first | exact Rn_ret (Agr rfl (Rel_ref R0 1)) | exact Rn_ret (Agr rfl (Rel_ref R0 2)) | exact Rn_ret (Agr rfl (Rel_ref R0 3)) | exact Rn_ret (Agr rfl (Rel_ref R0 4)) | exact Rn_ret (Agr rfl (Rel_ref R0 5)) | exact Rn_ret (Agr rfl (Rel_ref R0 6)) | exact Rn_ret (Agr rfl (Rel_ref R0 7))
    · refine Rn_map (fun K => x_X7_meeting) ?_
      refine Rn_cI (Rn_mono (f_X7_areAllHere hF xF) ?_)
      rintro rx sx ⟨hsx, hrx⟩
      subst hsx
      have hrx := hrx.elim (fun z => z.2) (fun z => absurd hax z.1)
      subst hrx
      simp (disch := omega) only [lit_0, lit_1, lit_2, lit_3, lit_4, lit_5, lit_6, lit_7, lit_8, lit_9, lit_10, lit_11, lit_12, lit_17, lit_20, lit_30, lit_31, lit_32, lit_47, lit_48, lit_60, lit_99, lit_100, lit_144, lit_200, lit_240, lit_300, lit_576, lit_960, lit_1008, lit_1000000, lit_100000000, true_implies, not_true_eq_false, false_implies, not_false_eq_true, true_and, and_true, neg_1, nI_add, pk_mul, nI_clamp, vp_nI, tI_lt, tI_le, tI_eq, tI_nI, tI_NN, tI_pred, xP, xW, xF, xG, xC, xN, xD, xB]
      repeat' (first | refine Rn_and (by first | omega | assumption) ?_ | refine Rn_pos (by first | omega | assumption) ?_ | refine Rn_neg (by first | omega | assumption) ?_ | refine Rn_pos' (by first | omega | assumption) ?_ | refine Rn_neg' (by first | omega | assumption) ?_ | fail)
      refine Rn_ret ?_
      refine Rn_map (fun K => x_X8_meeting) ?_
      refine Rn_cI (Rn_mono (f_X8_areFolk hF mF) ?_)
      rintro rm sm ⟨hsm, hrm⟩
      subst hsm
      have hrm := hrm.elim (fun z => z.2) (fun z => absurd ham z.1)
      subst hrm
      simp (disch := omega) only [lit_0, lit_1, lit_2, lit_3, lit_4, lit_5, lit_6, lit_7, lit_8, lit_9, lit_10, lit_11, lit_12, lit_17, lit_20, lit_30, lit_31, lit_32, lit_47, lit_48, lit_60, lit_99, lit_100, lit_144, lit_200, lit_240, lit_300, lit_576, lit_960, lit_1008, lit_1000000, lit_100000000, true_implies, not_true_eq_false, false_implies, not_false_eq_true, true_and, and_true, neg_1, nI_add, pk_mul, nI_clamp, vp_nI, tI_lt, tI_le, tI_eq, tI_nI, tI_NN, tI_pred, mP, mW, mF, mG, mC, mN, mD, mB]
      repeat' (first | refine Rn_and (by first | omega | assumption) ?_ | refine Rn_pos (by first | omega | assumption) ?_ | refine Rn_neg (by first | omega | assumption) ?_ | refine Rn_pos' (by first | omega | assumption) ?_ | refine Rn_neg' (by first | omega | assumption) ?_ | fail)
      first | exact Rn_ret (Agr rfl (Rel_ref R0 1)) | exact Rn_ret (Agr rfl (Rel_ref R0 2)) | exact Rn_ret (Agr rfl (Rel_ref R0 3)) | exact Rn_ret (Agr rfl (Rel_ref R0 4)) | exact Rn_ret (Agr rfl (Rel_ref R0 5)) | exact Rn_ret (Agr rfl (Rel_ref R0 6)) | exact Rn_ret (Agr rfl (Rel_ref R0 7))
    · by_cases hp2 : popF p0 32 < 2
      · refine Rn_map (fun K => x_X7_meeting) ?_
        refine Rn_cI (Rn_mono (f_X7_areAllHere hF xF) ?_)
        rintro rx sx ⟨hsx, hrx⟩
        subst hsx
        have hrx := hrx.elim (fun z => z.2) (fun z => absurd hax z.1)
        subst hrx
        simp (disch := omega) only [lit_0, lit_1, lit_2, lit_3, lit_4, lit_5, lit_6, lit_7, lit_8, lit_9, lit_10, lit_11, lit_12, lit_17, lit_20, lit_30, lit_31, lit_32, lit_47, lit_48, lit_60, lit_99, lit_100, lit_144, lit_200, lit_240, lit_300, lit_576, lit_960, lit_1008, lit_1000000, lit_100000000, true_implies, not_true_eq_false, false_implies, not_false_eq_true, true_and, and_true, neg_1, nI_add, pk_mul, nI_clamp, vp_nI, tI_lt, tI_le, tI_eq, tI_nI, tI_NN, tI_pred, xP, xW, xF, xG, xC, xN, xD, xB]
        repeat' (first | refine Rn_and (by first | omega | assumption) ?_ | refine Rn_pos (by first | omega | assumption) ?_ | refine Rn_neg (by first | omega | assumption) ?_ | refine Rn_pos' (by first | omega | assumption) ?_ | refine Rn_neg' (by first | omega | assumption) ?_ | fail)
        refine Rn_cI (Rn_mono f_bitCount ?_)
        rintro rx s2 ⟨hsx2, hrx2⟩
        subst hsx2
        subst hrx2
        simp (disch := omega) only [lit_0, lit_1, lit_2, lit_3, lit_4, lit_5, lit_6, lit_7, lit_8, lit_9, lit_10, lit_11, lit_12, lit_17, lit_20, lit_30, lit_31, lit_32, lit_47, lit_48, lit_60, lit_99, lit_100, lit_144, lit_200, lit_240, lit_300, lit_576, lit_960, lit_1008, lit_1000000, lit_100000000, true_implies, not_true_eq_false, false_implies, not_false_eq_true, true_and, and_true, neg_1, nI_add, pk_mul, nI_clamp, vp_nI, tI_lt, tI_le, tI_eq, tI_nI, tI_NN, tI_pred, xP, xW, xF, xG, xC, xN, xD, xB]
        repeat' (first | refine Rn_and (by first | omega | assumption) ?_ | refine Rn_pos (by first | omega | assumption) ?_ | refine Rn_neg (by first | omega | assumption) ?_ | refine Rn_pos' (by first | omega | assumption) ?_ | refine Rn_neg' (by first | omega | assumption) ?_ | fail)
        refine Rn_ret ?_
        refine Rn_map (fun K => x_X8_meeting) ?_
        refine Rn_cI (Rn_mono (f_X8_areFolk hF mF) ?_)
        rintro rm sm ⟨hsm, hrm⟩
        subst hsm
        have hrm := hrm.elim (fun z => z.2) (fun z => absurd ham z.1)
        subst hrm
        simp (disch := omega) only [lit_0, lit_1, lit_2, lit_3, lit_4, lit_5, lit_6, lit_7, lit_8, lit_9, lit_10, lit_11, lit_12, lit_17, lit_20, lit_30, lit_31, lit_32, lit_47, lit_48, lit_60, lit_99, lit_100, lit_144, lit_200, lit_240, lit_300, lit_576, lit_960, lit_1008, lit_1000000, lit_100000000, true_implies, not_true_eq_false, false_implies, not_false_eq_true, true_and, and_true, neg_1, nI_add, pk_mul, nI_clamp, vp_nI, tI_lt, tI_le, tI_eq, tI_nI, tI_NN, tI_pred, mP, mW, mF, mG, mC, mN, mD, mB]
        repeat' (first | refine Rn_and (by first | omega | assumption) ?_ | refine Rn_pos (by first | omega | assumption) ?_ | refine Rn_neg (by first | omega | assumption) ?_ | refine Rn_pos' (by first | omega | assumption) ?_ | refine Rn_neg' (by first | omega | assumption) ?_ | fail)
        refine Rn_cI (Rn_mono f_X8_many ?_)
        rintro rm s3 ⟨hsm2, hrm2⟩
        subst hsm2
        subst hrm2
        simp (disch := omega) only [lit_0, lit_1, lit_2, lit_3, lit_4, lit_5, lit_6, lit_7, lit_8, lit_9, lit_10, lit_11, lit_12, lit_17, lit_20, lit_30, lit_31, lit_32, lit_47, lit_48, lit_60, lit_99, lit_100, lit_144, lit_200, lit_240, lit_300, lit_576, lit_960, lit_1008, lit_1000000, lit_100000000, true_implies, not_true_eq_false, false_implies, not_false_eq_true, true_and, and_true, neg_1, nI_add, pk_mul, nI_clamp, vp_nI, tI_lt, tI_le, tI_eq, tI_nI, tI_NN, tI_pred, mP, mW, mF, mG, mC, mN, mD, mB, pk_sub, Nat.add_sub_cancel]
        repeat' (first | refine Rn_and (by first | omega | assumption) ?_ | refine Rn_pos (by first | omega | assumption) ?_ | refine Rn_neg (by first | omega | assumption) ?_ | refine Rn_pos' (by first | omega | assumption) ?_ | refine Rn_neg' (by first | omega | assumption) ?_ | fail)
        first | exact Rn_ret (Agr rfl (Rel_ref R0 1)) | exact Rn_ret (Agr rfl (Rel_ref R0 2)) | exact Rn_ret (Agr rfl (Rel_ref R0 3)) | exact Rn_ret (Agr rfl (Rel_ref R0 4)) | exact Rn_ret (Agr rfl (Rel_ref R0 5)) | exact Rn_ret (Agr rfl (Rel_ref R0 6)) | exact Rn_ret (Agr rfl (Rel_ref R0 7))
      · by_cases hs : (0 ≤ p2.toInt ∧ p2.toInt < p3.toInt ∧ p3.toInt ≤ 48)
        · by_cases hw : 1 ≤ p4.toInt ∧ p4.toInt ≤ 100
          · by_cases hB0 : B = 0
            · by_cases hG1 : G < 10
              · obtain ⟨a, ha, e1⟩ := of_tI (x := p2) (n := 48) (by omega) (by omega)
                obtain ⟨b, hb, e2⟩ := of_tI (x := p3) (n := 49) (by omega) (by omega)
                obtain ⟨v, hv, e3⟩ := of_tI (x := p4) (n := 101) (by omega) (by omega)
                have e1' := congrArg Int32.toInt e1
                have e2' := congrArg Int32.toInt e2
                have e3' := congrArg Int32.toInt e3
                rw [nI_toInt (by omega)] at e1' e2' e3'
                refine Rn_map (fun K => x_X7_meeting) ?_
                refine Rn_cI (Rn_mono (f_X7_areAllHere hF xF) ?_)
                rintro rx sx ⟨hsx, hrx⟩
                subst hsx
                have hrx := hrx.elim (fun z => z.2) (fun z => absurd hax z.1)
                subst hrx
                simp (disch := omega) only [lit_0, lit_1, lit_2, lit_3, lit_4, lit_5, lit_6, lit_7, lit_8, lit_9, lit_10, lit_11, lit_12, lit_17, lit_20, lit_30, lit_31, lit_32, lit_47, lit_48, lit_60, lit_99, lit_100, lit_144, lit_200, lit_240, lit_300, lit_576, lit_960, lit_1008, lit_1000000, lit_100000000, true_implies, not_true_eq_false, false_implies, not_false_eq_true, true_and, and_true, neg_1, nI_add, pk_mul, nI_clamp, vp_nI, tI_lt, tI_le, tI_eq, tI_nI, tI_NN, tI_pred, xP, xW, xF, xG, xC, xN, xD, xB]
                repeat' (first | refine Rn_and (by first | omega | assumption) ?_ | refine Rn_pos (by first | omega | assumption) ?_ | refine Rn_neg (by first | omega | assumption) ?_ | refine Rn_pos' (by first | omega | assumption) ?_ | refine Rn_neg' (by first | omega | assumption) ?_ | fail)
                refine Rn_cI (Rn_mono f_bitCount ?_)
                rintro rx s2 ⟨hsx2, hrx2⟩
                subst hsx2
                subst hrx2
                simp (disch := omega) only [lit_0, lit_1, lit_2, lit_3, lit_4, lit_5, lit_6, lit_7, lit_8, lit_9, lit_10, lit_11, lit_12, lit_17, lit_20, lit_30, lit_31, lit_32, lit_47, lit_48, lit_60, lit_99, lit_100, lit_144, lit_200, lit_240, lit_300, lit_576, lit_960, lit_1008, lit_1000000, lit_100000000, true_implies, not_true_eq_false, false_implies, not_false_eq_true, true_and, and_true, neg_1, nI_add, pk_mul, nI_clamp, vp_nI, tI_lt, tI_le, tI_eq, tI_nI, tI_NN, tI_pred, xP, xW, xF, xG, xC, xN, xD, xB]
                repeat' (first | refine Rn_and (by first | omega | assumption) ?_ | refine Rn_pos (by first | omega | assumption) ?_ | refine Rn_neg (by first | omega | assumption) ?_ | refine Rn_pos' (by first | omega | assumption) ?_ | refine Rn_neg' (by first | omega | assumption) ?_ | fail)
                refine Rn_ret ?_
                refine Rn_map (fun K => x_X8_meeting) ?_
                refine Rn_cI (Rn_mono (f_X8_areFolk hF mF) ?_)
                rintro rm sm ⟨hsm, hrm⟩
                subst hsm
                have hrm := hrm.elim (fun z => z.2) (fun z => absurd ham z.1)
                subst hrm
                simp (disch := omega) only [lit_0, lit_1, lit_2, lit_3, lit_4, lit_5, lit_6, lit_7, lit_8, lit_9, lit_10, lit_11, lit_12, lit_17, lit_20, lit_30, lit_31, lit_32, lit_47, lit_48, lit_60, lit_99, lit_100, lit_144, lit_200, lit_240, lit_300, lit_576, lit_960, lit_1008, lit_1000000, lit_100000000, true_implies, not_true_eq_false, false_implies, not_false_eq_true, true_and, and_true, neg_1, nI_add, pk_mul, nI_clamp, vp_nI, tI_lt, tI_le, tI_eq, tI_nI, tI_NN, tI_pred, mP, mW, mF, mG, mC, mN, mD, mB]
                repeat' (first | refine Rn_and (by first | omega | assumption) ?_ | refine Rn_pos (by first | omega | assumption) ?_ | refine Rn_neg (by first | omega | assumption) ?_ | refine Rn_pos' (by first | omega | assumption) ?_ | refine Rn_neg' (by first | omega | assumption) ?_ | fail)
                refine Rn_cI (Rn_mono f_X8_many ?_)
                rintro rm s3 ⟨hsm2, hrm2⟩
                subst hsm2
                subst hrm2
                simp (disch := omega) only [lit_0, lit_1, lit_2, lit_3, lit_4, lit_5, lit_6, lit_7, lit_8, lit_9, lit_10, lit_11, lit_12, lit_17, lit_20, lit_30, lit_31, lit_32, lit_47, lit_48, lit_60, lit_99, lit_100, lit_144, lit_200, lit_240, lit_300, lit_576, lit_960, lit_1008, lit_1000000, lit_100000000, true_implies, not_true_eq_false, false_implies, not_false_eq_true, true_and, and_true, neg_1, nI_add, pk_mul, nI_clamp, vp_nI, tI_lt, tI_le, tI_eq, tI_nI, tI_NN, tI_pred, mP, mW, mF, mG, mC, mN, mD, mB, pk_sub, Nat.add_sub_cancel]
                repeat' (first | refine Rn_and (by first | omega | assumption) ?_ | refine Rn_pos (by first | omega | assumption) ?_ | refine Rn_neg (by first | omega | assumption) ?_ | refine Rn_pos' (by first | omega | assumption) ?_ | refine Rn_neg' (by first | omega | assumption) ?_ | fail)
                refine Rn_ret (Agr (by first | rfl | exact pk_sub (by omega)) ?_)
                refine ⟨P, W, F, (G + 1), C, N, D, B, w, l, ?_, gRef, gHrs, gLck, gWay, gFar, gDist, gShl, gCell, gHome, gKeys, gLike, gDuty, gGone, gBent, gPlan, gCost, gSeat, ?_, ?_, gKnow, gFlt, gRow, gPln⟩
                · refine ⟨⟨?_, ?_, ?_⟩, ⟨?_, ?_, ?_⟩, ⟨?_, ?_, ?_⟩, ⟨?_, ?_, ?_⟩, ⟨?_, ?_, ?_⟩, ⟨?_, ?_, ?_⟩, ⟨?_, ?_, ?_⟩, ⟨?_, ?_, ?_⟩, ?_, ?_⟩ <;> first | rfl | assumption | omega
                · intro g hg
                  by_cases e : g = G
                  · subst e
                    refine ⟨?_, ?_, p, a, b, v, hp, by omega, by omega, by omega, by omega, ?_⟩
                    · simp [wI_r]
                    · intro f hf
                      have : (wI (wI (wI (wI (wI (wI s3 49 0 g p0) 50 0 (4 * g) (nI p)) 50 0 (4 * g + 1) p2) 50 0 (4 * g + 2) p3) 50 0 (4 * g + 3) p4) 30 0 25 (nI (g + 1))).1 49 0 g = p0 := by simp [wI_r]
                      rw [this]
                      by_cases h32 : f < 32
                      · cases hbt : bt p0 f with
                        | false => rfl
                        | true => exact absurd (ham f h32 hbt).1 (by omega)
                      · exact b_big (by omega)
                    · refine ⟨?_, ?_, ?_, ?_, ?_, ?_, ?_, ?_⟩ <;> simp [wI_r, e1, e2, e3]
                  · have hz := gMeet g (by omega)
                    have h0 : 4 * g ≠ 4 * G := by omega
                    have h1 : ∀ i j, i < 4 → j < 4 → i ≠ j → 4 * g + i ≠ 4 * g + j := fun i j _ _ h => by omega
                    have c1 : ∀ i, i < 4 → 4 * g + i ≠ 4 * G := fun i _ => by omega
                    have c2 : ∀ i j, i < 4 → j < 4 → 4 * g + i ≠ 4 * G + j := fun i j _ _ => by omega
                    have c3 : ∀ j, j < 4 → 4 * g ≠ 4 * G + j := fun j _ => by omega
                    have k14 : ∀ j, (wI (wI (wI (wI (wI (wI s2 14 G 0 p0) 14 G 1 (nI p)) 14 G 2 p2) 14 G 3 p3) 14 G 4 p4) 0 0 10 (nI (G + 1))).1 14 g j = s2.1 14 g j := by
                      intro j
                      simp [wI_r, e]
                    have k49 : (wI (wI (wI (wI (wI (wI s3 49 0 G p0) 50 0 (4 * G) (nI p)) 50 0 (4 * G + 1) p2) 50 0 (4 * G + 2) p3) 50 0 (4 * G + 3) p4) 30 0 25 (nI (G + 1))).1 49 0 g = s3.1 49 0 g := by
                      simp [wI_r, e]
                    have k50 : ∀ i, i < 4 → (wI (wI (wI (wI (wI (wI s3 49 0 G p0) 50 0 (4 * G) (nI p)) 50 0 (4 * G + 1) p2) 50 0 (4 * G + 2) p3) 50 0 (4 * G + 3) p4) 30 0 25 (nI (G + 1))).1 50 0 (4 * g + i) = s3.1 50 0 (4 * g + i) := by
                      intro i hi
                      have d0 : 4 * g + i ≠ 4 * G := by omega
                      have d1 : 4 * g + i ≠ 4 * G + 1 := by omega
                      have d2 : 4 * g + i ≠ 4 * G + 2 := by omega
                      have d3 : 4 * g + i ≠ 4 * G + 3 := by omega
                      simp [wI_r, d0, d1, d2, d3]
                    have k500 := k50 0 (by omega)
                    simp only [Nat.add_zero] at k500
                    rw [k49, k14, k14, k14, k14, k14, k500, k50 1 (by omega), k50 2 (by omega), k50 3 (by omega)]
                    exact hz
                · intro g hg
                  have hz := gTly g hg
                  simpa [wI_r] using hz
              · refine Rn_map (fun K => x_X7_meeting) ?_
                refine Rn_cI (Rn_mono (f_X7_areAllHere hF xF) ?_)
                rintro rx sx ⟨hsx, hrx⟩
                subst hsx
                have hrx := hrx.elim (fun z => z.2) (fun z => absurd hax z.1)
                subst hrx
                simp (disch := omega) only [lit_0, lit_1, lit_2, lit_3, lit_4, lit_5, lit_6, lit_7, lit_8, lit_9, lit_10, lit_11, lit_12, lit_17, lit_20, lit_30, lit_31, lit_32, lit_47, lit_48, lit_60, lit_99, lit_100, lit_144, lit_200, lit_240, lit_300, lit_576, lit_960, lit_1008, lit_1000000, lit_100000000, true_implies, not_true_eq_false, false_implies, not_false_eq_true, true_and, and_true, neg_1, nI_add, pk_mul, nI_clamp, vp_nI, tI_lt, tI_le, tI_eq, tI_nI, tI_NN, tI_pred, xP, xW, xF, xG, xC, xN, xD, xB]
                repeat' (first | refine Rn_and (by first | omega | assumption) ?_ | refine Rn_pos (by first | omega | assumption) ?_ | refine Rn_neg (by first | omega | assumption) ?_ | refine Rn_pos' (by first | omega | assumption) ?_ | refine Rn_neg' (by first | omega | assumption) ?_ | fail)
                refine Rn_cI (Rn_mono f_bitCount ?_)
                rintro rx s2 ⟨hsx2, hrx2⟩
                subst hsx2
                subst hrx2
                simp (disch := omega) only [lit_0, lit_1, lit_2, lit_3, lit_4, lit_5, lit_6, lit_7, lit_8, lit_9, lit_10, lit_11, lit_12, lit_17, lit_20, lit_30, lit_31, lit_32, lit_47, lit_48, lit_60, lit_99, lit_100, lit_144, lit_200, lit_240, lit_300, lit_576, lit_960, lit_1008, lit_1000000, lit_100000000, true_implies, not_true_eq_false, false_implies, not_false_eq_true, true_and, and_true, neg_1, nI_add, pk_mul, nI_clamp, vp_nI, tI_lt, tI_le, tI_eq, tI_nI, tI_NN, tI_pred, xP, xW, xF, xG, xC, xN, xD, xB]
                repeat' (first | refine Rn_and (by first | omega | assumption) ?_ | refine Rn_pos (by first | omega | assumption) ?_ | refine Rn_neg (by first | omega | assumption) ?_ | refine Rn_pos' (by first | omega | assumption) ?_ | refine Rn_neg' (by first | omega | assumption) ?_ | fail)
                refine Rn_ret ?_
                refine Rn_map (fun K => x_X8_meeting) ?_
                refine Rn_cI (Rn_mono (f_X8_areFolk hF mF) ?_)
                rintro rm sm ⟨hsm, hrm⟩
                subst hsm
                have hrm := hrm.elim (fun z => z.2) (fun z => absurd ham z.1)
                subst hrm
                simp (disch := omega) only [lit_0, lit_1, lit_2, lit_3, lit_4, lit_5, lit_6, lit_7, lit_8, lit_9, lit_10, lit_11, lit_12, lit_17, lit_20, lit_30, lit_31, lit_32, lit_47, lit_48, lit_60, lit_99, lit_100, lit_144, lit_200, lit_240, lit_300, lit_576, lit_960, lit_1008, lit_1000000, lit_100000000, true_implies, not_true_eq_false, false_implies, not_false_eq_true, true_and, and_true, neg_1, nI_add, pk_mul, nI_clamp, vp_nI, tI_lt, tI_le, tI_eq, tI_nI, tI_NN, tI_pred, mP, mW, mF, mG, mC, mN, mD, mB]
                repeat' (first | refine Rn_and (by first | omega | assumption) ?_ | refine Rn_pos (by first | omega | assumption) ?_ | refine Rn_neg (by first | omega | assumption) ?_ | refine Rn_pos' (by first | omega | assumption) ?_ | refine Rn_neg' (by first | omega | assumption) ?_ | fail)
                refine Rn_cI (Rn_mono f_X8_many ?_)
                rintro rm s3 ⟨hsm2, hrm2⟩
                subst hsm2
                subst hrm2
                simp (disch := omega) only [lit_0, lit_1, lit_2, lit_3, lit_4, lit_5, lit_6, lit_7, lit_8, lit_9, lit_10, lit_11, lit_12, lit_17, lit_20, lit_30, lit_31, lit_32, lit_47, lit_48, lit_60, lit_99, lit_100, lit_144, lit_200, lit_240, lit_300, lit_576, lit_960, lit_1008, lit_1000000, lit_100000000, true_implies, not_true_eq_false, false_implies, not_false_eq_true, true_and, and_true, neg_1, nI_add, pk_mul, nI_clamp, vp_nI, tI_lt, tI_le, tI_eq, tI_nI, tI_NN, tI_pred, mP, mW, mF, mG, mC, mN, mD, mB, pk_sub, Nat.add_sub_cancel]
                repeat' (first | refine Rn_and (by first | omega | assumption) ?_ | refine Rn_pos (by first | omega | assumption) ?_ | refine Rn_neg (by first | omega | assumption) ?_ | refine Rn_pos' (by first | omega | assumption) ?_ | refine Rn_neg' (by first | omega | assumption) ?_ | fail)
                first | exact Rn_ret (Agr rfl (Rel_ref R0 1)) | exact Rn_ret (Agr rfl (Rel_ref R0 2)) | exact Rn_ret (Agr rfl (Rel_ref R0 3)) | exact Rn_ret (Agr rfl (Rel_ref R0 4)) | exact Rn_ret (Agr rfl (Rel_ref R0 5)) | exact Rn_ret (Agr rfl (Rel_ref R0 6)) | exact Rn_ret (Agr rfl (Rel_ref R0 7))
            · refine Rn_map (fun K => x_X7_meeting) ?_
              refine Rn_cI (Rn_mono (f_X7_areAllHere hF xF) ?_)
              rintro rx sx ⟨hsx, hrx⟩
              subst hsx
              have hrx := hrx.elim (fun z => z.2) (fun z => absurd hax z.1)
              subst hrx
              simp (disch := omega) only [lit_0, lit_1, lit_2, lit_3, lit_4, lit_5, lit_6, lit_7, lit_8, lit_9, lit_10, lit_11, lit_12, lit_17, lit_20, lit_30, lit_31, lit_32, lit_47, lit_48, lit_60, lit_99, lit_100, lit_144, lit_200, lit_240, lit_300, lit_576, lit_960, lit_1008, lit_1000000, lit_100000000, true_implies, not_true_eq_false, false_implies, not_false_eq_true, true_and, and_true, neg_1, nI_add, pk_mul, nI_clamp, vp_nI, tI_lt, tI_le, tI_eq, tI_nI, tI_NN, tI_pred, xP, xW, xF, xG, xC, xN, xD, xB]
              repeat' (first | refine Rn_and (by first | omega | assumption) ?_ | refine Rn_pos (by first | omega | assumption) ?_ | refine Rn_neg (by first | omega | assumption) ?_ | refine Rn_pos' (by first | omega | assumption) ?_ | refine Rn_neg' (by first | omega | assumption) ?_ | fail)
              refine Rn_cI (Rn_mono f_bitCount ?_)
              rintro rx s2 ⟨hsx2, hrx2⟩
              subst hsx2
              subst hrx2
              simp (disch := omega) only [lit_0, lit_1, lit_2, lit_3, lit_4, lit_5, lit_6, lit_7, lit_8, lit_9, lit_10, lit_11, lit_12, lit_17, lit_20, lit_30, lit_31, lit_32, lit_47, lit_48, lit_60, lit_99, lit_100, lit_144, lit_200, lit_240, lit_300, lit_576, lit_960, lit_1008, lit_1000000, lit_100000000, true_implies, not_true_eq_false, false_implies, not_false_eq_true, true_and, and_true, neg_1, nI_add, pk_mul, nI_clamp, vp_nI, tI_lt, tI_le, tI_eq, tI_nI, tI_NN, tI_pred, xP, xW, xF, xG, xC, xN, xD, xB]
              repeat' (first | refine Rn_and (by first | omega | assumption) ?_ | refine Rn_pos (by first | omega | assumption) ?_ | refine Rn_neg (by first | omega | assumption) ?_ | refine Rn_pos' (by first | omega | assumption) ?_ | refine Rn_neg' (by first | omega | assumption) ?_ | fail)
              refine Rn_ret ?_
              refine Rn_map (fun K => x_X8_meeting) ?_
              refine Rn_cI (Rn_mono (f_X8_areFolk hF mF) ?_)
              rintro rm sm ⟨hsm, hrm⟩
              subst hsm
              have hrm := hrm.elim (fun z => z.2) (fun z => absurd ham z.1)
              subst hrm
              simp (disch := omega) only [lit_0, lit_1, lit_2, lit_3, lit_4, lit_5, lit_6, lit_7, lit_8, lit_9, lit_10, lit_11, lit_12, lit_17, lit_20, lit_30, lit_31, lit_32, lit_47, lit_48, lit_60, lit_99, lit_100, lit_144, lit_200, lit_240, lit_300, lit_576, lit_960, lit_1008, lit_1000000, lit_100000000, true_implies, not_true_eq_false, false_implies, not_false_eq_true, true_and, and_true, neg_1, nI_add, pk_mul, nI_clamp, vp_nI, tI_lt, tI_le, tI_eq, tI_nI, tI_NN, tI_pred, mP, mW, mF, mG, mC, mN, mD, mB]
              repeat' (first | refine Rn_and (by first | omega | assumption) ?_ | refine Rn_pos (by first | omega | assumption) ?_ | refine Rn_neg (by first | omega | assumption) ?_ | refine Rn_pos' (by first | omega | assumption) ?_ | refine Rn_neg' (by first | omega | assumption) ?_ | fail)
              refine Rn_cI (Rn_mono f_X8_many ?_)
              rintro rm s3 ⟨hsm2, hrm2⟩
              subst hsm2
              subst hrm2
              simp (disch := omega) only [lit_0, lit_1, lit_2, lit_3, lit_4, lit_5, lit_6, lit_7, lit_8, lit_9, lit_10, lit_11, lit_12, lit_17, lit_20, lit_30, lit_31, lit_32, lit_47, lit_48, lit_60, lit_99, lit_100, lit_144, lit_200, lit_240, lit_300, lit_576, lit_960, lit_1008, lit_1000000, lit_100000000, true_implies, not_true_eq_false, false_implies, not_false_eq_true, true_and, and_true, neg_1, nI_add, pk_mul, nI_clamp, vp_nI, tI_lt, tI_le, tI_eq, tI_nI, tI_NN, tI_pred, mP, mW, mF, mG, mC, mN, mD, mB, pk_sub, Nat.add_sub_cancel]
              repeat' (first | refine Rn_and (by first | omega | assumption) ?_ | refine Rn_pos (by first | omega | assumption) ?_ | refine Rn_neg (by first | omega | assumption) ?_ | refine Rn_pos' (by first | omega | assumption) ?_ | refine Rn_neg' (by first | omega | assumption) ?_ | fail)
              first | exact Rn_ret (Agr rfl (Rel_ref R0 1)) | exact Rn_ret (Agr rfl (Rel_ref R0 2)) | exact Rn_ret (Agr rfl (Rel_ref R0 3)) | exact Rn_ret (Agr rfl (Rel_ref R0 4)) | exact Rn_ret (Agr rfl (Rel_ref R0 5)) | exact Rn_ret (Agr rfl (Rel_ref R0 6)) | exact Rn_ret (Agr rfl (Rel_ref R0 7))
          · rcases (by omega : p4.toInt < 1 ∨ 100 < p4.toInt) with hw | hw
            all_goals (
              refine Rn_map (fun K => x_X7_meeting) ?_
              refine Rn_cI (Rn_mono (f_X7_areAllHere hF xF) ?_)
              rintro rx sx ⟨hsx, hrx⟩
              subst hsx
              have hrx := hrx.elim (fun z => z.2) (fun z => absurd hax z.1)
              subst hrx
              simp (disch := omega) only [lit_0, lit_1, lit_2, lit_3, lit_4, lit_5, lit_6, lit_7, lit_8, lit_9, lit_10, lit_11, lit_12, lit_17, lit_20, lit_30, lit_31, lit_32, lit_47, lit_48, lit_60, lit_99, lit_100, lit_144, lit_200, lit_240, lit_300, lit_576, lit_960, lit_1008, lit_1000000, lit_100000000, true_implies, not_true_eq_false, false_implies, not_false_eq_true, true_and, and_true, neg_1, nI_add, pk_mul, nI_clamp, vp_nI, tI_lt, tI_le, tI_eq, tI_nI, tI_NN, tI_pred, xP, xW, xF, xG, xC, xN, xD, xB]
              repeat' (first | refine Rn_and (by first | omega | assumption) ?_ | refine Rn_pos (by first | omega | assumption) ?_ | refine Rn_neg (by first | omega | assumption) ?_ | refine Rn_pos' (by first | omega | assumption) ?_ | refine Rn_neg' (by first | omega | assumption) ?_ | fail)
              refine Rn_cI (Rn_mono f_bitCount ?_)
              rintro rx s2 ⟨hsx2, hrx2⟩
              subst hsx2
              subst hrx2
              simp (disch := omega) only [lit_0, lit_1, lit_2, lit_3, lit_4, lit_5, lit_6, lit_7, lit_8, lit_9, lit_10, lit_11, lit_12, lit_17, lit_20, lit_30, lit_31, lit_32, lit_47, lit_48, lit_60, lit_99, lit_100, lit_144, lit_200, lit_240, lit_300, lit_576, lit_960, lit_1008, lit_1000000, lit_100000000, true_implies, not_true_eq_false, false_implies, not_false_eq_true, true_and, and_true, neg_1, nI_add, pk_mul, nI_clamp, vp_nI, tI_lt, tI_le, tI_eq, tI_nI, tI_NN, tI_pred, xP, xW, xF, xG, xC, xN, xD, xB]
              repeat' (first | refine Rn_and (by first | omega | assumption) ?_ | refine Rn_pos (by first | omega | assumption) ?_ | refine Rn_neg (by first | omega | assumption) ?_ | refine Rn_pos' (by first | omega | assumption) ?_ | refine Rn_neg' (by first | omega | assumption) ?_ | fail)
              refine Rn_ret ?_
              refine Rn_map (fun K => x_X8_meeting) ?_
              refine Rn_cI (Rn_mono (f_X8_areFolk hF mF) ?_)
              rintro rm sm ⟨hsm, hrm⟩
              subst hsm
              have hrm := hrm.elim (fun z => z.2) (fun z => absurd ham z.1)
              subst hrm
              simp (disch := omega) only [lit_0, lit_1, lit_2, lit_3, lit_4, lit_5, lit_6, lit_7, lit_8, lit_9, lit_10, lit_11, lit_12, lit_17, lit_20, lit_30, lit_31, lit_32, lit_47, lit_48, lit_60, lit_99, lit_100, lit_144, lit_200, lit_240, lit_300, lit_576, lit_960, lit_1008, lit_1000000, lit_100000000, true_implies, not_true_eq_false, false_implies, not_false_eq_true, true_and, and_true, neg_1, nI_add, pk_mul, nI_clamp, vp_nI, tI_lt, tI_le, tI_eq, tI_nI, tI_NN, tI_pred, mP, mW, mF, mG, mC, mN, mD, mB]
              repeat' (first | refine Rn_and (by first | omega | assumption) ?_ | refine Rn_pos (by first | omega | assumption) ?_ | refine Rn_neg (by first | omega | assumption) ?_ | refine Rn_pos' (by first | omega | assumption) ?_ | refine Rn_neg' (by first | omega | assumption) ?_ | fail)
              refine Rn_cI (Rn_mono f_X8_many ?_)
              rintro rm s3 ⟨hsm2, hrm2⟩
              subst hsm2
              subst hrm2
              simp (disch := omega) only [lit_0, lit_1, lit_2, lit_3, lit_4, lit_5, lit_6, lit_7, lit_8, lit_9, lit_10, lit_11, lit_12, lit_17, lit_20, lit_30, lit_31, lit_32, lit_47, lit_48, lit_60, lit_99, lit_100, lit_144, lit_200, lit_240, lit_300, lit_576, lit_960, lit_1008, lit_1000000, lit_100000000, true_implies, not_true_eq_false, false_implies, not_false_eq_true, true_and, and_true, neg_1, nI_add, pk_mul, nI_clamp, vp_nI, tI_lt, tI_le, tI_eq, tI_nI, tI_NN, tI_pred, mP, mW, mF, mG, mC, mN, mD, mB, pk_sub, Nat.add_sub_cancel]
              repeat' (first | refine Rn_and (by first | omega | assumption) ?_ | refine Rn_pos (by first | omega | assumption) ?_ | refine Rn_neg (by first | omega | assumption) ?_ | refine Rn_pos' (by first | omega | assumption) ?_ | refine Rn_neg' (by first | omega | assumption) ?_ | fail)
              first | exact Rn_ret (Agr rfl (Rel_ref R0 1)) | exact Rn_ret (Agr rfl (Rel_ref R0 2)) | exact Rn_ret (Agr rfl (Rel_ref R0 3)) | exact Rn_ret (Agr rfl (Rel_ref R0 4)) | exact Rn_ret (Agr rfl (Rel_ref R0 5)) | exact Rn_ret (Agr rfl (Rel_ref R0 6)) | exact Rn_ret (Agr rfl (Rel_ref R0 7)))
        · rcases (by omega : p2.toInt < 0 ∨ (0 ≤ p2.toInt ∧ p3.toInt ≤ p2.toInt) ∨ (0 ≤ p2.toInt ∧ p2.toInt < p3.toInt ∧ 48 < p3.toInt)) with hs | hs | hs
          all_goals (
            refine Rn_map (fun K => x_X7_meeting) ?_
            refine Rn_cI (Rn_mono (f_X7_areAllHere hF xF) ?_)
            rintro rx sx ⟨hsx, hrx⟩
            subst hsx
            have hrx := hrx.elim (fun z => z.2) (fun z => absurd hax z.1)
            subst hrx
            simp (disch := omega) only [lit_0, lit_1, lit_2, lit_3, lit_4, lit_5, lit_6, lit_7, lit_8, lit_9, lit_10, lit_11, lit_12, lit_17, lit_20, lit_30, lit_31, lit_32, lit_47, lit_48, lit_60, lit_99, lit_100, lit_144, lit_200, lit_240, lit_300, lit_576, lit_960, lit_1008, lit_1000000, lit_100000000, true_implies, not_true_eq_false, false_implies, not_false_eq_true, true_and, and_true, neg_1, nI_add, pk_mul, nI_clamp, vp_nI, tI_lt, tI_le, tI_eq, tI_nI, tI_NN, tI_pred, xP, xW, xF, xG, xC, xN, xD, xB]
            repeat' (first | refine Rn_and (by first | omega | assumption) ?_ | refine Rn_pos (by first | omega | assumption) ?_ | refine Rn_neg (by first | omega | assumption) ?_ | refine Rn_pos' (by first | omega | assumption) ?_ | refine Rn_neg' (by first | omega | assumption) ?_ | fail)
            refine Rn_cI (Rn_mono f_bitCount ?_)
            rintro rx s2 ⟨hsx2, hrx2⟩
            subst hsx2
            subst hrx2
            simp (disch := omega) only [lit_0, lit_1, lit_2, lit_3, lit_4, lit_5, lit_6, lit_7, lit_8, lit_9, lit_10, lit_11, lit_12, lit_17, lit_20, lit_30, lit_31, lit_32, lit_47, lit_48, lit_60, lit_99, lit_100, lit_144, lit_200, lit_240, lit_300, lit_576, lit_960, lit_1008, lit_1000000, lit_100000000, true_implies, not_true_eq_false, false_implies, not_false_eq_true, true_and, and_true, neg_1, nI_add, pk_mul, nI_clamp, vp_nI, tI_lt, tI_le, tI_eq, tI_nI, tI_NN, tI_pred, xP, xW, xF, xG, xC, xN, xD, xB]
            repeat' (first | refine Rn_and (by first | omega | assumption) ?_ | refine Rn_pos (by first | omega | assumption) ?_ | refine Rn_neg (by first | omega | assumption) ?_ | refine Rn_pos' (by first | omega | assumption) ?_ | refine Rn_neg' (by first | omega | assumption) ?_ | fail)
            refine Rn_ret ?_
            refine Rn_map (fun K => x_X8_meeting) ?_
            refine Rn_cI (Rn_mono (f_X8_areFolk hF mF) ?_)
            rintro rm sm ⟨hsm, hrm⟩
            subst hsm
            have hrm := hrm.elim (fun z => z.2) (fun z => absurd ham z.1)
            subst hrm
            simp (disch := omega) only [lit_0, lit_1, lit_2, lit_3, lit_4, lit_5, lit_6, lit_7, lit_8, lit_9, lit_10, lit_11, lit_12, lit_17, lit_20, lit_30, lit_31, lit_32, lit_47, lit_48, lit_60, lit_99, lit_100, lit_144, lit_200, lit_240, lit_300, lit_576, lit_960, lit_1008, lit_1000000, lit_100000000, true_implies, not_true_eq_false, false_implies, not_false_eq_true, true_and, and_true, neg_1, nI_add, pk_mul, nI_clamp, vp_nI, tI_lt, tI_le, tI_eq, tI_nI, tI_NN, tI_pred, mP, mW, mF, mG, mC, mN, mD, mB]
            repeat' (first | refine Rn_and (by first | omega | assumption) ?_ | refine Rn_pos (by first | omega | assumption) ?_ | refine Rn_neg (by first | omega | assumption) ?_ | refine Rn_pos' (by first | omega | assumption) ?_ | refine Rn_neg' (by first | omega | assumption) ?_ | fail)
            refine Rn_cI (Rn_mono f_X8_many ?_)
            rintro rm s3 ⟨hsm2, hrm2⟩
            subst hsm2
            subst hrm2
            simp (disch := omega) only [lit_0, lit_1, lit_2, lit_3, lit_4, lit_5, lit_6, lit_7, lit_8, lit_9, lit_10, lit_11, lit_12, lit_17, lit_20, lit_30, lit_31, lit_32, lit_47, lit_48, lit_60, lit_99, lit_100, lit_144, lit_200, lit_240, lit_300, lit_576, lit_960, lit_1008, lit_1000000, lit_100000000, true_implies, not_true_eq_false, false_implies, not_false_eq_true, true_and, and_true, neg_1, nI_add, pk_mul, nI_clamp, vp_nI, tI_lt, tI_le, tI_eq, tI_nI, tI_NN, tI_pred, mP, mW, mF, mG, mC, mN, mD, mB, pk_sub, Nat.add_sub_cancel]
            repeat' (first | refine Rn_and (by first | omega | assumption) ?_ | refine Rn_pos (by first | omega | assumption) ?_ | refine Rn_neg (by first | omega | assumption) ?_ | refine Rn_pos' (by first | omega | assumption) ?_ | refine Rn_neg' (by first | omega | assumption) ?_ | fail)
            first | exact Rn_ret (Agr rfl (Rel_ref R0 1)) | exact Rn_ret (Agr rfl (Rel_ref R0 2)) | exact Rn_ret (Agr rfl (Rel_ref R0 3)) | exact Rn_ret (Agr rfl (Rel_ref R0 4)) | exact Rn_ret (Agr rfl (Rel_ref R0 5)) | exact Rn_ret (Agr rfl (Rel_ref R0 6)) | exact Rn_ret (Agr rfl (Rel_ref R0 7)))
  · have hax : ¬ _ := fun z => ham (hiff.1 z)
    refine Rn_map (fun K => x_X7_meeting) ?_
    refine Rn_cI (Rn_mono (f_X7_areAllHere hF xF) ?_)
    rintro rx sx ⟨hsx, hrx⟩
    subst hsx
    have hrx := hrx.elim (fun z => absurd z.1 hax) (fun z => z.2)
    subst hrx
    simp (disch := omega) only [lit_0, lit_1, lit_2, lit_3, lit_4, lit_5, lit_6, lit_7, lit_8, lit_9, lit_10, lit_11, lit_12, lit_17, lit_20, lit_30, lit_31, lit_32, lit_47, lit_48, lit_60, lit_99, lit_100, lit_144, lit_200, lit_240, lit_300, lit_576, lit_960, lit_1008, lit_1000000, lit_100000000, true_implies, not_true_eq_false, false_implies, not_false_eq_true, true_and, and_true, neg_1, nI_add, pk_mul, nI_clamp, vp_nI, tI_lt, tI_le, tI_eq, tI_nI, tI_NN, tI_pred, xP, xW, xF, xG, xC, xN, xD, xB]
    repeat' (first | refine Rn_and (by first | omega | assumption) ?_ | refine Rn_pos (by first | omega | assumption) ?_ | refine Rn_neg (by first | omega | assumption) ?_ | refine Rn_pos' (by first | omega | assumption) ?_ | refine Rn_neg' (by first | omega | assumption) ?_ | fail)
    refine Rn_ret ?_
    refine Rn_map (fun K => x_X8_meeting) ?_
    refine Rn_cI (Rn_mono (f_X8_areFolk hF mF) ?_)
    rintro rm sm ⟨hsm, hrm⟩
    subst hsm
    have hrm := hrm.elim (fun z => absurd z.1 ham) (fun z => z.2)
    subst hrm
    simp (disch := omega) only [lit_0, lit_1, lit_2, lit_3, lit_4, lit_5, lit_6, lit_7, lit_8, lit_9, lit_10, lit_11, lit_12, lit_17, lit_20, lit_30, lit_31, lit_32, lit_47, lit_48, lit_60, lit_99, lit_100, lit_144, lit_200, lit_240, lit_300, lit_576, lit_960, lit_1008, lit_1000000, lit_100000000, true_implies, not_true_eq_false, false_implies, not_false_eq_true, true_and, and_true, neg_1, nI_add, pk_mul, nI_clamp, vp_nI, tI_lt, tI_le, tI_eq, tI_nI, tI_NN, tI_pred, mP, mW, mF, mG, mC, mN, mD, mB]
    repeat' (first | refine Rn_and (by first | omega | assumption) ?_ | refine Rn_pos (by first | omega | assumption) ?_ | refine Rn_neg (by first | omega | assumption) ?_ | refine Rn_pos' (by first | omega | assumption) ?_ | refine Rn_neg' (by first | omega | assumption) ?_ | fail)
    first | exact Rn_ret (Agr rfl (Rel_ref R0 1)) | exact Rn_ret (Agr rfl (Rel_ref R0 2)) | exact Rn_ret (Agr rfl (Rel_ref R0 3)) | exact Rn_ret (Agr rfl (Rel_ref R0 4)) | exact Rn_ret (Agr rfl (Rel_ref R0 5)) | exact Rn_ret (Agr rfl (Rel_ref R0 6)) | exact Rn_ret (Agr rfl (Rel_ref R0 7))


