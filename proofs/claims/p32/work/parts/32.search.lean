variable {κ : Nat → Nat → Nat → Prop}
/-! ===== the class's search ===== -/
theorem f_X2_stay {d f t p hm : Nat} {c : Nat → Int32} {s : Nat → Nat → Int32} {lk : Nat → Int32} {may : Nat → Nat → Bool} {ow L C : Nat → Int32} {σ : Mem} {P : Mem → Prop} (ht : t < 48) (hp : p < 12) (hh : hm < 12) (x18 : σ.1 18 0 t = c t) (x19 : σ.1 19 0 (p * 48 + t) = s p t) (x10 : σ.1 10 f p = lk p) (x9 : σ.1 9 f 4 = nI hm) (hP : P (mS σ ow (up L (12 * t + p) (v0P c s lk may hm L t p)) (up C (12 * t + p) (c0X may p t)))) : Rv (fun K => CalV IX (d + 1) S_X2_stay [ar 17 0, ar 9 f, ai (nI p), ai (nI t), ai (if may p t = true then nI 1 else nI 0)] (mS σ ow L C) K) P := by
  have r18 : (mS σ ow L C).1 18 0 t = c t := by rw [mS_o ⟨by omega, by omega, by omega⟩]; exact x18
  have r19 : (mS σ ow L C).1 19 0 (p * 48 + t) = s p t := by rw [mS_o ⟨by omega, by omega, by omega⟩]; exact x19
  have r10 : (mS σ ow L C).1 10 f p = lk p := by rw [mS_o ⟨by omega, by omega, by omega⟩]; exact x10
  have r9 : (mS σ ow L C).1 9 f 4 = nI hm := by rw [mS_o ⟨by omega, by omega, by omega⟩]; exact x9
  refine Rv_map (fun K => x_X2_stay) ?_
  unfold v0P c0X lateP at hP
  cases hmay : may p t with
  | false =>
    rw [hmay] at hP
    simp only [Bool.false_eq_true, ↓reduceIte] at hP ⊢
    simp (disch := omega) only [lit_0, lit_1, lit_2, lit_3, lit_4, lit_5, lit_6, lit_7, lit_8, lit_9, lit_10, lit_11, lit_12, lit_17, lit_20, lit_30, lit_31, lit_32, lit_47, lit_48, lit_60, lit_99, lit_100, lit_144, lit_200, lit_240, lit_300, lit_576, lit_960, lit_1008, lit_1000000, lit_100000000, true_implies, not_true_eq_false, false_implies, not_false_eq_true, true_and, and_true, neg_1, nI_add, pk_mul, nI_clamp, le_nI, lt_nI, eq_nI, vp_nI, nI_NN, NN_nI, NN_lt, NN_le, lt_NN, le_NN, m12, mS_21, r18, r19, r10, r9, mS_w21, mS_w22]
    by_cases h47 : t = 47
    · by_cases hpm : p = hm
      · rw [if_neg (by omega)] at hP
        repeat' (first | refine Rv_and (by first | omega | assumption) ?_ | refine Rv_pos (by first | omega | assumption) ?_ | refine Rv_neg (by first | omega | assumption) ?_ | refine Rv_pos' (by first | omega | assumption) ?_ | refine Rv_neg' (by first | omega | assumption) ?_ | fail)
        exact Rv_ret hP
      · rw [if_pos ⟨h47, hpm⟩] at hP
        repeat' (first | refine Rv_and (by first | omega | assumption) ?_ | refine Rv_pos (by first | omega | assumption) ?_ | refine Rv_neg (by first | omega | assumption) ?_ | refine Rv_pos' (by first | omega | assumption) ?_ | refine Rv_neg' (by first | omega | assumption) ?_ | fail)
        exact Rv_ret hP
    · rw [if_neg (by omega)] at hP
      repeat' (first | refine Rv_and (by first | omega | assumption) ?_ | refine Rv_pos (by first | omega | assumption) ?_ | refine Rv_neg (by first | omega | assumption) ?_ | refine Rv_pos' (by first | omega | assumption) ?_ | refine Rv_neg' (by first | omega | assumption) ?_ | fail)
      exact Rv_ret hP
  | true =>
    rw [hmay] at hP
    simp only [↓reduceIte] at hP ⊢
    simp (disch := omega) only [lit_0, lit_1, lit_2, lit_3, lit_4, lit_5, lit_6, lit_7, lit_8, lit_9, lit_10, lit_11, lit_12, lit_17, lit_20, lit_30, lit_31, lit_32, lit_47, lit_48, lit_60, lit_99, lit_100, lit_144, lit_200, lit_240, lit_300, lit_576, lit_960, lit_1008, lit_1000000, lit_100000000, true_implies, not_true_eq_false, false_implies, not_false_eq_true, true_and, and_true, neg_1, nI_add, pk_mul, nI_clamp, le_nI, lt_nI, eq_nI, vp_nI, nI_NN, NN_nI, NN_lt, NN_le, lt_NN, le_NN, m12, mS_21, r18, r19, r10, r9, mS_w21, mS_w22]
    by_cases h47 : t = 47
    · by_cases hpm : p = hm
      · rw [if_neg (by omega)] at hP
        repeat' (first | refine Rv_and (by first | omega | assumption) ?_ | refine Rv_pos (by first | omega | assumption) ?_ | refine Rv_neg (by first | omega | assumption) ?_ | refine Rv_pos' (by first | omega | assumption) ?_ | refine Rv_neg' (by first | omega | assumption) ?_ | fail)
        exact Rv_ret hP
      · rw [if_pos ⟨h47, hpm⟩] at hP
        repeat' (first | refine Rv_and (by first | omega | assumption) ?_ | refine Rv_pos (by first | omega | assumption) ?_ | refine Rv_neg (by first | omega | assumption) ?_ | refine Rv_pos' (by first | omega | assumption) ?_ | refine Rv_neg' (by first | omega | assumption) ?_ | fail)
        exact Rv_ret hP
    · rw [if_neg (by omega)] at hP
      repeat' (first | refine Rv_and (by first | omega | assumption) ?_ | refine Rv_pos (by first | omega | assumption) ?_ | refine Rv_neg (by first | omega | assumption) ?_ | refine Rv_pos' (by first | omega | assumption) ?_ | refine Rv_neg' (by first | omega | assumption) ?_ | fail)
      exact Rv_ret hP
theorem f_X2_goOn {d t p A : Nat} {c : Nat → Int32} {w : Nat → Nat → Nat} {ow L C : Nat → Int32} {σ : Mem} {P : Mem → Prop} (ht : t < 48) (hp : p < 12) (hA : A ≤ 12) (xA : σ.1 1 0 5 = nI A) (hw : ∀ q, q < 12 → 1 ≤ w p q ∧ (w p q ≤ 9 ∨ w p q = 1000000) ∧ σ.1 5 0 (12 * p + q) = if w p q = 1000000 then nI 0 else nI (w p q)) (how : ∀ t, t < 48 → ow (t + 1) = ow t + nI 3 + c t) (hP : P (mS σ ow (up L (12 * t + p) (bWv (us w p) (tF c w L t p) A (L (12 * t + p)))) (up C (12 * t + p) (bWc (us w p) (tF c w L t p) (fun q => nI (200 + 12 * p + q)) A (L (12 * t + p)) (C (12 * t + p)))))) : Rv (fun K => CalV IX (d + 2) S_X2_goOn [ar 17 0, ar 1 0, ai (nI p), ai (nI t)] (mS σ ow L C) K) P := by
  refine Rv_map (fun K => x_X2_goOn) (Rv_KV ?_)
  simp (disch := omega) only [lit_0, lit_1, lit_2, lit_3, lit_4, lit_5, lit_6, lit_7, lit_8, lit_9, lit_10, lit_11, lit_12, lit_17, lit_20, lit_30, lit_31, lit_32, lit_47, lit_48, lit_60, lit_99, lit_100, lit_144, lit_200, lit_240, lit_300, lit_576, lit_960, lit_1008, lit_1000000, lit_100000000, true_implies, not_true_eq_false, false_implies, not_false_eq_true, true_and, and_true, neg_1, nI_add, pk_mul, nI_clamp, le_nI, lt_nI, eq_nI, vp_nI, nI_NN, NN_nI, NN_lt, NN_le, lt_NN, le_NN]
  refine loopU (C := fun i s Q => J IX M_X2_goOn (d + 2) 3 [(0, ar 17 0), (1, ar 1 0), (2, ai (nI p)), (3, ai (nI t)), (4, ai (nI i))] [] s Q) (Inv := fun m s => s = mS σ ow (up L (12 * t + p) (bWv (us w p) (tF c w L t p) m (L (12 * t + p)))) (up C (12 * t + p) (bWc (us w p) (tF c w L t p) (fun q => nI (200 + 12 * p + q)) m (L (12 * t + p)) (C (12 * t + p))))) (n := A) ?_ ?_ (by omega) ?_
  · rintro q s hq hs ih
    obtain ⟨w1, w2, w3⟩ := hw q (by omega)
    have rA : s.1 1 0 5 = nI A := by rw [hs, mS_o ⟨by omega, by omega, by omega⟩]; exact xA
    have r5 : s.1 5 0 (12 * p + q) = if w p q = 1000000 then nI 0 else nI (w p q) := by rw [hs, mS_o ⟨by omega, by omega, by omega⟩]; exact w3
    have rL : s.1 21 0 (12 * t + p) = bWv (us w p) (tF c w L t p) q (L (12 * t + p)) := by rw [hs, mS_21, up_s]
    by_cases hF : w p q = 1000000
    · rw [if_pos hF] at r5
      refine Rn_map (fun Q => x_X2_goOn_3) ?_
      simp (disch := omega) only [lit_0, lit_1, lit_2, lit_3, lit_4, lit_5, lit_6, lit_7, lit_8, lit_9, lit_10, lit_11, lit_12, lit_17, lit_20, lit_30, lit_31, lit_32, lit_47, lit_48, lit_60, lit_99, lit_100, lit_144, lit_200, lit_240, lit_300, lit_576, lit_960, lit_1008, lit_1000000, lit_100000000, true_implies, not_true_eq_false, false_implies, not_false_eq_true, true_and, and_true, neg_1, nI_add, pk_mul, nI_clamp, le_nI, lt_nI, eq_nI, vp_nI, nI_NN, NN_nI, NN_lt, NN_le, lt_NN, le_NN, m12, rA, r5]
      repeat' (first | refine Rn_and (by first | omega | assumption) ?_ | refine Rn_pos (by first | omega | assumption) ?_ | refine Rn_neg (by first | omega | assumption) ?_ | refine Rn_pos' (by first | omega | assumption) ?_ | refine Rn_neg' (by first | omega | assumption) ?_ | fail)
      refine ih _ ?_
      have hu : ¬ (us w p q = true ∧ tF c w L t p q < bWv (us w p) (tF c w L t p) q (L (12 * t + p))) := by
        intro z
        have := z.1
        simp [us, hF] at this
      rw [hs, bWv, bWc, if_neg hu, if_neg hu]
    · rw [if_neg hF] at r5
      refine Rn_map (fun Q => x_X2_goOn_3) ?_
      simp (disch := omega) only [lit_0, lit_1, lit_2, lit_3, lit_4, lit_5, lit_6, lit_7, lit_8, lit_9, lit_10, lit_11, lit_12, lit_17, lit_20, lit_30, lit_31, lit_32, lit_47, lit_48, lit_60, lit_99, lit_100, lit_144, lit_200, lit_240, lit_300, lit_576, lit_960, lit_1008, lit_1000000, lit_100000000, true_implies, not_true_eq_false, false_implies, not_false_eq_true, true_and, and_true, neg_1, nI_add, pk_mul, nI_clamp, le_nI, lt_nI, eq_nI, vp_nI, nI_NN, NN_nI, NN_lt, NN_le, lt_NN, le_NN, m12, rA, r5]
      repeat' (first | refine Rn_and (by first | omega | assumption) ?_ | refine Rn_pos (by first | omega | assumption) ?_ | refine Rn_neg (by first | omega | assumption) ?_ | refine Rn_pos' (by first | omega | assumption) ?_ | refine Rn_neg' (by first | omega | assumption) ?_ | fail)
      have hu : us w p q = true := by simp [us, hF]
      have step : ∀ v, v = tF c w L t p q → Rn (fun K => (s.1 21 0 (12 * t + p) ≤ v → J IX M_X2_goOn (d + 2) 3 [(0, ar 17 0), (1, ar 1 0), (2, ai (nI p)), (3, ai (nI t)), (4, ai (nI (q + 1)))] [] s K) ∧ (¬ s.1 21 0 (12 * t + p) ≤ v → 12 * t + p < 588 ∧ 12 * t + p < 576 ∧ J IX M_X2_goOn (d + 2) 3 [(0, ar 17 0), (1, ar 1 0), (2, ai (nI p)), (3, ai (nI t)), (4, ai (nI (q + 1)))] [] (wI (wI s 21 0 (12 * t + p) v) 22 0 (12 * t + p) (nI (200 + 12 * p + q))) K)) (fun v s => v = none ∧ P s) := by
        intro v hv
        subst hv
        rw [rL]
        refine Rn_if (fun h => ?_) (fun h => ?_)
        · refine ih _ ?_
          have hn : ¬ (us w p q = true ∧ tF c w L t p q < bWv (us w p) (tF c w L t p) q (L (12 * t + p))) := by
            intro z
            have z2 := z.2
            rw [tI_le] at h
            rw [tI_lt] at z2
            omega
          rw [hs, bWv, bWc, if_neg hn, if_neg hn]
        · refine Rn_and (by omega) (Rn_and (by omega) (ih _ ?_))
          have hn : (us w p q = true ∧ tF c w L t p q < bWv (us w p) (tF c w L t p) q (L (12 * t + p))) := by
            refine ⟨hu, ?_⟩
            rw [tI_le] at h
            rw [tI_lt]
            omega
          rw [hs, mS_w21, mS_w22, bWv, bWc, if_pos hn, if_pos hn, up_up, up_up]
      refine Rn_cI (Rn_map (fun K => x_X2_costOfWay) ?_)
      have o1 := owW how t
      by_cases h48 : t + w p q < 48
      · have r21 : s.1 21 0 (12 * (t + w p q) + q) = L (12 * (t + w p q) + q) := by rw [hs, mS_21, up_o (by omega)]
        have rE : s.1 20 0 (t + w p q) = ow (t + w p q) := by rw [hs, mS_20]
        have rT : s.1 20 0 t = ow t := by rw [hs, mS_20]
        simp (disch := omega) only [lit_0, lit_1, lit_2, lit_3, lit_4, lit_5, lit_6, lit_7, lit_8, lit_9, lit_10, lit_11, lit_12, lit_17, lit_20, lit_30, lit_31, lit_32, lit_47, lit_48, lit_60, lit_99, lit_100, lit_144, lit_200, lit_240, lit_300, lit_576, lit_960, lit_1008, lit_1000000, lit_100000000, true_implies, not_true_eq_false, false_implies, not_false_eq_true, true_and, and_true, neg_1, nI_add, pk_mul, nI_clamp, le_nI, lt_nI, eq_nI, vp_nI, nI_NN, NN_nI, NN_lt, NN_le, lt_NN, le_NN, m12, r21, rE, rT]
        repeat' (first | refine Rn_and (by first | omega | assumption) ?_ | refine Rn_pos (by first | omega | assumption) ?_ | refine Rn_neg (by first | omega | assumption) ?_ | refine Rn_pos' (by first | omega | assumption) ?_ | refine Rn_neg' (by first | omega | assumption) ?_ | fail)
        refine Rn_ret ?_
        repeat' (first | refine Rn_and (by first | omega | assumption) ?_ | refine Rn_pos (by first | omega | assumption) ?_ | refine Rn_neg (by first | omega | assumption) ?_ | refine Rn_pos' (by first | omega | assumption) ?_ | refine Rn_neg' (by first | omega | assumption) ?_ | fail)
        refine step _ ?_
        rw [tF, if_pos h48, o1 (w p q) (by omega), if_neg (by omega), add_nI0]
      · have rE : s.1 20 0 48 = ow 48 := by rw [hs, mS_20]
        have rT : s.1 20 0 t = ow t := by rw [hs, mS_20]
        simp (disch := omega) only [lit_0, lit_1, lit_2, lit_3, lit_4, lit_5, lit_6, lit_7, lit_8, lit_9, lit_10, lit_11, lit_12, lit_17, lit_20, lit_30, lit_31, lit_32, lit_47, lit_48, lit_60, lit_99, lit_100, lit_144, lit_200, lit_240, lit_300, lit_576, lit_960, lit_1008, lit_1000000, lit_100000000, true_implies, not_true_eq_false, false_implies, not_false_eq_true, true_and, and_true, neg_1, nI_add, pk_mul, nI_clamp, le_nI, lt_nI, eq_nI, vp_nI, nI_NN, NN_nI, NN_lt, NN_le, lt_NN, le_NN, m12, rE, rT]
        repeat' (first | refine Rn_and (by first | omega | assumption) ?_ | refine Rn_pos (by first | omega | assumption) ?_ | refine Rn_neg (by first | omega | assumption) ?_ | refine Rn_pos' (by first | omega | assumption) ?_ | refine Rn_neg' (by first | omega | assumption) ?_ | fail)
        refine Rn_ret ?_
        repeat' (first | refine Rn_and (by first | omega | assumption) ?_ | refine Rn_pos (by first | omega | assumption) ?_ | refine Rn_neg (by first | omega | assumption) ?_ | refine Rn_pos' (by first | omega | assumption) ?_ | refine Rn_neg' (by first | omega | assumption) ?_ | fail)
        refine step _ ?_
        rw [tF, if_neg h48, o1 (48 - t) (by omega), if_pos (by omega), add_nI0, show t + (48 - t) = 48 by omega]
  · rintro s hs
    have rA : s.1 1 0 5 = nI A := by rw [hs, mS_o ⟨by omega, by omega, by omega⟩]; exact xA
    refine Rn_map (fun Q => x_X2_goOn_3) ?_
    simp (disch := omega) only [lit_0, lit_1, lit_2, lit_3, lit_4, lit_5, lit_6, lit_7, lit_8, lit_9, lit_10, lit_11, lit_12, lit_17, lit_20, lit_30, lit_31, lit_32, lit_47, lit_48, lit_60, lit_99, lit_100, lit_144, lit_200, lit_240, lit_300, lit_576, lit_960, lit_1008, lit_1000000, lit_100000000, true_implies, not_true_eq_false, false_implies, not_false_eq_true, true_and, and_true, neg_1, nI_add, pk_mul, nI_clamp, le_nI, lt_nI, eq_nI, vp_nI, nI_NN, NN_nI, NN_lt, NN_le, lt_NN, le_NN, rA]
    repeat' (first | refine Rn_and (by first | omega | assumption) ?_ | refine Rn_pos (by first | omega | assumption) ?_ | refine Rn_neg (by first | omega | assumption) ?_ | refine Rn_pos' (by first | omega | assumption) ?_ | refine Rn_neg' (by first | omega | assumption) ?_ | fail)
    rw [hs]
    exact Rn_ret ⟨rfl, hP⟩
  · rw [bWv, bWc]
    congr 1
    · funext x
      unfold up
      split
      · rename_i h; rw [h]
      · rfl
    · funext x
      unfold up
      split
      · rename_i h; rw [h]
      · rfl
theorem f_X2_mayBeIn {d f t p a b : Nat} {may : Bool} {L : Int32} {σ : Mem} {P : Int32 → Mem → Prop} (ht : t < 48) (hp : p < 12) (ha : a ≤ 48) (hb : b ≤ 48) (x3 : σ.1 3 0 p = nI a) (x4 : σ.1 4 0 p = nI b) (hmay : (may = true) ↔ ((a ≤ t ∧ t < b) ∨ bt (σ.1 9 f 5) p = true) ∧ bt L p = false ∧ (σ.1 16 0 (48 * p + t)).toInt < (σ.1 2 0 p).toInt) (hP : P (if may = true then nI 1 else nI 0) σ) : Rn (fun K => CalI IX (d + 2) S_X2_mayBeIn [ar 9 f, ai (nI p), ai (nI t), ar 1 0, ar 15 0, ai L] σ K) P := by
  refine Rn_map (fun K => x_X2_mayBeIn) ?_
  have m48 : p * 48 + t = 48 * p + t := by omega
  simp (disch := omega) only [lit_0, lit_1, lit_2, lit_3, lit_4, lit_5, lit_6, lit_7, lit_8, lit_9, lit_10, lit_11, lit_12, lit_17, lit_20, lit_30, lit_31, lit_32, lit_47, lit_48, lit_60, lit_99, lit_100, lit_144, lit_200, lit_240, lit_300, lit_576, lit_960, lit_1008, lit_1000000, lit_100000000, true_implies, not_true_eq_false, false_implies, not_false_eq_true, true_and, and_true, neg_1, nI_add, pk_mul, nI_clamp, le_nI, lt_nI, eq_nI, vp_nI, nI_NN, NN_nI, NN_lt, NN_le, lt_NN, le_NN, x3, x4, bz_u, m48]
  have yes : may = true → P (nI 1) σ := fun h => by rw [if_pos h] at hP; exact hP
  have no : ¬ may = true → P (nI 0) σ := fun h => by rw [if_neg h] at hP; exact hP
  repeat' (first | refine Rn_and (by first | omega | assumption) ?_ | refine Rn_pos (by first | omega | assumption) ?_ | refine Rn_neg (by first | omega | assumption) ?_ | refine Rn_pos' (by first | omega | assumption) ?_ | refine Rn_neg' (by first | omega | assumption) ?_ | refine Rn_if (fun _ => ?_) (fun _ => ?_) | refine Rn_if' (fun _ => ?_) (fun _ => ?_) | fail)
  all_goals (
    refine Rn_ret ?_
    try simp only [tI_le, Bool.not_eq_false] at *
    first
      | exact yes (hmay.2 ⟨by first | exact Or.inl ⟨by omega, by omega⟩ | exact Or.inr (by assumption), by assumption, by omega⟩)
      | exact no (fun h => by
          obtain ⟨h1, h2, h3⟩ := hmay.1 h
          grind))
theorem f_X2_search {d f hm free A : Nat} {aH bH : Nat → Nat} {c : Nat → Int32} {s : Nat → Nat → Int32} {lk : Nat → Int32} {may : Nat → Nat → Bool} {w : Nat → Nat → Nat} {LK : Int32} {σ : Mem} {P : Mem → Prop} (hA : A ≤ 12) (hfree : free ≤ 48) (xA : σ.1 1 0 5 = nI A) (hh : hm < 12) (x18 : ∀ t, t < 48 → σ.1 18 0 t = c t) (x19 : ∀ p t, p < 12 → t < 48 → σ.1 19 0 (p * 48 + t) = s p t) (x10 : ∀ p, p < 12 → σ.1 10 f p = lk p) (x9 : σ.1 9 f 4 = nI hm) (hw : ∀ p q, p < 12 → q < 12 → 1 ≤ w p q ∧ (w p q ≤ 9 ∨ w p q = 1000000) ∧ σ.1 5 0 (12 * p + q) = if w p q = 1000000 then nI 0 else nI (w p q)) (xH : ∀ p, p < A → aH p ≤ 48 ∧ bH p ≤ 48 ∧ σ.1 3 0 p = nI (aH p) ∧ σ.1 4 0 p = nI (bH p)) (hmay : ∀ p t, p < A → t < 48 → ((may p t = true) ↔ ((aH p ≤ t ∧ t < bH p) ∨ bt (σ.1 9 f 5) p = true) ∧ bt LK p = false ∧ (σ.1 16 0 (48 * p + t)).toInt < (σ.1 2 0 p).toInt)) (hrow : ∀ p, p < 12 → σ.1 21 0 (576 + p) = nI 0) (hP : ∀ ow L C, (∀ t, t < 48 → ow (t + 1) = ow t + nI 3 + c t) → (∀ t p, free ≤ t → t < 48 → p < A → PXp c s lk may hm w A (fun p q => nI (200 + 12 * p + q)) (c0X may) L C t p) → (∀ p, p < 12 → L (576 + p) = nI 0) → P (mS σ ow L C)) : Rv (fun K => CalV IX (d + 3) S_X2_search [ar 17 0, ar 9 f, ar 1 0, ar 15 0, ai LK, ai (nI free)] σ K) P := by
  refine Rv_map (fun K => x_X2_search) (Rv_KV ?_)
  simp (disch := omega) only [lit_0, lit_1, lit_2, lit_3, lit_4, lit_5, lit_6, lit_7, lit_8, lit_9, lit_10, lit_11, lit_12, lit_17, lit_20, lit_30, lit_31, lit_32, lit_47, lit_48, lit_60, lit_99, lit_100, lit_144, lit_200, lit_240, lit_300, lit_576, lit_960, lit_1008, lit_1000000, lit_100000000, true_implies, not_true_eq_false, false_implies, not_false_eq_true, true_and, and_true, neg_1, nI_add, pk_mul, nI_clamp, le_nI, lt_nI, eq_nI, vp_nI, nI_NN, NN_nI, NN_lt, NN_le, lt_NN, le_NN]
  refine loopU (C := fun i s Q => J IX M_X2_search (d + 3) 3 [(0, ar 17 0), (1, ar 9 f), (2, ar 1 0), (3, ar 15 0), (4, ai LK), (5, ai (nI free)), (6, ai (nI i))] [] s Q) (Inv := fun n s => ∃ ow, s = mS σ ow (σ.1 21 0) (σ.1 22 0) ∧ ∀ t, t < n → ow (t + 1) = ow t + nI 3 + c t) (n := 48) ?_ ?_ (by omega) ⟨σ.1 20 0, (mS_id σ).symm, fun t ht => by omega⟩
  · rintro t s' ht ⟨ow, hs, how⟩ ih
    have r18 : s'.1 18 0 t = c t := by rw [hs, mS_o ⟨by omega, by omega, by omega⟩]; exact x18 t ht
    have r20 : s'.1 20 0 t = ow t := by rw [hs, mS_20]
    refine Rn_map (fun Q => x_X2_search_3) ?_
    simp (disch := omega) only [lit_0, lit_1, lit_2, lit_3, lit_4, lit_5, lit_6, lit_7, lit_8, lit_9, lit_10, lit_11, lit_12, lit_17, lit_20, lit_30, lit_31, lit_32, lit_47, lit_48, lit_60, lit_99, lit_100, lit_144, lit_200, lit_240, lit_300, lit_576, lit_960, lit_1008, lit_1000000, lit_100000000, true_implies, not_true_eq_false, false_implies, not_false_eq_true, true_and, and_true, neg_1, nI_add, pk_mul, nI_clamp, le_nI, lt_nI, eq_nI, vp_nI, nI_NN, NN_nI, NN_lt, NN_le, lt_NN, le_NN, r18, r20]
    repeat' (first | refine Rn_and (by first | omega | assumption) ?_ | refine Rn_pos (by first | omega | assumption) ?_ | refine Rn_neg (by first | omega | assumption) ?_ | refine Rn_pos' (by first | omega | assumption) ?_ | refine Rn_neg' (by first | omega | assumption) ?_ | fail)
    rw [hs, mS_w20]
    refine ih _ ⟨_, rfl, fun u hu => ?_⟩
    by_cases e : u = t
    · subst e
      rw [up_s, up_o (by omega)]
    · rw [up_o (by omega), up_o (by omega)]
      exact how u (by omega)
  · rintro s' ⟨ow, hs, how⟩
    refine Rn_map (fun Q => x_X2_search_3) ?_
    simp (disch := omega) only [lit_0, lit_1, lit_2, lit_3, lit_4, lit_5, lit_6, lit_7, lit_8, lit_9, lit_10, lit_11, lit_12, lit_17, lit_20, lit_30, lit_31, lit_32, lit_47, lit_48, lit_60, lit_99, lit_100, lit_144, lit_200, lit_240, lit_300, lit_576, lit_960, lit_1008, lit_1000000, lit_100000000, true_implies, not_true_eq_false, false_implies, not_false_eq_true, true_and, and_true, neg_1, nI_add, pk_mul, nI_clamp, le_nI, lt_nI, eq_nI, vp_nI, nI_NN, NN_nI, NN_lt, NN_le, lt_NN, le_NN]
    repeat' (first | refine Rn_and (by first | omega | assumption) ?_ | refine Rn_pos (by first | omega | assumption) ?_ | refine Rn_neg (by first | omega | assumption) ?_ | refine Rn_pos' (by first | omega | assumption) ?_ | refine Rn_neg' (by first | omega | assumption) ?_ | fail)
    refine loopU (i := 0) (C := fun i s Q => J IX M_X2_search (d + 3) 46 [(0, ar 17 0), (1, ar 9 f), (2, ar 1 0), (3, ar 15 0), (4, ai LK), (5, ai (nI free)), (6, ai (dI (48 - i)))] [] s Q) (Inv := fun n s'' => ∃ L C, s'' = mS σ ow L C ∧ (∀ t p, 48 - n ≤ t → t < 48 → p < A → PXp c s lk may hm w A (fun p q => nI (200 + 12 * p + q)) (c0X may) L C t p) ∧ ∀ p, p < 12 → L (576 + p) = nI 0) (n := 48 - free) ?_ ?_ (by omega) ⟨_, _, hs, fun t p h1 h2 => by omega, hrow⟩
    · rintro k s2 hk ⟨L, C, hs2, hall, hr⟩ ih
      obtain ⟨t, ht⟩ : ∃ t, t = 47 - k := ⟨_, rfl⟩
      have et : 48 - k = t + 1 := by omega
      rw [et]
      show Rn (fun Q => J IX M_X2_search (d + 3) 46 [(0, ar 17 0), (1, ar 9 f), (2, ar 1 0), (3, ar 15 0), (4, ai LK), (5, ai (nI free)), (6, ai (nI t))] [] s2 Q) _
      refine Rn_map (fun Q => x_X2_search_46) ?_
      simp (disch := omega) only [lit_0, lit_1, lit_2, lit_3, lit_4, lit_5, lit_6, lit_7, lit_8, lit_9, lit_10, lit_11, lit_12, lit_17, lit_20, lit_30, lit_31, lit_32, lit_47, lit_48, lit_60, lit_99, lit_100, lit_144, lit_200, lit_240, lit_300, lit_576, lit_960, lit_1008, lit_1000000, lit_100000000, true_implies, not_true_eq_false, false_implies, not_false_eq_true, true_and, and_true, neg_1, nI_add, pk_mul, nI_clamp, le_nI, lt_nI, eq_nI, vp_nI, nI_NN, NN_nI, NN_lt, NN_le, lt_NN, le_NN]
      repeat' (first | refine Rn_and (by first | omega | assumption) ?_ | refine Rn_pos (by first | omega | assumption) ?_ | refine Rn_neg (by first | omega | assumption) ?_ | refine Rn_pos' (by first | omega | assumption) ?_ | refine Rn_neg' (by first | omega | assumption) ?_ | fail)
      refine loopU (C := fun i s Q => J IX M_X2_search (d + 3) 56 [(0, ar 17 0), (1, ar 9 f), (2, ar 1 0), (3, ar 15 0), (4, ai LK), (5, ai (nI free)), (6, ai (nI t)), (7, ai (nI i))] [] s Q) (Inv := fun m s'' => ∃ L C, s'' = mS σ ow L C ∧ (∀ t' p, t < t' ∨ (t' = t ∧ p < m) → t' < 48 → p < A → PXp c s lk may hm w A (fun p q => nI (200 + 12 * p + q)) (c0X may) L C t' p) ∧ ∀ p, p < 12 → L (576 + p) = nI 0) (n := A) ?_ ?_ (by omega) ⟨L, C, hs2, fun t' p h1 h2 h3 => hall t' p (by omega) h2 h3, hr⟩
      · rintro p s3 hp ⟨L3, C3, hs3, hall3, hr3⟩ ihp
        have rA : s3.1 1 0 5 = nI A := by rw [hs3, mS_o ⟨by omega, by omega, by omega⟩]; exact xA
        have rk : ∀ k i j, k ≠ 20 ∧ k ≠ 21 ∧ k ≠ 22 → s3.1 k i j = σ.1 k i j := by
          intro k i j h
          rw [hs3, mS_o h]
        obtain ⟨i1, i2, i3, i4⟩ := xH p hp
        refine Rn_map (fun Q => x_X2_search_56) ?_
        simp (disch := omega) only [lit_0, lit_1, lit_2, lit_3, lit_4, lit_5, lit_6, lit_7, lit_8, lit_9, lit_10, lit_11, lit_12, lit_17, lit_20, lit_30, lit_31, lit_32, lit_47, lit_48, lit_60, lit_99, lit_100, lit_144, lit_200, lit_240, lit_300, lit_576, lit_960, lit_1008, lit_1000000, lit_100000000, true_implies, not_true_eq_false, false_implies, not_false_eq_true, true_and, and_true, neg_1, nI_add, pk_mul, nI_clamp, le_nI, lt_nI, eq_nI, vp_nI, nI_NN, NN_nI, NN_lt, NN_le, lt_NN, le_NN, rA]
        repeat' (first | refine Rn_and (by first | omega | assumption) ?_ | refine Rn_pos (by first | omega | assumption) ?_ | refine Rn_neg (by first | omega | assumption) ?_ | refine Rn_pos' (by first | omega | assumption) ?_ | refine Rn_neg' (by first | omega | assumption) ?_ | fail)
        refine Rn_cI (f_X2_mayBeIn (may := may p t) (by omega) (by omega) i1 i2 (by rw [rk _ _ _ ⟨by omega, by omega, by omega⟩]; exact i3) (by rw [rk _ _ _ ⟨by omega, by omega, by omega⟩]; exact i4) (by rw [rk _ _ _ ⟨by omega, by omega, by omega⟩, rk _ _ _ ⟨by omega, by omega, by omega⟩, rk _ _ _ ⟨by omega, by omega, by omega⟩]; exact hmay p t hp (by omega)) ?_)
        rw [hs3]
        refine Rn_cV (f_X2_stay (hm := hm) (by omega) (by omega) hh (x18 t (by omega)) (x19 p t (by omega) (by omega)) (x10 p (by omega)) x9 ?_)
        refine Rn_cV (f_X2_goOn (c := c) (w := w) (by omega) (by omega) hA xA (fun q hq => hw p q (by omega) hq) how ?_)
        rw [up_s, up_s, up_up, up_up]
        refine ihp _ ⟨_, _, rfl, fun t' p' h1 h2 h3 => ?_, fun p' hp' => ?_⟩
        · have hLn : ∀ j, 12 * (t + 1) ≤ j → ∀ v, up L3 (12 * t + p) v j = L3 j := fun j hj v => up_o (by omega)
          by_cases e : t' = t ∧ p' = p
          · obtain ⟨e1, e2⟩ := e
            subst e1
            subst e2
            have T1 : ∀ v v' q, q < A → tF c w (up L3 (12 * t' + p') v) t' p' q = tF c w (up L3 (12 * t' + p') v') t' p' q := by
              intro v v' q hq
              rw [tF_c (fun j hj => hLn j hj v) (hw p' q (by omega) (by omega)).1, tF_c (fun j hj => hLn j hj v') (hw p' q (by omega) (by omega)).1]
            have V1 : ∀ v, v0P c s lk may hm (up L3 (12 * t' + p') v) t' p' = v0P c s lk may hm L3 t' p' := fun v => v0P_c (fun j hj => hLn j hj v)
            refine ⟨?_, ?_⟩
            · rw [up_s, V1]
              exact bWv_c (fun q hq => T1 _ _ q hq)
            · rw [up_s, V1]
              exact bWc_c (fun q hq => T1 _ _ q hq)
          · have g := hall3 t' p' (by omega) h2 h3
            refine PXp_c (fun q hq => (hw p' q (by omega) (by omega)).1) (fun j hj => up_o (by omega)) (up_o (by omega)) (up_o (by omega)) g
        · rw [up_o (by omega)]
          exact hr3 p' hp'
      · rintro s3 ⟨L3, C3, hs3, hall3, hr3⟩
        have rA : s3.1 1 0 5 = nI A := by rw [hs3, mS_o ⟨by omega, by omega, by omega⟩]; exact xA
        refine Rn_map (fun Q => x_X2_search_56) ?_
        simp (disch := omega) only [lit_0, lit_1, lit_2, lit_3, lit_4, lit_5, lit_6, lit_7, lit_8, lit_9, lit_10, lit_11, lit_12, lit_17, lit_20, lit_30, lit_31, lit_32, lit_47, lit_48, lit_60, lit_99, lit_100, lit_144, lit_200, lit_240, lit_300, lit_576, lit_960, lit_1008, lit_1000000, lit_100000000, true_implies, not_true_eq_false, false_implies, not_false_eq_true, true_and, and_true, neg_1, nI_add, pk_mul, nI_clamp, le_nI, lt_nI, eq_nI, vp_nI, nI_NN, NN_nI, NN_lt, NN_le, lt_NN, le_NN, rA]
        repeat' (first | refine Rn_and (by first | omega | assumption) ?_ | refine Rn_pos (by first | omega | assumption) ?_ | refine Rn_neg (by first | omega | assumption) ?_ | refine Rn_pos' (by first | omega | assumption) ?_ | refine Rn_neg' (by first | omega | assumption) ?_ | fail)
        rw [show nI t + NN = dI (48 - (k + 1)) by rw [show 48 - (k + 1) = t by omega]; exact dI_dn t]
        exact ih _ ⟨L3, C3, hs3, fun t' p h1 h2 h3 => hall3 t' p (by omega) h2 h3, hr3⟩
    · rintro s2 ⟨L, C, hs2, hall, hr⟩
      have et : 48 - (48 - free) = free := by omega
      rw [et] at hall ⊢
      refine Rn_map (fun Q => x_X2_search_46) ?_
      simp (disch := omega) only [lit_0, lit_1, lit_2, lit_3, lit_4, lit_5, lit_6, lit_7, lit_8, lit_9, lit_10, lit_11, lit_12, lit_17, lit_20, lit_30, lit_31, lit_32, lit_47, lit_48, lit_60, lit_99, lit_100, lit_144, lit_200, lit_240, lit_300, lit_576, lit_960, lit_1008, lit_1000000, lit_100000000, true_implies, not_true_eq_false, false_implies, not_false_eq_true, true_and, and_true, neg_1, nI_add, pk_mul, nI_clamp, le_nI, lt_nI, eq_nI, vp_nI, nI_NN, NN_nI, NN_lt, NN_le, lt_NN, le_NN, dI_lt]
      refine Rn_ret ⟨rfl, ?_⟩
      rw [hs2]
      exact hP ow L C how hall hr

