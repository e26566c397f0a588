variable {κ : Nat → Nat → Nat → Prop}
theorem v0P_b {c : Nat → Int32} {s : Nat → Nat → Int32} {lk : Nat → Int32} {cn : Nat → Nat} {sn : Nat → Nat → Nat} {ln : Nat → Nat} {may : Nat → Nat → Bool} {hm t p B : Nat} {L : Nat → Int32} (ht : t < 48) (hB : B < 1000000) (hc : c t = nI (cn t) ∧ cn t ≤ 2400) (hs : s p t = nI (sn p t) ∧ sn p t ≤ 2400) (hl : lk p = nI (ln p) ∧ ln p ≤ 9) (hL : bnd (L (12 * (t + 1) + p)) B) : bnd (v0P c s lk may hm L t p) (B + 6000) ∧ (((c t + nI 20) + lateP hm p t) + L (12 * (t + 1) + p)).toInt < 100000000 ∧ ((((c t - s p t) + nI 9) - lk p) + lateP hm p t + L (12 * (t + 1) + p)).toInt ≤ (((c t + nI 20) + lateP hm p t) + L (12 * (t + 1) + p)).toInt := by
  obtain ⟨c1, c2⟩ := hc
  obtain ⟨s1, s2⟩ := hs
  obtain ⟨l1, l2⟩ := hl
  have bl : bnd (lateP hm p t) 300 := by
    unfold lateP
    split
    · exact bnd_nI (by omega)
    · exact bnd_le (bnd_nI (by omega) : bnd (nI 0) 0) (by omega)
  have bc : bnd (c t) 2400 := by rw [c1]; exact bnd_le (bnd_nI (by omega)) c2
  have bs : bnd (s p t) 2400 := by rw [s1]; exact bnd_le (bnd_nI (by omega)) s2
  have bk : bnd (lk p) 9 := by rw [l1]; exact bnd_le (bnd_nI (by omega)) l2
  have b9 : bnd (nI 9) 9 := bnd_nI (by omega)
  have b20 : bnd (nI 20) 20 := bnd_nI (by omega)
  have r1 := bnd_add (bnd_add hL bc (by omega)).1 bl (by omega)
  have o1 := bnd_add bc b20 (by omega)
  have o2 := bnd_add o1.1 bl (by omega)
  have o3 := bnd_add o2.1 hL (by omega)
  have i1 := bnd_sub bc bs (by omega)
  have i2 := bnd_add i1.1 b9 (by omega)
  have i3 := bnd_sub i2.1 bk (by omega)
  have i4 := bnd_add i3.1 bl (by omega)
  have i5 := bnd_add i4.1 hL (by omega)
  have j1 := bnd_sub b9 bk (by omega)
  have j2 := bnd_sub j1.1 bs (by omega)
  have ks : (s p t).toInt = sn p t := by rw [s1, nI_toInt (by omega)]
  have kl : (lk p).toInt = ln p := by rw [l1, nI_toInt (by omega)]
  have k9 : (nI 9).toInt = 9 := nI_toInt (by omega)
  have k20 : (nI 20).toInt = 20 := nI_toInt (by omega)
  refine ⟨?_, ?_, ?_⟩
  · unfold v0P
    split
    · exact bnd_le (bnd_add r1.1 j2.1 (by omega)).1 (by omega)
    · exact bnd_le (bnd_add r1.1 b20 (by omega)).1 (by omega)
  · have := o3.1.2
    omega
  · rw [i5.2, i4.2, i3.2, i2.2, i1.2, o3.2, o2.2, o1.2, ks, kl, k9, k20]
    omega
theorem f_X8_chooses {d f t p hm A B a b : Nat} {c : Nat → Int32} {s : Nat → Nat → Int32} {lk : Nat → Int32} {cn : Nat → Nat} {sn : Nat → Nat → Nat} {ln : Nat → Nat} {may : Nat → Nat → Bool} {w : Nat → Nat → Nat} {L C : Nat → Int32} {σ : Mem} {P : Mem → Prop} (hf : f < 20) (ht : t < 48) (hp : p < A) (hA : A ≤ 12) (hh : hm < 12) (hB : B < 1000000) (mA : σ.1 30 0 5 = nI A) (x61 : ∀ t, t < 48 → σ.1 61 0 t = c t) (x62 : σ.1 62 0 (12 * t + p) = s p t) (x40 : σ.1 40 0 (12 * f + p) = lk p) (x38 : σ.1 38 0 f = nI hm) (hw : ∀ q, q < 12 → 1 ≤ w p q ∧ (w p q ≤ 9 ∨ w p q = 1000000) ∧ σ.1 36 0 (12 * p + q) = nI (w p q)) (hc : c t = nI (cn t) ∧ cn t ≤ 2400) (hs : s p t = nI (sn p t) ∧ sn p t ≤ 2400) (hl : lk p = nI (ln p) ∧ ln p ≤ 9) (hL : bnd (L (12 * (t + 1) + p)) B) (hab : a < b) (hb : b ≤ 48) (x3 : σ.1 33 0 p = nI a) (x4 : σ.1 34 0 p = nI b) (hmay : (may p t = true) ↔ ((a ≤ t ∧ t < b) ∨ bt (σ.1 39 0 f) p = true) ∧ σ.1 35 0 p = nI 0 ∧ (σ.1 48 0 (48 * p + t)).toInt < (σ.1 32 0 p).toInt) (hP : P (mT σ (up L (12 * t + p) (bWv (us w p) (tF c w L t p) A (v0P c s lk may hm L t p))) (up C (12 * t + p) (bWc (us w p) (tF c w L t p) (fun q => nI (2 + q)) A (v0P c s lk may hm L t p) (if may p t = true then nI 0 else nI 1))))) : Rv (fun K => CalV IM (d + 3) S_X8_chooses [ar 30 0, ai (nI f), ai (nI t), ai (nI p)] (mT σ L C) K) P := by
  have rk : ∀ k i j, k ≠ 63 ∧ k ≠ 64 → (mT σ L C).1 k i j = σ.1 k i j := fun k i j h => mT_o h
  obtain ⟨bb1, bb2, bb3⟩ := v0P_b (may := may) (hm := hm) ht hB hc hs hl hL
  have r61 : ∀ t, t < 48 → (mT σ L C).1 61 0 t = c t := fun u hu => (rk _ _ _ ⟨by omega, by omega⟩).trans (x61 u hu)
  have r62 : (mT σ L C).1 62 0 (12 * t + p) = s p t := (rk _ _ _ ⟨by omega, by omega⟩).trans x62
  have r40 : (mT σ L C).1 40 0 (12 * f + p) = lk p := (rk _ _ _ ⟨by omega, by omega⟩).trans x40
  have r38 : (mT σ L C).1 38 0 f = nI hm := (rk _ _ _ ⟨by omega, by omega⟩).trans x38
  have rA : (mT σ L C).1 30 0 5 = nI A := (rk _ _ _ ⟨by omega, by omega⟩).trans mA
  have e12 : 12 * t + p + 12 = 12 * (t + 1) + p := by omega
  have loop : Rn (fun Q => J IM M_X8_chooses (d + 3) 104 [(0, ar 30 0), (2, ai (nI t)), (3, ai (nI p)), (4, ai (nI (12 * t + p))), (5, ai (v0P c s lk may hm L t p)), (6, ai (if may p t = true then nI 0 else nI 1)), (8, ai (nI 0))] [] (mT σ L C) Q) (fun v s => v = none ∧ P s) := by
    refine loopU (i := 0) (C := fun i (b : Int32 × Int32) Q => J IM M_X8_chooses (d + 3) 104 [(0, ar 30 0), (2, ai (nI t)), (3, ai (nI p)), (4, ai (nI (12 * t + p))), (5, ai b.1), (6, ai b.2), (8, ai (nI i))] [] (mT σ L C) Q) (Inv := fun m b => b.1 = bWv (us w p) (tF c w L t p) m (v0P c s lk may hm L t p) ∧ b.2 = bWc (us w p) (tF c w L t p) (fun q => nI (2 + q)) m (v0P c s lk may hm L t p) (if may p t = true then nI 0 else nI 1)) (n := A) ?_ ?_ (by omega) ⟨rfl, rfl⟩ (b := (_, _))
    · rintro q ⟨v5, v6⟩ hq ⟨h5, h6⟩ ih
      obtain ⟨w1, w2, w3⟩ := hw q (by omega)
      have r36 : (mT σ L C).1 36 0 (12 * p + q) = nI (w p q) := (rk _ _ _ ⟨by omega, by omega⟩).trans w3
      dsimp only at h5 h6 ⊢
      by_cases hF : w p q = 1000000
      · refine Rn_map (fun Q => x_X8_chooses_104) ?_
        simp (disch := omega) only [lit_0, lit_1, lit_2, lit_3, lit_4, lit_5, lit_6, lit_7, lit_8, lit_9, lit_10, lit_11, lit_12, lit_17, lit_20, lit_30, lit_31, lit_32, lit_47, lit_48, lit_60, lit_99, lit_100, lit_144, lit_200, lit_240, lit_300, lit_576, lit_960, lit_1008, lit_1000000, lit_100000000, true_implies, not_true_eq_false, false_implies, not_false_eq_true, true_and, and_true, neg_1, nI_add, pk_mul, nI_clamp, le_nI, lt_nI, eq_nI, vp_nI, nI_NN, NN_nI, NN_lt, NN_le, lt_NN, le_NN, rA, r36]
        repeat' (first | refine Rn_and (by first | omega | assumption) ?_ | refine Rn_pos (by first | omega | assumption) ?_ | refine Rn_neg (by first | omega | assumption) ?_ | refine Rn_pos' (by first | omega | assumption) ?_ | refine Rn_neg' (by first | omega | assumption) ?_ | fail)
        have hn : ¬ (us w p q = true ∧ tF c w L t p q < bWv (us w p) (tF c w L t p) q (v0P c s lk may hm L t p)) := by
          intro z
          have := z.1
          simp [us, hF] at this
        exact ih (_, _) ⟨by rw [bWv, if_neg hn]; exact h5, by rw [bWc, if_neg hn]; exact h6⟩
      · have hu : us w p q = true := by simp [us, hF]
        have fin : ∀ v, v = tF c w L t p q → Rn (fun Q => (v5 ≤ v → J IM M_X8_chooses (d + 3) 104 [(0, ar 30 0), (2, ai (nI t)), (3, ai (nI p)), (4, ai (nI (12 * t + p))), (5, ai v5), (6, ai v6), (8, ai (nI (q + 1)))] [] (mT σ L C) Q) ∧ (¬ v5 ≤ v → J IM M_X8_chooses (d + 3) 104 [(0, ar 30 0), (2, ai (nI t)), (3, ai (nI p)), (4, ai (nI (12 * t + p))), (5, ai v), (6, ai (nI (2 + q))), (8, ai (nI (q + 1)))] [] (mT σ L C) Q)) (fun v s => v = none ∧ P s) := by
          intro v hv
          refine Rn_if (fun h => ?_) (fun h => ?_)
          · have hn : ¬ (us w p q = true ∧ tF c w L t p q < bWv (us w p) (tF c w L t p) q (v0P c s lk may hm L t p)) := by
              intro z
              have z2 := z.2
              rw [← hv, ← h5, tI_lt] at z2
              rw [tI_le] at h
              omega
            exact ih (_, _) ⟨by rw [bWv, if_neg hn]; exact h5, by rw [bWc, if_neg hn]; exact h6⟩
          · have hn : us w p q = true ∧ tF c w L t p q < bWv (us w p) (tF c w L t p) q (v0P c s lk may hm L t p) := by
              refine ⟨hu, ?_⟩
              rw [← hv, ← h5, tI_lt]
              rw [tI_le] at h
              omega
            exact ih (v, nI (2 + q)) ⟨by rw [bWv, if_pos hn]; exact hv, by rw [bWc, if_pos hn]⟩
        refine Rn_map (fun Q => x_X8_chooses_104) ?_
        simp (disch := omega) only [lit_0, lit_1, lit_2, lit_3, lit_4, lit_5, lit_6, lit_7, lit_8, lit_9, lit_10, lit_11, lit_12, lit_17, lit_20, lit_30, lit_31, lit_32, lit_47, lit_48, lit_60, lit_99, lit_100, lit_144, lit_200, lit_240, lit_300, lit_576, lit_960, lit_1008, lit_1000000, lit_100000000, true_implies, not_true_eq_false, false_implies, not_false_eq_true, true_and, and_true, neg_1, nI_add, pk_mul, nI_clamp, le_nI, lt_nI, eq_nI, vp_nI, nI_NN, NN_nI, NN_lt, NN_le, lt_NN, le_NN, rA, r36]
        repeat' (first | refine Rn_and (by first | omega | assumption) ?_ | refine Rn_pos (by first | omega | assumption) ?_ | refine Rn_neg (by first | omega | assumption) ?_ | refine Rn_pos' (by first | omega | assumption) ?_ | refine Rn_neg' (by first | omega | assumption) ?_ | fail)
        refine Rn_cI (f_X8_wayCost (c := c) (by omega) (by omega) r61 ?_)
        by_cases h48 : t + w p q < 48
        · have hv : wcF c t (min (w p q) (48 - t)) + L (12 * (t + w p q) + q) = tF c w L t p q := by
            rw [tF, if_pos h48, show min (w p q) (48 - t) = w p q by omega]
          simp (disch := omega) only [lit_0, lit_1, lit_2, lit_3, lit_4, lit_5, lit_6, lit_7, lit_8, lit_9, lit_10, lit_11, lit_12, lit_17, lit_20, lit_30, lit_31, lit_32, lit_47, lit_48, lit_60, lit_99, lit_100, lit_144, lit_200, lit_240, lit_300, lit_576, lit_960, lit_1008, lit_1000000, lit_100000000, true_implies, not_true_eq_false, false_implies, not_false_eq_true, true_and, and_true, neg_1, nI_add, pk_mul, nI_clamp, le_nI, lt_nI, eq_nI, vp_nI, nI_NN, NN_nI, NN_lt, NN_le, lt_NN, le_NN, mT_63]
          repeat' (first | refine Rn_and (by first | omega | assumption) ?_ | refine Rn_pos (by first | omega | assumption) ?_ | refine Rn_neg (by first | omega | assumption) ?_ | refine Rn_pos' (by first | omega | assumption) ?_ | refine Rn_neg' (by first | omega | assumption) ?_ | fail)
          exact fin _ hv
        · have hv : wcF c t (min (w p q) (48 - t)) + nI 0 = tF c w L t p q := by
            rw [tF, if_neg h48, show min (w p q) (48 - t) = 48 - t by omega]
          simp (disch := omega) only [lit_0, lit_1, lit_2, lit_3, lit_4, lit_5, lit_6, lit_7, lit_8, lit_9, lit_10, lit_11, lit_12, lit_17, lit_20, lit_30, lit_31, lit_32, lit_47, lit_48, lit_60, lit_99, lit_100, lit_144, lit_200, lit_240, lit_300, lit_576, lit_960, lit_1008, lit_1000000, lit_100000000, true_implies, not_true_eq_false, false_implies, not_false_eq_true, true_and, and_true, neg_1, nI_add, pk_mul, nI_clamp, le_nI, lt_nI, eq_nI, vp_nI, nI_NN, NN_nI, NN_lt, NN_le, lt_NN, le_NN, mT_63]
          repeat' (first | refine Rn_and (by first | omega | assumption) ?_ | refine Rn_pos (by first | omega | assumption) ?_ | refine Rn_neg (by first | omega | assumption) ?_ | refine Rn_pos' (by first | omega | assumption) ?_ | refine Rn_neg' (by first | omega | assumption) ?_ | fail)
          exact fin _ hv
    · rintro ⟨v5, v6⟩ ⟨h5, h6⟩
      dsimp only at h5 h6 ⊢
      refine Rn_map (fun Q => x_X8_chooses_104) ?_
      simp (disch := omega) only [lit_0, lit_1, lit_2, lit_3, lit_4, lit_5, lit_6, lit_7, lit_8, lit_9, lit_10, lit_11, lit_12, lit_17, lit_20, lit_30, lit_31, lit_32, lit_47, lit_48, lit_60, lit_99, lit_100, lit_144, lit_200, lit_240, lit_300, lit_576, lit_960, lit_1008, lit_1000000, lit_100000000, true_implies, not_true_eq_false, false_implies, not_false_eq_true, true_and, and_true, neg_1, nI_add, pk_mul, nI_clamp, le_nI, lt_nI, eq_nI, vp_nI, nI_NN, NN_nI, NN_lt, NN_le, lt_NN, le_NN, rA, mT_w63, mT_w64]
      repeat' (first | refine Rn_and (by first | omega | assumption) ?_ | refine Rn_pos (by first | omega | assumption) ?_ | refine Rn_neg (by first | omega | assumption) ?_ | refine Rn_pos' (by first | omega | assumption) ?_ | refine Rn_neg' (by first | omega | assumption) ?_ | fail)
      refine Rn_ret ⟨rfl, ?_⟩
      rw [h5, h6]
      exact hP
  refine Rv_map (fun K => x_X8_chooses) ?_
  refine Rv_cI (f_X8_canBeIn (may := may p t) hf ht (by omega) hab hb ((rk _ _ _ ⟨by omega, by omega⟩).trans x3) ((rk _ _ _ ⟨by omega, by omega⟩).trans x4) (by rw [rk _ _ _ ⟨by omega, by omega⟩, rk _ _ _ ⟨by omega, by omega⟩, rk _ _ _ ⟨by omega, by omega⟩, rk _ _ _ ⟨by omega, by omega⟩]; exact hmay) ?_)
  have hlt : ∀ x y, lateP hm p t = x → y = ((c t + nI 20) + x) + L (12 * (t + 1) + p) → ¬ nI 100000000 ≤ y := by
    intro x y h1 h2 h3
    rw [tI_le, nI_toInt (by omega), h2, ← h1] at h3
    omega
  have hin : ∀ x y z, lateP hm p t = x → y = (((c t - s p t) + nI 9) - lk p) + x + L (12 * (t + 1) + p) → z = ((c t + nI 20) + x) + L (12 * (t + 1) + p) → y ≤ z := by
    intro x y z h1 h2 h3
    rw [tI_le, h2, h3, ← h1]
    exact bb3
  cases hmay2 : may p t with
  | false =>
    rw [hmay2] at loop
    have ev : v0P c s lk may hm L t p = ((c t + nI 20) + lateP hm p t) + L (12 * (t + 1) + p) := by
      rw [v0P, hmay2, rOUT]
      rfl
    rw [ev] at loop
    simp only [Bool.false_eq_true, ↓reduceIte] at loop ⊢
    by_cases hph : p = hm
    · have el : lateP hm p t = nI 0 := if_neg (by omega)
      rw [el] at loop
      have h1 := hlt _ _ el rfl
      simp (disch := omega) only [lit_0, lit_1, lit_2, lit_3, lit_4, lit_5, lit_6, lit_7, lit_8, lit_9, lit_10, lit_11, lit_12, lit_17, lit_20, lit_30, lit_31, lit_32, lit_47, lit_48, lit_60, lit_99, lit_100, lit_144, lit_200, lit_240, lit_300, lit_576, lit_960, lit_1008, lit_1000000, lit_100000000, true_implies, not_true_eq_false, false_implies, not_false_eq_true, true_and, and_true, neg_1, nI_add, pk_mul, nI_clamp, le_nI, lt_nI, eq_nI, vp_nI, nI_NN, NN_nI, NN_lt, NN_le, lt_NN, le_NN, r61, r38, mT_63, e12]
      repeat' (first | refine Rv_and (by first | omega | assumption) ?_ | refine Rv_pos (by first | omega | assumption) ?_ | refine Rv_neg (by first | omega | assumption) ?_ | refine Rv_pos' (by first | omega | assumption) ?_ | refine Rv_neg' (by first | omega | assumption) ?_ | fail)
      exact Rv_KV loop
    · by_cases h47 : t = 47
      · have el : lateP hm p t = nI 300 := if_pos ⟨h47, hph⟩
        rw [el] at loop
        have h1 := hlt _ _ el rfl
        simp (disch := omega) only [lit_0, lit_1, lit_2, lit_3, lit_4, lit_5, lit_6, lit_7, lit_8, lit_9, lit_10, lit_11, lit_12, lit_17, lit_20, lit_30, lit_31, lit_32, lit_47, lit_48, lit_60, lit_99, lit_100, lit_144, lit_200, lit_240, lit_300, lit_576, lit_960, lit_1008, lit_1000000, lit_100000000, true_implies, not_true_eq_false, false_implies, not_false_eq_true, true_and, and_true, neg_1, nI_add, pk_mul, nI_clamp, le_nI, lt_nI, eq_nI, vp_nI, nI_NN, NN_nI, NN_lt, NN_le, lt_NN, le_NN, r61, r38, mT_63, e12]
        repeat' (first | refine Rv_and (by first | omega | assumption) ?_ | refine Rv_pos (by first | omega | assumption) ?_ | refine Rv_neg (by first | omega | assumption) ?_ | refine Rv_pos' (by first | omega | assumption) ?_ | refine Rv_neg' (by first | omega | assumption) ?_ | fail)
        exact Rv_KV loop
      · have el : lateP hm p t = nI 0 := if_neg (by omega)
        rw [el] at loop
        have h1 := hlt _ _ el rfl
        simp (disch := omega) only [lit_0, lit_1, lit_2, lit_3, lit_4, lit_5, lit_6, lit_7, lit_8, lit_9, lit_10, lit_11, lit_12, lit_17, lit_20, lit_30, lit_31, lit_32, lit_47, lit_48, lit_60, lit_99, lit_100, lit_144, lit_200, lit_240, lit_300, lit_576, lit_960, lit_1008, lit_1000000, lit_100000000, true_implies, not_true_eq_false, false_implies, not_false_eq_true, true_and, and_true, neg_1, nI_add, pk_mul, nI_clamp, le_nI, lt_nI, eq_nI, vp_nI, nI_NN, NN_nI, NN_lt, NN_le, lt_NN, le_NN, r61, r38, mT_63, e12]
        repeat' (first | refine Rv_and (by first | omega | assumption) ?_ | refine Rv_pos (by first | omega | assumption) ?_ | refine Rv_neg (by first | omega | assumption) ?_ | refine Rv_pos' (by first | omega | assumption) ?_ | refine Rv_neg' (by first | omega | assumption) ?_ | fail)
        exact Rv_KV loop
  | true =>
    rw [hmay2] at loop
    have ev : v0P c s lk may hm L t p = ((((c t - s p t) + nI 9) - lk p) + lateP hm p t) + L (12 * (t + 1) + p) := by
      rw [v0P, hmay2, rIN]
      rfl
    rw [ev] at loop
    simp only [↓reduceIte] at loop ⊢
    by_cases hph : p = hm
    · have el : lateP hm p t = nI 0 := if_neg (by omega)
      rw [el] at loop
      have h1 := hin _ _ _ el rfl rfl
      simp (disch := omega) only [lit_0, lit_1, lit_2, lit_3, lit_4, lit_5, lit_6, lit_7, lit_8, lit_9, lit_10, lit_11, lit_12, lit_17, lit_20, lit_30, lit_31, lit_32, lit_47, lit_48, lit_60, lit_99, lit_100, lit_144, lit_200, lit_240, lit_300, lit_576, lit_960, lit_1008, lit_1000000, lit_100000000, true_implies, not_true_eq_false, false_implies, not_false_eq_true, true_and, and_true, neg_1, nI_add, pk_mul, nI_clamp, le_nI, lt_nI, eq_nI, vp_nI, nI_NN, NN_nI, NN_lt, NN_le, lt_NN, le_NN, r61, r62, r40, r38, mT_63, e12]
      repeat' (first | refine Rv_and (by first | omega | assumption) ?_ | refine Rv_pos (by first | omega | assumption) ?_ | refine Rv_neg (by first | omega | assumption) ?_ | refine Rv_pos' (by first | omega | assumption) ?_ | refine Rv_neg' (by first | omega | assumption) ?_ | fail)
      exact Rv_KV loop
    · by_cases h47 : t = 47
      · have el : lateP hm p t = nI 300 := if_pos ⟨h47, hph⟩
        rw [el] at loop
        have h1 := hin _ _ _ el rfl rfl
        simp (disch := omega) only [lit_0, lit_1, lit_2, lit_3, lit_4, lit_5, lit_6, lit_7, lit_8, lit_9, lit_10, lit_11, lit_12, lit_17, lit_20, lit_30, lit_31, lit_32, lit_47, lit_48, lit_60, lit_99, lit_100, lit_144, lit_200, lit_240, lit_300, lit_576, lit_960, lit_1008, lit_1000000, lit_100000000, true_implies, not_true_eq_false, false_implies, not_false_eq_true, true_and, and_true, neg_1, nI_add, pk_mul, nI_clamp, le_nI, lt_nI, eq_nI, vp_nI, nI_NN, NN_nI, NN_lt, NN_le, lt_NN, le_NN, r61, r62, r40, r38, mT_63, e12]
        repeat' (first | refine Rv_and (by first | omega | assumption) ?_ | refine Rv_pos (by first | omega | assumption) ?_ | refine Rv_neg (by first | omega | assumption) ?_ | refine Rv_pos' (by first | omega | assumption) ?_ | refine Rv_neg' (by first | omega | assumption) ?_ | fail)
        exact Rv_KV loop
      · have el : lateP hm p t = nI 0 := if_neg (by omega)
        rw [el] at loop
        have h1 := hin _ _ _ el rfl rfl
        simp (disch := omega) only [lit_0, lit_1, lit_2, lit_3, lit_4, lit_5, lit_6, lit_7, lit_8, lit_9, lit_10, lit_11, lit_12, lit_17, lit_20, lit_30, lit_31, lit_32, lit_47, lit_48, lit_60, lit_99, lit_100, lit_144, lit_200, lit_240, lit_300, lit_576, lit_960, lit_1008, lit_1000000, lit_100000000, true_implies, not_true_eq_false, false_implies, not_false_eq_true, true_and, and_true, neg_1, nI_add, pk_mul, nI_clamp, le_nI, lt_nI, eq_nI, vp_nI, nI_NN, NN_nI, NN_lt, NN_le, lt_NN, le_NN, r61, r62, r40, r38, mT_63, e12]
        repeat' (first | refine Rv_and (by first | omega | assumption) ?_ | refine Rv_pos (by first | omega | assumption) ?_ | refine Rv_neg (by first | omega | assumption) ?_ | refine Rv_pos' (by first | omega | assumption) ?_ | refine Rv_neg' (by first | omega | assumption) ?_ | fail)
        exact Rv_KV loop

