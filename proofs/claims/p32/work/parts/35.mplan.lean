variable {κ : Nat → Nat → Nat → Prop}
theorem tF_b {c : Nat → Int32} {cn : Nat → Nat} {w : Nat → Nat → Nat} {t p q : Nat} {L : Nat → Int32} (hc : ∀ t, t < 48 → c t = nI (cn t) ∧ cn t ≤ 2400) (ht : t < 48) (hw : 1 ≤ w p q) (hL : ∀ u, t < u → u < 48 → bnd (L (12 * u + q)) ((48 - u) * 6000)) : bnd (tF c w L t p q) ((48 - t) * 6000) := by
  unfold tF
  split
  · rename_i h
    have i1 := wcF_b hc t (w p q) (by omega)
    have i2 := hL (t + w p q) (by omega) h
    exact bnd_le (bnd_add i1 i2 (by omega)).1 (by omega)
  · have i1 := wcF_b hc t (48 - t) (by omega)
    have i2 : bnd (nI 0) 0 := bnd_nI (by omega)
    exact bnd_le (bnd_add i1 i2 (by omega)).1 (by omega)
theorem f_X8_planned_201 {d f hm A t0 p0 : Nat} {v4 : Int32} {aH bH : Nat → Nat} {c : Nat → Int32} {s : Nat → Nat → Int32} {lk : Nat → Int32} {cn : Nat → Nat} {sn : Nat → Nat → Nat} {ln : Nat → Nat} {may : Nat → Nat → Bool} {w : Nat → Nat → Nat} {σ : Mem} {P : Option AV → Mem → Prop} (hf : f < 20) (hA : A ≤ 12) (hh : hm < 12) (ht0 : t0 ≤ 48) (hp0 : p0 < 12) (mA : σ.1 30 0 5 = nI A) (x61 : ∀ t, t < 48 → σ.1 61 0 t = c t) (x62 : ∀ p t, p < 12 → t < 48 → σ.1 62 0 (12 * t + p) = s p t) (x40 : ∀ p, p < 12 → σ.1 40 0 (12 * f + p) = lk p) (x38 : σ.1 38 0 f = nI hm) (hw : ∀ p q, p < 12 → q < 12 → 1 ≤ w p q ∧ (w p q ≤ 9 ∨ w p q = 1000000) ∧ σ.1 36 0 (12 * p + q) = nI (w p q)) (hc : ∀ t, t < 48 → c t = nI (cn t) ∧ cn t ≤ 2400) (hs : ∀ p t, p < 12 → t < 48 → s p t = nI (sn p t) ∧ sn p t ≤ 2400) (hl : ∀ p, p < 12 → lk p = nI (ln p) ∧ ln p ≤ 9) (xH : ∀ p, p < A → aH p < bH p ∧ bH p ≤ 48 ∧ σ.1 33 0 p = nI (aH p) ∧ σ.1 34 0 p = nI (bH p)) (hmay : ∀ p t, p < A → t < 48 → ((may p t = true) ↔ ((aH p ≤ t ∧ t < bH p) ∨ bt (σ.1 39 0 f) p = true) ∧ σ.1 35 0 p = nI 0 ∧ (σ.1 48 0 (48 * p + t)).toInt < (σ.1 32 0 p).toInt)) (hP : ∀ L C, (∀ t p, t0 ≤ t → t < 48 → p < A → PXp c s lk may hm w A (fun _ q => nI (2 + q)) (fun p t => if may p t = true then nI 0 else nI 1) L C t p) → (∀ p, p < 12 → L (576 + p) = nI 0) → Rv (fun K => CalV IM (d + 3) S_X8_walks [ar 30 0, ai (nI f), ai (nI t0), ai (nI p0)] (mT σ L C) K) (fun z => P (some (ai (v4 + (if t0 < 48 then L (12 * t0 + p0) else nI 0)))) (wI z 47 0 f (v4 + (if t0 < 48 then L (12 * t0 + p0) else nI 0))))) : Rn (fun Q => J IM M_X8_planned (d + 4) 201 [(0, ar 30 0), (1, ai (nI f)), (2, ai (nI t0)), (3, ai (nI p0)), (4, ai v4), (6, ai (nI 0))] [] σ Q) P := by
  refine loopU (i := 0) (C := fun i z Q => J IM M_X8_planned (d + 4) 201 [(0, ar 30 0), (1, ai (nI f)), (2, ai (nI t0)), (3, ai (nI p0)), (4, ai v4), (6, ai (nI i))] [] z Q) (Inv := fun n z => ∃ L, z = mT σ L (σ.1 64 0) ∧ ∀ p, p < n → L (576 + p) = nI 0) (n := 12) ?_ ?_ (by omega) ⟨_, (mT_id σ).symm, fun p hp => by omega⟩
  · rintro k z hk ⟨L, hz, hr⟩ ih
    refine Rn_map (fun Q => x_X8_planned_201) ?_
    simp (disch := omega) only [lit_0, lit_1, lit_2, lit_3, lit_4, lit_5, lit_6, lit_7, lit_8, lit_9, lit_10, lit_11, lit_12, lit_17, lit_20, lit_30, lit_31, lit_32, lit_47, lit_48, lit_60, lit_99, lit_100, lit_144, lit_200, lit_240, lit_300, lit_576, lit_960, lit_1008, lit_1000000, lit_100000000, true_implies, not_true_eq_false, false_implies, not_false_eq_true, true_and, and_true, neg_1, nI_add, pk_mul, nI_clamp, le_nI, lt_nI, eq_nI, vp_nI, nI_NN, NN_nI, NN_lt, NN_le, lt_NN, le_NN]
    repeat' (first | refine Rn_and (by first | omega | assumption) ?_ | refine Rn_pos (by first | omega | assumption) ?_ | refine Rn_neg (by first | omega | assumption) ?_ | refine Rn_pos' (by first | omega | assumption) ?_ | refine Rn_neg' (by first | omega | assumption) ?_ | fail)
    rw [hz, mT_w63]
    refine ih _ ⟨_, rfl, fun p hp => ?_⟩
    by_cases e : p = k
    · subst e
      exact up_s
    · rw [up_o (by omega)]
      exact hr p (by omega)
  · rintro z ⟨L0, hz, hr0⟩
    refine Rn_map (fun Q => x_X8_planned_201) ?_
    simp (disch := omega) only [lit_0, lit_1, lit_2, lit_3, lit_4, lit_5, lit_6, lit_7, lit_8, lit_9, lit_10, lit_11, lit_12, lit_17, lit_20, lit_30, lit_31, lit_32, lit_47, lit_48, lit_60, lit_99, lit_100, lit_144, lit_200, lit_240, lit_300, lit_576, lit_960, lit_1008, lit_1000000, lit_100000000, true_implies, not_true_eq_false, false_implies, not_false_eq_true, true_and, and_true, neg_1, nI_add, pk_mul, nI_clamp, le_nI, lt_nI, eq_nI, vp_nI, nI_NN, NN_nI, NN_lt, NN_le, lt_NN, le_NN]
    repeat' (first | refine Rn_and (by first | omega | assumption) ?_ | refine Rn_pos (by first | omega | assumption) ?_ | refine Rn_neg (by first | omega | assumption) ?_ | refine Rn_pos' (by first | omega | assumption) ?_ | refine Rn_neg' (by first | omega | assumption) ?_ | fail)
    refine loopU (i := 0) (C := fun i z Q => J IM M_X8_planned (d + 4) 230 [(0, ar 30 0), (1, ai (nI f)), (2, ai (nI t0)), (3, ai (nI p0)), (4, ai v4), (6, ai (dI (48 - i)))] [] z Q) (Inv := fun n z => ∃ L C, z = mT σ L C ∧ (∀ t p, 48 - n ≤ t → t < 48 → p < A → PXp c s lk may hm w A (fun _ q => nI (2 + q)) (fun p t => if may p t = true then nI 0 else nI 1) L C t p) ∧ (∀ t p, 48 - n ≤ t → t < 48 → p < A → bnd (L (12 * t + p)) ((48 - t) * 6000)) ∧ ∀ p, p < 12 → L (576 + p) = nI 0) (n := 48 - t0) ?_ ?_ (by omega) ⟨_, _, hz, fun t p h1 h2 => by omega, fun t p h1 h2 => by omega, hr0⟩
    · rintro k z2 hk ⟨L, C, hz2, hall, hbd, hr⟩ ih
      obtain ⟨t, ht⟩ : ∃ t, t = 47 - k := ⟨_, rfl⟩
      have et : 48 - k = t + 1 := by omega
      rw [et]
      show Rn (fun Q => J IM M_X8_planned (d + 4) 230 [(0, ar 30 0), (1, ai (nI f)), (2, ai (nI t0)), (3, ai (nI p0)), (4, ai v4), (6, ai (nI t))] [] z2 Q) _
      refine Rn_map (fun Q => x_X8_planned_230) ?_
      simp (disch := omega) only [lit_0, lit_1, lit_2, lit_3, lit_4, lit_5, lit_6, lit_7, lit_8, lit_9, lit_10, lit_11, lit_12, lit_17, lit_20, lit_30, lit_31, lit_32, lit_47, lit_48, lit_60, lit_99, lit_100, lit_144, lit_200, lit_240, lit_300, lit_576, lit_960, lit_1008, lit_1000000, lit_100000000, true_implies, not_true_eq_false, false_implies, not_false_eq_true, true_and, and_true, neg_1, nI_add, pk_mul, nI_clamp, le_nI, lt_nI, eq_nI, vp_nI, nI_NN, NN_nI, NN_lt, NN_le, lt_NN, le_NN]
      repeat' (first | refine Rn_and (by first | omega | assumption) ?_ | refine Rn_pos (by first | omega | assumption) ?_ | refine Rn_neg (by first | omega | assumption) ?_ | refine Rn_pos' (by first | omega | assumption) ?_ | refine Rn_neg' (by first | omega | assumption) ?_ | fail)
      refine loopU (i := 0) (C := fun i z Q => J IM M_X8_planned (d + 4) 239 [(0, ar 30 0), (1, ai (nI f)), (2, ai (nI t0)), (3, ai (nI p0)), (4, ai v4), (6, ai (nI t)), (7, ai (nI i))] [] z Q) (Inv := fun m z => ∃ L C, z = mT σ L C ∧ (∀ t' p, t < t' ∨ (t' = t ∧ p < m) → t' < 48 → p < A → PXp c s lk may hm w A (fun _ q => nI (2 + q)) (fun p t => if may p t = true then nI 0 else nI 1) L C t' p) ∧ (∀ t' p, t < t' ∨ (t' = t ∧ p < m) → t' < 48 → p < A → bnd (L (12 * t' + p)) ((48 - t') * 6000)) ∧ ∀ p, p < 12 → L (576 + p) = nI 0) (n := A) ?_ ?_ (by omega) ⟨L, C, hz2, fun t' p h1 h2 h3 => hall t' p (by omega) h2 h3, fun t' p h1 h2 h3 => hbd t' p (by omega) h2 h3, hr⟩
      · rintro p z3 hp ⟨L3, C3, hz3, hall3, hbd3, hr3⟩ ihp
        have rA : z3.1 30 0 5 = nI A := by rw [hz3, mT_o ⟨by omega, by omega⟩]; exact mA
        obtain ⟨i1, i2, i3, i4⟩ := xH p hp
        have hLn : bnd (L3 (12 * (t + 1) + p)) ((47 - t) * 6000) := by
          by_cases e : t = 47
          · subst e
            have := hr3 p (by omega)
            rw [show 12 * (47 + 1) + p = 576 + p by omega, this]
            exact bnd_nI (by omega)
          · have := hbd3 (t + 1) p (Or.inl (by omega)) (by omega) hp
            rw [show 48 - (t + 1) = 47 - t by omega] at this
            exact this
        refine Rn_map (fun Q => x_X8_planned_239) ?_
        simp (disch := omega) only [lit_0, lit_1, lit_2, lit_3, lit_4, lit_5, lit_6, lit_7, lit_8, lit_9, lit_10, lit_11, lit_12, lit_17, lit_20, lit_30, lit_31, lit_32, lit_47, lit_48, lit_60, lit_99, lit_100, lit_144, lit_200, lit_240, lit_300, lit_576, lit_960, lit_1008, lit_1000000, lit_100000000, true_implies, not_true_eq_false, false_implies, not_false_eq_true, true_and, and_true, neg_1, nI_add, pk_mul, nI_clamp, le_nI, lt_nI, eq_nI, vp_nI, nI_NN, NN_nI, NN_lt, NN_le, lt_NN, le_NN, rA]
        repeat' (first | refine Rn_and (by first | omega | assumption) ?_ | refine Rn_pos (by first | omega | assumption) ?_ | refine Rn_neg (by first | omega | assumption) ?_ | refine Rn_pos' (by first | omega | assumption) ?_ | refine Rn_neg' (by first | omega | assumption) ?_ | fail)
        rw [hz3]
        have hv := (v0P_b (may := may) (hm := hm) (by omega : t < 48) (by omega) (hc t (by omega)) (hs p t (by omega) (by omega)) (hl p (by omega)) hLn).1
        refine Rn_cV (f_X8_chooses (hm := hm) (B := (47 - t) * 6000) (c := c) (s := s) (lk := lk) (cn := cn) (sn := sn) (ln := ln) (may := may) (w := w) hf (by omega) hp hA hh (by omega) mA x61 (x62 p t (by omega) (by omega)) (x40 p (by omega)) x38 (fun q hq => hw p q (by omega) hq) (hc t (by omega)) (hs p t (by omega) (by omega)) (hl p (by omega)) hLn i1 i2 i3 i4 (hmay p t hp (by omega)) ?_)
        have hLe : ∀ v, ∀ j, 12 * (t + 1) ≤ j → up L3 (12 * t + p) v j = L3 j := fun v j hj => up_o (by omega)
        refine ihp _ ⟨_, _, rfl, fun t' p' h1 h2 h3 => ?_, fun t' p' h1 h2 h3 => ?_, fun p' hp' => ?_⟩
        · by_cases e : t' = t ∧ p' = p
          · obtain ⟨e1, e2⟩ := e
            subst e1
            subst e2
            refine ⟨?_, ?_⟩
            · rw [up_s, v0P_c (hLe _)]
              exact bWv_c (fun q hq => (tF_c (hLe _) (hw p' q (by omega) (by omega)).1).symm)
            · rw [up_s, v0P_c (hLe _)]
              exact bWc_c (fun q hq => (tF_c (hLe _) (hw p' q (by omega) (by omega)).1).symm)
          · have g := hall3 t' p' (by omega) h2 h3
            exact PXp_c (fun q hq => (hw p' q (by omega) (by omega)).1) (fun j hj => up_o (by omega)) (up_o (by omega)) (up_o (by omega)) g
        · by_cases e : t' = t ∧ p' = p
          · obtain ⟨e1, e2⟩ := e
            subst e1
            subst e2
            rw [up_s]
            refine bWv_b (bnd_le hv (by omega)) (fun q hq _ => ?_)
            exact tF_b hc (by omega) (hw p' q (by omega) (by omega)).1 (fun u hu1 hu2 => hbd3 u q (Or.inl hu1) hu2 hq)
          · rw [up_o (by omega)]
            exact hbd3 t' p' (by omega) h2 h3
        · rw [up_o (by omega)]
          exact hr3 p' hp'
      · rintro z3 ⟨L3, C3, hz3, hall3, hbd3, hr3⟩
        have rA : z3.1 30 0 5 = nI A := by rw [hz3, mT_o ⟨by omega, by omega⟩]; exact mA
        refine Rn_map (fun Q => x_X8_planned_239) ?_
        simp (disch := omega) only [lit_0, lit_1, lit_2, lit_3, lit_4, lit_5, lit_6, lit_7, lit_8, lit_9, lit_10, lit_11, lit_12, lit_17, lit_20, lit_30, lit_31, lit_32, lit_47, lit_48, lit_60, lit_99, lit_100, lit_144, lit_200, lit_240, lit_300, lit_576, lit_960, lit_1008, lit_1000000, lit_100000000, true_implies, not_true_eq_false, false_implies, not_false_eq_true, true_and, and_true, neg_1, nI_add, pk_mul, nI_clamp, le_nI, lt_nI, eq_nI, vp_nI, nI_NN, NN_nI, NN_lt, NN_le, lt_NN, le_NN, rA]
        repeat' (first | refine Rn_and (by first | omega | assumption) ?_ | refine Rn_pos (by first | omega | assumption) ?_ | refine Rn_neg (by first | omega | assumption) ?_ | refine Rn_pos' (by first | omega | assumption) ?_ | refine Rn_neg' (by first | omega | assumption) ?_ | fail)
        rw [show nI t + NN = dI (48 - (k + 1)) by rw [show 48 - (k + 1) = t by omega]; exact dI_dn t]
        exact ih _ ⟨L3, C3, hz3, fun t' p h1 h2 h3 => hall3 t' p (by omega) h2 h3, fun t' p h1 h2 h3 => hbd3 t' p (by omega) h2 h3, hr3⟩
    · rintro z2 ⟨L, C, hz2, hall, hbd, hr⟩
      have et : 48 - (48 - t0) = t0 := by omega
      rw [et] at hall hbd ⊢
      have hw2 := hP L C hall hr
      refine Rn_map (fun Q => x_X8_planned_230) ?_
      simp (disch := omega) only [lit_0, lit_1, lit_2, lit_3, lit_4, lit_5, lit_6, lit_7, lit_8, lit_9, lit_10, lit_11, lit_12, lit_17, lit_20, lit_30, lit_31, lit_32, lit_47, lit_48, lit_60, lit_99, lit_100, lit_144, lit_200, lit_240, lit_300, lit_576, lit_960, lit_1008, lit_1000000, lit_100000000, true_implies, not_true_eq_false, false_implies, not_false_eq_true, true_and, and_true, neg_1, nI_add, pk_mul, nI_clamp, le_nI, lt_nI, eq_nI, vp_nI, nI_NN, NN_nI, NN_lt, NN_le, lt_NN, le_NN, dI_lt]
      by_cases h48 : 48 ≤ t0
      · rw [if_neg (by omega)] at hw2
        repeat' (first | refine Rn_and (by first | omega | assumption) ?_ | refine Rn_pos (by first | omega | assumption) ?_ | refine Rn_neg (by first | omega | assumption) ?_ | refine Rn_pos' (by first | omega | assumption) ?_ | refine Rn_neg' (by first | omega | assumption) ?_ | fail)
        rw [hz2]
        refine Rn_cV (Rv_mono hw2 (fun z hz => ?_))
        repeat' (first | refine Rn_and (by first | omega | assumption) ?_ | refine Rn_pos (by first | omega | assumption) ?_ | refine Rn_neg (by first | omega | assumption) ?_ | refine Rn_pos' (by first | omega | assumption) ?_ | refine Rn_neg' (by first | omega | assumption) ?_ | fail)
        exact Rn_ret hz
      · rw [if_pos (by omega)] at hw2
        have r63 : z2.1 63 0 (12 * t0 + p0) = L (12 * t0 + p0) := by rw [hz2, mT_63]
        simp (disch := omega) only [lit_0, lit_1, lit_2, lit_3, lit_4, lit_5, lit_6, lit_7, lit_8, lit_9, lit_10, lit_11, lit_12, lit_17, lit_20, lit_30, lit_31, lit_32, lit_47, lit_48, lit_60, lit_99, lit_100, lit_144, lit_200, lit_240, lit_300, lit_576, lit_960, lit_1008, lit_1000000, lit_100000000, true_implies, not_true_eq_false, false_implies, not_false_eq_true, true_and, and_true, neg_1, nI_add, pk_mul, nI_clamp, le_nI, lt_nI, eq_nI, vp_nI, nI_NN, NN_nI, NN_lt, NN_le, lt_NN, le_NN, r63]
        repeat' (first | refine Rn_and (by first | omega | assumption) ?_ | refine Rn_pos (by first | omega | assumption) ?_ | refine Rn_neg (by first | omega | assumption) ?_ | refine Rn_pos' (by first | omega | assumption) ?_ | refine Rn_neg' (by first | omega | assumption) ?_ | fail)
        rw [hz2]
        refine Rn_cV (Rv_mono hw2 (fun z hz => ?_))
        repeat' (first | refine Rn_and (by first | omega | assumption) ?_ | refine Rn_pos (by first | omega | assumption) ?_ | refine Rn_neg (by first | omega | assumption) ?_ | refine Rn_pos' (by first | omega | assumption) ?_ | refine Rn_neg' (by first | omega | assumption) ?_ | fail)
        exact Rn_ret hz

