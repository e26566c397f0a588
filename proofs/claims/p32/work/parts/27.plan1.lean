variable {κ : Nat → Nat → Nat → Prop}
/-! ===== leaving and learning ===== -/
theorem sub1 (x : Int32) : x - nI 1 = x + NN := by rw [Int32.sub_eq_add_neg]; rfl
theorem f_X8_leaves {d f lo : Nat} {σ : Mem} (hf : f < 20) (hlo : lo ≤ 48) (hc : ∀ t, t < 48 → σ.1 46 0 (48 * f + t) = NN ∨ ∃ n, n < 400 ∧ σ.1 46 0 (48 * f + t) = nI n) : Rv (fun K => CalV IM (d + 2) S_X8_leaves [ar 30 0, ai (nI f), ai (nI lo)] σ K) (fun s => s = sK (sK σ 46 (fun i j => if i = 0 ∧ 48 * f + lo ≤ j ∧ j < 48 * f + 48 then NN else σ.1 46 i j)) 48 (fun i j => if i = 0 ∧ j < 576 ∧ lo ≤ j % 48 ∧ σ.1 46 0 (48 * f + j % 48) = nI (j / 48) then σ.1 48 0 j + NN else σ.1 48 i j)) := by
  refine Rv_map (fun K => x_X8_leaves) (Rv_KV ?_)
  refine loopU (C := fun i s Q => J IM M_X8_leaves (d + 2) 2 [(0, ar 30 0), (1, ai (nI f)), (3, ai (nI i))] [] s Q) (Inv := fun n s => lo ≤ n ∧ s = sK (sK σ 46 (fun i j => if i = 0 ∧ 48 * f + lo ≤ j ∧ j < 48 * f + n then NN else σ.1 46 i j)) 48 (fun i j => if i = 0 ∧ j < 576 ∧ lo ≤ j % 48 ∧ j % 48 < n ∧ σ.1 46 0 (48 * f + j % 48) = nI (j / 48) then σ.1 48 0 j + NN else σ.1 48 i j)) (n := 48) ?_ ?_ hlo ?_
  · rintro i s hi ⟨hl, hs⟩ ih
    have es : s.1 46 0 (48 * f + i) = σ.1 46 0 (48 * f + i) := by
      rw [hs, sK_r, if_neg (by omega), sK_r, if_pos rfl, if_neg (by omega)]
    refine Rn_map (fun Q => x_X8_leaves_2) ?_
    rcases hc i hi with e | ⟨n, hn, e⟩
    · simp (disch := omega) only [lit_0, lit_1, lit_2, lit_3, lit_4, lit_5, lit_6, lit_7, lit_8, lit_9, lit_10, lit_11, lit_12, lit_17, lit_20, lit_30, lit_31, lit_32, lit_47, lit_48, lit_60, lit_99, lit_100, lit_144, lit_200, lit_240, lit_300, lit_576, lit_960, lit_1008, lit_1000000, lit_100000000, true_implies, not_true_eq_false, false_implies, not_false_eq_true, true_and, and_true, neg_1, nI_add, pk_mul, nI_clamp, le_nI, lt_nI, eq_nI, vp_nI, nI_NN, NN_nI, NN_lt, NN_le, lt_NN, le_NN, es, e]
      repeat' (first | refine Rn_and (by first | omega | assumption) ?_ | refine Rn_pos (by first | omega | assumption) ?_ | refine Rn_neg (by first | omega | assumption) ?_ | refine Rn_pos' (by first | omega | assumption) ?_ | refine Rn_neg' (by first | omega | assumption) ?_ | fail)
      subst hs
      refine ih _ ⟨by omega, Mem_ext (fun k a b => ?_) rfl⟩
      have h1 : b % 48 = i → σ.1 46 0 (48 * f + b % 48) ≠ nI (b / 48) ∨ ¬ b < 576 := by
        intro h
        by_cases hb : b < 576
        · refine Or.inl ?_
          rw [h, e, ne_eq, NN_nI (by omega)]
          exact not_false
        · exact Or.inr hb
      simp only [wI_r, sK_r]
      grind
    · by_cases hn12 : n < 12
      · simp (disch := omega) only [lit_0, lit_1, lit_2, lit_3, lit_4, lit_5, lit_6, lit_7, lit_8, lit_9, lit_10, lit_11, lit_12, lit_17, lit_20, lit_30, lit_31, lit_32, lit_47, lit_48, lit_60, lit_99, lit_100, lit_144, lit_200, lit_240, lit_300, lit_576, lit_960, lit_1008, lit_1000000, lit_100000000, true_implies, not_true_eq_false, false_implies, not_false_eq_true, true_and, and_true, neg_1, nI_add, pk_mul, nI_clamp, le_nI, lt_nI, eq_nI, vp_nI, nI_NN, NN_nI, NN_lt, NN_le, lt_NN, le_NN, es, e, sub1]
        repeat' (first | refine Rn_and (by first | omega | assumption) ?_ | refine Rn_pos (by first | omega | assumption) ?_ | refine Rn_neg (by first | omega | assumption) ?_ | refine Rn_pos' (by first | omega | assumption) ?_ | refine Rn_neg' (by first | omega | assumption) ?_ | fail)
        subst hs
        refine ih _ ⟨by omega, Mem_ext (fun k a b => ?_) rfl⟩
        have hb1 : b = 48 * n + i ↔ (b / 48 = n ∧ b % 48 = i) := by omega
        have h1 : b % 48 = i → b < 576 → (σ.1 46 0 (48 * f + b % 48) = nI (b / 48) ↔ b / 48 = n) := by
          intro h hb
          rw [h, e, eq_nI (by omega) (by omega)]
          omega
        simp only [wI_r, sK_r]
        grind
      · simp (disch := omega) only [lit_0, lit_1, lit_2, lit_3, lit_4, lit_5, lit_6, lit_7, lit_8, lit_9, lit_10, lit_11, lit_12, lit_17, lit_20, lit_30, lit_31, lit_32, lit_47, lit_48, lit_60, lit_99, lit_100, lit_144, lit_200, lit_240, lit_300, lit_576, lit_960, lit_1008, lit_1000000, lit_100000000, true_implies, not_true_eq_false, false_implies, not_false_eq_true, true_and, and_true, neg_1, nI_add, pk_mul, nI_clamp, le_nI, lt_nI, eq_nI, vp_nI, nI_NN, NN_nI, NN_lt, NN_le, lt_NN, le_NN, es, e]
        repeat' (first | refine Rn_and (by first | omega | assumption) ?_ | refine Rn_pos (by first | omega | assumption) ?_ | refine Rn_neg (by first | omega | assumption) ?_ | refine Rn_pos' (by first | omega | assumption) ?_ | refine Rn_neg' (by first | omega | assumption) ?_ | fail)
        subst hs
        refine ih _ ⟨by omega, Mem_ext (fun k a b => ?_) rfl⟩
        have h1 : b % 48 = i → b < 576 → σ.1 46 0 (48 * f + b % 48) ≠ nI (b / 48) := by
          intro h hb
          rw [h, e, ne_eq, eq_nI (by omega) (by omega)]
          omega
        simp only [wI_r, sK_r]
        grind
  · rintro s ⟨hl, hs⟩
    refine Rn_map (fun Q => x_X8_leaves_2) ?_
    simp (disch := omega) only [lit_0, lit_1, lit_2, lit_3, lit_4, lit_5, lit_6, lit_7, lit_8, lit_9, lit_10, lit_11, lit_12, lit_17, lit_20, lit_30, lit_31, lit_32, lit_47, lit_48, lit_60, lit_99, lit_100, lit_144, lit_200, lit_240, lit_300, lit_576, lit_960, lit_1008, lit_1000000, lit_100000000, true_implies, not_true_eq_false, false_implies, not_false_eq_true, true_and, and_true, neg_1, nI_add, pk_mul, nI_clamp, le_nI, lt_nI, eq_nI, vp_nI, nI_NN, NN_nI, NN_lt, NN_le, lt_NN, le_NN]
    repeat' (first | refine Rn_and (by first | omega | assumption) ?_ | refine Rn_pos (by first | omega | assumption) ?_ | refine Rn_neg (by first | omega | assumption) ?_ | refine Rn_pos' (by first | omega | assumption) ?_ | refine Rn_neg' (by first | omega | assumption) ?_ | fail)
    subst hs
    refine Rn_ret ⟨rfl, Mem_ext (fun k a b => ?_) rfl⟩
    have : b % 48 < 48 := by omega
    simp only [sK_r]
    grind
  · refine ⟨by omega, Mem_ext (fun k a b => ?_) rfl⟩
    simp only [sK_r]
    grind

