variable {κ : Nat → Nat → Nat → Prop}
/-- sums of ones over the first n, as both programs count -/
def cntF (a b : Int32) (g : Nat → Int32) : Nat → Int32
  | 0 => nI 0
  | n + 1 => if g n = nI 0 then cntF a b g n + a else cntF a b g n + b
theorem cntF_congr {a b : Int32} {g g' : Nat → Int32} : ∀ {n : Nat}, (∀ i, i < n → g i = g' i) → cntF a b g n = cntF a b g' n
  | 0, _ => rfl
  | n + 1, h => by
    rw [cntF, cntF, h n (by omega), cntF_congr (fun i hi => h i (by omega))]
theorem f_X7_countHere {d F : Nat} {σ : Mem} (hF : F ≤ 20) (xF : σ.1 0 0 9 = nI F) : Rn (fun K => CalI IX (d + 1) S_X7_countHere [ar 0 0] σ K) (fun r s => s = σ ∧ r = cntF (nI 1) (nI 0) (fun f => σ.1 9 f 13) F) := by
  refine Rn_map (fun K => x_X7_countHere) (Rn_KQ ?_)
  simp (disch := omega) only [lit_0, lit_1, lit_2, lit_3, lit_4, lit_5, lit_6, lit_7, lit_8, lit_9, lit_10, lit_11, lit_12, lit_17, lit_20, lit_30, lit_31, lit_32, lit_47, lit_48, lit_60, lit_99, lit_100, lit_144, lit_200, lit_240, lit_300, lit_576, lit_960, lit_1008, lit_1000000, lit_100000000, true_implies, not_true_eq_false, false_implies, not_false_eq_true, true_and, and_true, neg_1, nI_add, pk_mul, nI_clamp, le_nI, lt_nI, eq_nI, vp_nI, nI_NN, NN_nI, NN_lt, NN_le, lt_NN, le_NN]
  refine loopU (C := fun i v Q => J IX M_X7_countHere (d + 1) 4 [(0, ar 0 0), (1, ai v), (2, ai (nI i))] [] σ Q) (Inv := fun n v => v = cntF (nI 1) (nI 0) (fun f => σ.1 9 f 13) n) (n := F) ?_ ?_ (by omega) rfl
  · rintro i v hi hv ih
    refine Rn_map (fun Q => x_X7_countHere_4) ?_
    simp (disch := omega) only [lit_0, lit_1, lit_2, lit_3, lit_4, lit_5, lit_6, lit_7, lit_8, lit_9, lit_10, lit_11, lit_12, lit_17, lit_20, lit_30, lit_31, lit_32, lit_47, lit_48, lit_60, lit_99, lit_100, lit_144, lit_200, lit_240, lit_300, lit_576, lit_960, lit_1008, lit_1000000, lit_100000000, true_implies, not_true_eq_false, false_implies, not_false_eq_true, true_and, and_true, neg_1, nI_add, pk_mul, nI_clamp, le_nI, lt_nI, eq_nI, vp_nI, nI_NN, NN_nI, NN_lt, NN_le, lt_NN, le_NN, xF]
    repeat' (first | refine Rn_and (by first | omega | assumption) ?_ | refine Rn_pos (by first | omega | assumption) ?_ | refine Rn_neg (by first | omega | assumption) ?_ | refine Rn_pos' (by first | omega | assumption) ?_ | refine Rn_neg' (by first | omega | assumption) ?_ | fail)
    subst hv
    refine Rn_if (fun c => ?_) (fun c => ?_)
    · exact ih _ (by rw [cntF, if_pos c])
    · exact ih _ (by rw [cntF, if_neg c])
  · rintro v hv
    refine Rn_map (fun Q => x_X7_countHere_4) ?_
    simp (disch := omega) only [lit_0, lit_1, lit_2, lit_3, lit_4, lit_5, lit_6, lit_7, lit_8, lit_9, lit_10, lit_11, lit_12, lit_17, lit_20, lit_30, lit_31, lit_32, lit_47, lit_48, lit_60, lit_99, lit_100, lit_144, lit_200, lit_240, lit_300, lit_576, lit_960, lit_1008, lit_1000000, lit_100000000, true_implies, not_true_eq_false, false_implies, not_false_eq_true, true_and, and_true, neg_1, nI_add, pk_mul, nI_clamp, le_nI, lt_nI, eq_nI, vp_nI, nI_NN, NN_nI, NN_lt, NN_le, lt_NN, le_NN, xF]
    repeat' (first | refine Rn_and (by first | omega | assumption) ?_ | refine Rn_pos (by first | omega | assumption) ?_ | refine Rn_neg (by first | omega | assumption) ?_ | refine Rn_pos' (by first | omega | assumption) ?_ | refine Rn_neg' (by first | omega | assumption) ?_ | fail)
    exact Rn_ret ⟨_, rfl, rfl, hv⟩
theorem f_X7_countBent {d F : Nat} {σ : Mem} (hF : F ≤ 20) (xF : σ.1 0 0 9 = nI F) : Rn (fun K => CalI IX (d + 1) S_X7_countBent [ar 0 0] σ K) (fun r s => s = σ ∧ r = cntF (nI 0) (nI 1) (fun f => σ.1 9 f 12) F) := by
  refine Rn_map (fun K => x_X7_countBent) (Rn_KQ ?_)
  simp (disch := omega) only [lit_0, lit_1, lit_2, lit_3, lit_4, lit_5, lit_6, lit_7, lit_8, lit_9, lit_10, lit_11, lit_12, lit_17, lit_20, lit_30, lit_31, lit_32, lit_47, lit_48, lit_60, lit_99, lit_100, lit_144, lit_200, lit_240, lit_300, lit_576, lit_960, lit_1008, lit_1000000, lit_100000000, true_implies, not_true_eq_false, false_implies, not_false_eq_true, true_and, and_true, neg_1, nI_add, pk_mul, nI_clamp, le_nI, lt_nI, eq_nI, vp_nI, nI_NN, NN_nI, NN_lt, NN_le, lt_NN, le_NN]
  refine loopU (C := fun i v Q => J IX M_X7_countBent (d + 1) 4 [(0, ar 0 0), (1, ai v), (2, ai (nI i))] [] σ Q) (Inv := fun n v => v = cntF (nI 0) (nI 1) (fun f => σ.1 9 f 12) n) (n := F) ?_ ?_ (by omega) rfl
  · rintro i v hi hv ih
    refine Rn_map (fun Q => x_X7_countBent_4) ?_
    simp (disch := omega) only [lit_0, lit_1, lit_2, lit_3, lit_4, lit_5, lit_6, lit_7, lit_8, lit_9, lit_10, lit_11, lit_12, lit_17, lit_20, lit_30, lit_31, lit_32, lit_47, lit_48, lit_60, lit_99, lit_100, lit_144, lit_200, lit_240, lit_300, lit_576, lit_960, lit_1008, lit_1000000, lit_100000000, true_implies, not_true_eq_false, false_implies, not_false_eq_true, true_and, and_true, neg_1, nI_add, pk_mul, nI_clamp, le_nI, lt_nI, eq_nI, vp_nI, nI_NN, NN_nI, NN_lt, NN_le, lt_NN, le_NN, xF]
    repeat' (first | refine Rn_and (by first | omega | assumption) ?_ | refine Rn_pos (by first | omega | assumption) ?_ | refine Rn_neg (by first | omega | assumption) ?_ | refine Rn_pos' (by first | omega | assumption) ?_ | refine Rn_neg' (by first | omega | assumption) ?_ | fail)
    subst hv
    refine Rn_if (fun c => ?_) (fun c => ?_)
    · exact ih _ (by rw [cntF, if_pos c])
    · exact ih _ (by rw [cntF, if_neg c])
  · rintro v hv
    refine Rn_map (fun Q => x_X7_countBent_4) ?_
    simp (disch := omega) only [lit_0, lit_1, lit_2, lit_3, lit_4, lit_5, lit_6, lit_7, lit_8, lit_9, lit_10, lit_11, lit_12, lit_17, lit_20, lit_30, lit_31, lit_32, lit_47, lit_48, lit_60, lit_99, lit_100, lit_144, lit_200, lit_240, lit_300, lit_576, lit_960, lit_1008, lit_1000000, lit_100000000, true_implies, not_true_eq_false, false_implies, not_false_eq_true, true_and, and_true, neg_1, nI_add, pk_mul, nI_clamp, le_nI, lt_nI, eq_nI, vp_nI, nI_NN, NN_nI, NN_lt, NN_le, lt_NN, le_NN, xF]
    repeat' (first | refine Rn_and (by first | omega | assumption) ?_ | refine Rn_pos (by first | omega | assumption) ?_ | refine Rn_neg (by first | omega | assumption) ?_ | refine Rn_pos' (by first | omega | assumption) ?_ | refine Rn_neg' (by first | omega | assumption) ?_ | fail)
    exact Rn_ret ⟨_, rfl, rfl, hv⟩
theorem f_X3_isDueIn {d f lo : Nat} {c : Int32} {σ : Mem} (hlo : lo ≤ 48) : Rn (fun K => CalI IX (d + 1) S_X3_isDueIn [ar 9 f, ai c, ai (nI lo)] σ K) (fun r s => s = σ ∧ (((∃ t, lo ≤ t ∧ t < 48 ∧ σ.1 12 f t = c) ∧ r = nI 1) ∨ ((∀ t, lo ≤ t → t < 48 → σ.1 12 f t ≠ c) ∧ r = nI 0))) := by
  refine Rn_map (fun K => x_X3_isDueIn) (Rn_KQ ?_)
  refine loopU (C := fun i (_ : Unit) Q => J IX M_X3_isDueIn (d + 1) 2 [(0, ar 9 f), (1, ai c), (3, ai (nI i))] [] σ Q) (Inv := fun n _ => lo ≤ n ∧ ∀ t, lo ≤ t → t < n → σ.1 12 f t ≠ c) (n := 48) ?_ ?_ hlo ⟨by omega, fun t h1 h2 => by omega⟩ (b := ())
  · rintro i _ hi ⟨hl, hv⟩ ih
    refine Rn_map (fun Q => x_X3_isDueIn_2) ?_
    simp (disch := omega) only [lit_0, lit_1, lit_2, lit_3, lit_4, lit_5, lit_6, lit_7, lit_8, lit_9, lit_10, lit_11, lit_12, lit_17, lit_20, lit_30, lit_31, lit_32, lit_47, lit_48, lit_60, lit_99, lit_100, lit_144, lit_200, lit_240, lit_300, lit_576, lit_960, lit_1008, lit_1000000, lit_100000000, true_implies, not_true_eq_false, false_implies, not_false_eq_true, true_and, and_true, neg_1, nI_add, pk_mul, nI_clamp, le_nI, lt_nI, eq_nI, vp_nI, nI_NN, NN_nI, NN_lt, NN_le, lt_NN, le_NN]
    repeat' (first | refine Rn_and (by first | omega | assumption) ?_ | refine Rn_pos (by first | omega | assumption) ?_ | refine Rn_neg (by first | omega | assumption) ?_ | refine Rn_pos' (by first | omega | assumption) ?_ | refine Rn_neg' (by first | omega | assumption) ?_ | fail)
    refine Rn_if' (fun h => ?_) (fun h => ?_)
    · refine ih () ⟨by omega, fun t h1 h2 => ?_⟩
      by_cases e : t = i
      · rw [e]; exact h
      · exact hv t h1 (by omega)
    · exact Rn_ret ⟨_, rfl, rfl, Or.inl ⟨⟨i, by omega, hi, h⟩, rfl⟩⟩
  · rintro _ ⟨hl, hv⟩
    refine Rn_map (fun Q => x_X3_isDueIn_2) ?_
    simp (disch := omega) only [lit_0, lit_1, lit_2, lit_3, lit_4, lit_5, lit_6, lit_7, lit_8, lit_9, lit_10, lit_11, lit_12, lit_17, lit_20, lit_30, lit_31, lit_32, lit_47, lit_48, lit_60, lit_99, lit_100, lit_144, lit_200, lit_240, lit_300, lit_576, lit_960, lit_1008, lit_1000000, lit_100000000, true_implies, not_true_eq_false, false_implies, not_false_eq_true, true_and, and_true, neg_1, nI_add, pk_mul, nI_clamp, le_nI, lt_nI, eq_nI, vp_nI, nI_NN, NN_nI, NN_lt, NN_le, lt_NN, le_NN]
    repeat' (first | refine Rn_and (by first | omega | assumption) ?_ | refine Rn_pos (by first | omega | assumption) ?_ | refine Rn_neg (by first | omega | assumption) ?_ | refine Rn_pos' (by first | omega | assumption) ?_ | refine Rn_neg' (by first | omega | assumption) ?_ | fail)
    exact Rn_ret ⟨_, rfl, rfl, Or.inr ⟨hv, rfl⟩⟩
theorem f_X7_areAllHere {d F : Nat} {b : Int32} {σ : Mem} (hF : F ≤ 20) (xF : σ.1 0 0 9 = nI F) : Rn (fun K => CalI IX (d + 3) S_X7_areAllHere [ar 0 0, ai b] σ K) (fun r s => s = σ ∧ (((∀ f, f < 32 → bt b f = true → f < F ∧ σ.1 9 f 13 = nI 0) ∧ r = nI 1) ∨ (¬ (∀ f, f < 32 → bt b f = true → f < F ∧ σ.1 9 f 13 = nI 0) ∧ r = nI 0))) := by
  refine Rn_map (fun K => x_X7_areAllHere) (Rn_KQ ?_)
  simp (disch := omega) only [lit_0, lit_1, lit_2, lit_3, lit_4, lit_5, lit_6, lit_7, lit_8, lit_9, lit_10, lit_11, lit_12, lit_17, lit_20, lit_30, lit_31, lit_32, lit_47, lit_48, lit_60, lit_99, lit_100, lit_144, lit_200, lit_240, lit_300, lit_576, lit_960, lit_1008, lit_1000000, lit_100000000, true_implies, not_true_eq_false, false_implies, not_false_eq_true, true_and, and_true, neg_1, nI_add, pk_mul, nI_clamp, le_nI, lt_nI, eq_nI, vp_nI, nI_NN, NN_nI, NN_lt, NN_le, lt_NN, le_NN]
  refine loopU (C := fun i (_ : Unit) Q => J IX M_X7_areAllHere (d + 3) 2 [(0, ar 0 0), (1, ai b), (2, ai (nI i))] [] σ Q) (Inv := fun n _ => ∀ f, f < n → bt b f = true → f < F ∧ σ.1 9 f 13 = nI 0) (n := 32) ?_ ?_ (by omega) (fun t h1 h2 => by omega) (b := ())
  · rintro i _ hi hv ih
    refine Rn_map (fun Q => x_X7_areAllHere_2) ?_
    simp (disch := omega) only [lit_0, lit_1, lit_2, lit_3, lit_4, lit_5, lit_6, lit_7, lit_8, lit_9, lit_10, lit_11, lit_12, lit_17, lit_20, lit_30, lit_31, lit_32, lit_47, lit_48, lit_60, lit_99, lit_100, lit_144, lit_200, lit_240, lit_300, lit_576, lit_960, lit_1008, lit_1000000, lit_100000000, true_implies, not_true_eq_false, false_implies, not_false_eq_true, true_and, and_true, neg_1, nI_add, pk_mul, nI_clamp, le_nI, lt_nI, eq_nI, vp_nI, nI_NN, NN_nI, NN_lt, NN_le, lt_NN, le_NN, bz_u, xF]
    repeat' (first | refine Rn_and (by first | omega | assumption) ?_ | refine Rn_pos (by first | omega | assumption) ?_ | refine Rn_neg (by first | omega | assumption) ?_ | refine Rn_pos' (by first | omega | assumption) ?_ | refine Rn_neg' (by first | omega | assumption) ?_ | fail)
    refine Rn_if (fun h => ?_) (fun h => ?_)
    · refine ih () (fun t h1 h2 => ?_)
      by_cases e : t = i
      · rw [e, h] at h2; cases h2
      · exact hv t (by omega) h2
    · have h' : bt b i = true := by simpa using h
      by_cases hFi : F ≤ i
      · repeat' (first | refine Rn_and (by first | omega | assumption) ?_ | refine Rn_pos (by first | omega | assumption) ?_ | refine Rn_neg (by first | omega | assumption) ?_ | refine Rn_pos' (by first | omega | assumption) ?_ | refine Rn_neg' (by first | omega | assumption) ?_ | fail)
        exact Rn_ret ⟨_, rfl, rfl, Or.inr ⟨fun z => absurd (z i hi h').1 (by omega), rfl⟩⟩
      · repeat' (first | refine Rn_and (by first | omega | assumption) ?_ | refine Rn_pos (by first | omega | assumption) ?_ | refine Rn_neg (by first | omega | assumption) ?_ | refine Rn_pos' (by first | omega | assumption) ?_ | refine Rn_neg' (by first | omega | assumption) ?_ | fail)
        refine Rn_if' (fun h => ?_) (fun h => ?_)
        · exact Rn_ret ⟨_, rfl, rfl, Or.inr ⟨fun z => h (z i hi h').2, rfl⟩⟩
        · refine ih () (fun t h1 h2 => ?_)
          by_cases e : t = i
          · rw [e]; exact ⟨by omega, h⟩
          · exact hv t (by omega) h2
  · rintro _ hv
    refine Rn_map (fun Q => x_X7_areAllHere_2) ?_
    simp (disch := omega) only [lit_0, lit_1, lit_2, lit_3, lit_4, lit_5, lit_6, lit_7, lit_8, lit_9, lit_10, lit_11, lit_12, lit_17, lit_20, lit_30, lit_31, lit_32, lit_47, lit_48, lit_60, lit_99, lit_100, lit_144, lit_200, lit_240, lit_300, lit_576, lit_960, lit_1008, lit_1000000, lit_100000000, true_implies, not_true_eq_false, false_implies, not_false_eq_true, true_and, and_true, neg_1, nI_add, pk_mul, nI_clamp, le_nI, lt_nI, eq_nI, vp_nI, nI_NN, NN_nI, NN_lt, NN_le, lt_NN, le_NN]
    repeat' (first | refine Rn_and (by first | omega | assumption) ?_ | refine Rn_pos (by first | omega | assumption) ?_ | refine Rn_neg (by first | omega | assumption) ?_ | refine Rn_pos' (by first | omega | assumption) ?_ | refine Rn_neg' (by first | omega | assumption) ?_ | fail)
    exact Rn_ret ⟨_, rfl, rfl, Or.inl ⟨hv, rfl⟩⟩
theorem f_X3_learn {d f : Nat} {b mo : Int32} {σ : Mem} : Rv (fun K => CalV IX (d + 1) S_X3_learn [ar 9 f, ai b, ai mo] σ K) (fun s => s = wI (sK σ 13 (fun i k => if i = f ∧ k < 12 ∧ bt b k = true ∧ bt (σ.1 9 f 11) k = false then mo else σ.1 13 i k)) 9 f 11 (σ.1 9 f 11 ||| b)) := by
  refine Rv_map (fun K => x_X3_learn) (Rv_KV ?_)
  simp (disch := omega) only [lit_0, lit_1, lit_2, lit_3, lit_4, lit_5, lit_6, lit_7, lit_8, lit_9, lit_10, lit_11, lit_12, lit_17, lit_20, lit_30, lit_31, lit_32, lit_47, lit_48, lit_60, lit_99, lit_100, lit_144, lit_200, lit_240, lit_300, lit_576, lit_960, lit_1008, lit_1000000, lit_100000000, true_implies, not_true_eq_false, false_implies, not_false_eq_true, true_and, and_true, neg_1, nI_add, pk_mul, nI_clamp, le_nI, lt_nI, eq_nI, vp_nI, nI_NN, NN_nI, NN_lt, NN_le, lt_NN, le_NN]
  refine loopU (C := fun i s Q => J IX M_X3_learn (d + 1) 2 [(0, ar 9 f), (1, ai b), (2, ai mo), (3, ai (nI i))] [] s Q) (Inv := fun n s => s = sK σ 13 (fun i k => if i = f ∧ k < n ∧ bt b k = true ∧ bt (σ.1 9 f 11) k = false then mo else σ.1 13 i k)) (n := 12) ?_ ?_ (by omega) ?_
  · rintro i s hi hs ih
    have es : s.1 9 f 11 = σ.1 9 f 11 := by rw [hs]; rfl
    refine Rn_map (fun Q => x_X3_learn_2) ?_
    simp (disch := omega) only [lit_0, lit_1, lit_2, lit_3, lit_4, lit_5, lit_6, lit_7, lit_8, lit_9, lit_10, lit_11, lit_12, lit_17, lit_20, lit_30, lit_31, lit_32, lit_47, lit_48, lit_60, lit_99, lit_100, lit_144, lit_200, lit_240, lit_300, lit_576, lit_960, lit_1008, lit_1000000, lit_100000000, true_implies, not_true_eq_false, false_implies, not_false_eq_true, true_and, and_true, neg_1, nI_add, pk_mul, nI_clamp, le_nI, lt_nI, eq_nI, vp_nI, nI_NN, NN_nI, NN_lt, NN_le, lt_NN, le_NN, es, bz_u]
    repeat' (first | refine Rn_and (by first | omega | assumption) ?_ | refine Rn_pos (by first | omega | assumption) ?_ | refine Rn_neg (by first | omega | assumption) ?_ | refine Rn_pos' (by first | omega | assumption) ?_ | refine Rn_neg' (by first | omega | assumption) ?_ | fail)
    refine Rn_if (fun h => ?_) (fun h => ?_)
    · subst hs
      refine ih _ (Mem_ext (fun k a b => ?_) rfl)
      simp only [sK_r]
      grind
    · refine Rn_if' (fun h2 => ?_) (fun h2 => ?_)
      · subst hs
        refine ih _ (Mem_ext (fun k a b => ?_) rfl)
        simp only [sK_r]
        grind
      · repeat' (first | refine Rn_and (by first | omega | assumption) ?_ | refine Rn_pos (by first | omega | assumption) ?_ | refine Rn_neg (by first | omega | assumption) ?_ | refine Rn_pos' (by first | omega | assumption) ?_ | refine Rn_neg' (by first | omega | assumption) ?_ | fail)
        subst hs
        refine ih _ (Mem_ext (fun k a b => ?_) rfl)
        simp only [wI_r, sK_r]
        grind
  · rintro s hs
    have es : s.1 9 f 11 = σ.1 9 f 11 := by rw [hs]; rfl
    refine Rn_map (fun Q => x_X3_learn_2) ?_
    simp (disch := omega) only [lit_0, lit_1, lit_2, lit_3, lit_4, lit_5, lit_6, lit_7, lit_8, lit_9, lit_10, lit_11, lit_12, lit_17, lit_20, lit_30, lit_31, lit_32, lit_47, lit_48, lit_60, lit_99, lit_100, lit_144, lit_200, lit_240, lit_300, lit_576, lit_960, lit_1008, lit_1000000, lit_100000000, true_implies, not_true_eq_false, false_implies, not_false_eq_true, true_and, and_true, neg_1, nI_add, pk_mul, nI_clamp, le_nI, lt_nI, eq_nI, vp_nI, nI_NN, NN_nI, NN_lt, NN_le, lt_NN, le_NN, es]
    repeat' (first | refine Rn_and (by first | omega | assumption) ?_ | refine Rn_pos (by first | omega | assumption) ?_ | refine Rn_neg (by first | omega | assumption) ?_ | refine Rn_pos' (by first | omega | assumption) ?_ | refine Rn_neg' (by first | omega | assumption) ?_ | fail)
    subst hs
    exact Rn_ret ⟨rfl, rfl⟩
  · refine Mem_ext (fun k a b => ?_) rfl
    simp only [sK_r]
    grind
theorem f_X3_freeFrom {d f N : Nat} {σ : Mem} {P : Int32 → Mem → Prop} (hN : N < 48) (hc : ∀ t, t < 48 → σ.1 12 f t = NN ∨ ∃ n, n < 400 ∧ σ.1 12 f t = nI n) (hP : ∀ z, (((N = 0 ∨ ∀ n, 200 ≤ n → n < 400 → σ.1 12 f (N - 1) ≠ nI n) ∧ z = N) ∨ (0 < N ∧ (∃ n, 200 ≤ n ∧ n < 400 ∧ σ.1 12 f (N - 1) = nI n) ∧ N ≤ z ∧ z ≤ 48 ∧ (∀ t, N ≤ t → t < z → σ.1 12 f t = σ.1 12 f (N - 1)) ∧ (z < 48 → σ.1 12 f z ≠ σ.1 12 f (N - 1)))) → P (nI z) σ) : Rn (fun K => CalI IX (d + 1) S_X3_freeFrom [ar 9 f, ai (nI N)] σ K) P := by
  refine Rn_map (fun K => x_X3_freeFrom) ?_
  by_cases h0 : N = 0
  · subst h0
    simp (disch := omega) only [lit_0, lit_1, lit_2, lit_3, lit_4, lit_5, lit_6, lit_7, lit_8, lit_9, lit_10, lit_11, lit_12, lit_17, lit_20, lit_30, lit_31, lit_32, lit_47, lit_48, lit_60, lit_99, lit_100, lit_144, lit_200, lit_240, lit_300, lit_576, lit_960, lit_1008, lit_1000000, lit_100000000, true_implies, not_true_eq_false, false_implies, not_false_eq_true, true_and, and_true, neg_1, nI_add, pk_mul, nI_clamp, le_nI, lt_nI, eq_nI, vp_nI, nI_NN, NN_nI, NN_lt, NN_le, lt_NN, le_NN]
    exact Rn_ret (hP 0 (Or.inl ⟨Or.inl rfl, rfl⟩))
  have e1 : nI N - nI 1 = nI (N - 1) := pk_sub (by omega)
  simp (disch := omega) only [lit_0, lit_1, lit_2, lit_3, lit_4, lit_5, lit_6, lit_7, lit_8, lit_9, lit_10, lit_11, lit_12, lit_17, lit_20, lit_30, lit_31, lit_32, lit_47, lit_48, lit_60, lit_99, lit_100, lit_144, lit_200, lit_240, lit_300, lit_576, lit_960, lit_1008, lit_1000000, lit_100000000, true_implies, not_true_eq_false, false_implies, not_false_eq_true, true_and, and_true, neg_1, nI_add, pk_mul, nI_clamp, le_nI, lt_nI, eq_nI, vp_nI, nI_NN, NN_nI, NN_lt, NN_le, lt_NN, le_NN, e1]
  repeat' (first | refine Rn_and (by first | omega | assumption) ?_ | refine Rn_pos (by first | omega | assumption) ?_ | refine Rn_neg (by first | omega | assumption) ?_ | refine Rn_pos' (by first | omega | assumption) ?_ | refine Rn_neg' (by first | omega | assumption) ?_ | fail)
  rcases hc (N - 1) (by omega) with e | ⟨n, hn, e⟩
  · simp (disch := omega) only [lit_0, lit_1, lit_2, lit_3, lit_4, lit_5, lit_6, lit_7, lit_8, lit_9, lit_10, lit_11, lit_12, lit_17, lit_20, lit_30, lit_31, lit_32, lit_47, lit_48, lit_60, lit_99, lit_100, lit_144, lit_200, lit_240, lit_300, lit_576, lit_960, lit_1008, lit_1000000, lit_100000000, true_implies, not_true_eq_false, false_implies, not_false_eq_true, true_and, and_true, neg_1, nI_add, pk_mul, nI_clamp, le_nI, lt_nI, eq_nI, vp_nI, nI_NN, NN_nI, NN_lt, NN_le, lt_NN, le_NN, e]
    repeat' (first | refine Rn_and (by first | omega | assumption) ?_ | refine Rn_pos (by first | omega | assumption) ?_ | refine Rn_neg (by first | omega | assumption) ?_ | refine Rn_pos' (by first | omega | assumption) ?_ | refine Rn_neg' (by first | omega | assumption) ?_ | fail)
    refine Rn_ret (hP N (Or.inl ⟨Or.inr (fun n h1 h2 => ?_), rfl⟩))
    rw [e, ne_eq, NN_nI (by omega)]
    exact not_false
  · by_cases hn2 : n < 200
    · simp (disch := omega) only [lit_0, lit_1, lit_2, lit_3, lit_4, lit_5, lit_6, lit_7, lit_8, lit_9, lit_10, lit_11, lit_12, lit_17, lit_20, lit_30, lit_31, lit_32, lit_47, lit_48, lit_60, lit_99, lit_100, lit_144, lit_200, lit_240, lit_300, lit_576, lit_960, lit_1008, lit_1000000, lit_100000000, true_implies, not_true_eq_false, false_implies, not_false_eq_true, true_and, and_true, neg_1, nI_add, pk_mul, nI_clamp, le_nI, lt_nI, eq_nI, vp_nI, nI_NN, NN_nI, NN_lt, NN_le, lt_NN, le_NN, e]
      repeat' (first | refine Rn_and (by first | omega | assumption) ?_ | refine Rn_pos (by first | omega | assumption) ?_ | refine Rn_neg (by first | omega | assumption) ?_ | refine Rn_pos' (by first | omega | assumption) ?_ | refine Rn_neg' (by first | omega | assumption) ?_ | fail)
      refine Rn_ret (hP N (Or.inl ⟨Or.inr (fun m h1 h2 => ?_), rfl⟩))
      rw [e, ne_eq, eq_nI (by omega) (by omega)]
      omega
    · simp (disch := omega) only [lit_0, lit_1, lit_2, lit_3, lit_4, lit_5, lit_6, lit_7, lit_8, lit_9, lit_10, lit_11, lit_12, lit_17, lit_20, lit_30, lit_31, lit_32, lit_47, lit_48, lit_60, lit_99, lit_100, lit_144, lit_200, lit_240, lit_300, lit_576, lit_960, lit_1008, lit_1000000, lit_100000000, true_implies, not_true_eq_false, false_implies, not_false_eq_true, true_and, and_true, neg_1, nI_add, pk_mul, nI_clamp, le_nI, lt_nI, eq_nI, vp_nI, nI_NN, NN_nI, NN_lt, NN_le, lt_NN, le_NN, e]
      repeat' (first | refine Rn_and (by first | omega | assumption) ?_ | refine Rn_pos (by first | omega | assumption) ?_ | refine Rn_neg (by first | omega | assumption) ?_ | refine Rn_pos' (by first | omega | assumption) ?_ | refine Rn_neg' (by first | omega | assumption) ?_ | fail)
      refine Rn_KQ ?_
      refine loopU (C := fun i (_ : Unit) Q => J IX M_X3_freeFrom (d + 1) 22 [(0, ar 9 f), (1, ai (nI N)), (2, ai (nI i))] [] σ Q) (Inv := fun m _ => N ≤ m ∧ ∀ t, N ≤ t → t < m → σ.1 12 f t = σ.1 12 f (N - 1)) (n := 48) ?_ ?_ (by omega) ⟨by omega, fun t h1 h2 => by omega⟩ (b := ())
      · rintro i _ hi ⟨hl, hv⟩ ih
        refine Rn_map (fun Q => x_X3_freeFrom_22) ?_
        simp (disch := omega) only [lit_0, lit_1, lit_2, lit_3, lit_4, lit_5, lit_6, lit_7, lit_8, lit_9, lit_10, lit_11, lit_12, lit_17, lit_20, lit_30, lit_31, lit_32, lit_47, lit_48, lit_60, lit_99, lit_100, lit_144, lit_200, lit_240, lit_300, lit_576, lit_960, lit_1008, lit_1000000, lit_100000000, true_implies, not_true_eq_false, false_implies, not_false_eq_true, true_and, and_true, neg_1, nI_add, pk_mul, nI_clamp, le_nI, lt_nI, eq_nI, vp_nI, nI_NN, NN_nI, NN_lt, NN_le, lt_NN, le_NN, e1]
        repeat' (first | refine Rn_and (by first | omega | assumption) ?_ | refine Rn_pos (by first | omega | assumption) ?_ | refine Rn_neg (by first | omega | assumption) ?_ | refine Rn_pos' (by first | omega | assumption) ?_ | refine Rn_neg' (by first | omega | assumption) ?_ | fail)
        refine Rn_if (fun h => ?_) (fun h => ?_)
        · refine ih () ⟨by omega, fun t h1 h2 => ?_⟩
          by_cases e : t = i
          · rw [e]; exact h
          · exact hv t h1 (by omega)
        · exact Rn_ret ⟨_, rfl, hP i (Or.inr ⟨by omega, ⟨n, by omega, hn, e⟩, hl, by omega, hv, fun _ => h⟩)⟩
      · rintro _ ⟨hl, hv⟩
        refine Rn_map (fun Q => x_X3_freeFrom_22) ?_
        simp (disch := omega) only [lit_0, lit_1, lit_2, lit_3, lit_4, lit_5, lit_6, lit_7, lit_8, lit_9, lit_10, lit_11, lit_12, lit_17, lit_20, lit_30, lit_31, lit_32, lit_47, lit_48, lit_60, lit_99, lit_100, lit_144, lit_200, lit_240, lit_300, lit_576, lit_960, lit_1008, lit_1000000, lit_100000000, true_implies, not_true_eq_false, false_implies, not_false_eq_true, true_and, and_true, neg_1, nI_add, pk_mul, nI_clamp, le_nI, lt_nI, eq_nI, vp_nI, nI_NN, NN_nI, NN_lt, NN_le, lt_NN, le_NN]
        repeat' (first | refine Rn_and (by first | omega | assumption) ?_ | refine Rn_pos (by first | omega | assumption) ?_ | refine Rn_neg (by first | omega | assumption) ?_ | refine Rn_pos' (by first | omega | assumption) ?_ | refine Rn_neg' (by first | omega | assumption) ?_ | fail)
        exact Rn_ret ⟨_, rfl, hP 48 (Or.inr ⟨by omega, ⟨n, by omega, hn, e⟩, hl, by omega, hv, fun h => by omega⟩)⟩

