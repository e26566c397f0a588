variable {κ : Nat → Nat → Nat → Prop}
theorem f_X8_still {d F : Nat} {σ : Mem} (hF : F ≤ 20) (mF : σ.1 30 0 13 = nI F) : Rn (fun K => CalI IM (d + 1) S_X8_still [ar 30 0] σ K) (fun r s => s = σ ∧ r = cntF (nI 1) (nI 0) (fun f => σ.1 43 0 f) F) := by
  refine Rn_map (fun K => x_X8_still) (Rn_KQ ?_)
  simp (disch := omega) only [lit_0, lit_1, lit_2, lit_3, lit_4, lit_5, lit_6, lit_7, lit_8, lit_9, lit_10, lit_11, lit_12, lit_17, lit_20, lit_30, lit_31, lit_32, lit_47, lit_48, lit_60, lit_99, lit_100, lit_144, lit_200, lit_240, lit_300, lit_576, lit_960, lit_1008, lit_1000000, lit_100000000, true_implies, not_true_eq_false, false_implies, not_false_eq_true, true_and, and_true, neg_1, nI_add, pk_mul, nI_clamp, le_nI, lt_nI, eq_nI, vp_nI, nI_NN, NN_nI, NN_lt, NN_le, lt_NN, le_NN]
  refine loopU (C := fun i v Q => J IM M_X8_still (d + 1) 4 [(0, ar 30 0), (1, ai v), (2, ai (nI i))] [] σ Q) (Inv := fun n v => v = cntF (nI 1) (nI 0) (fun f => σ.1 43 0 f) n) (n := F) ?_ ?_ (by omega) rfl
  · rintro i v hi hv ih
    refine Rn_map (fun Q => x_X8_still_4) ?_
    simp (disch := omega) only [lit_0, lit_1, lit_2, lit_3, lit_4, lit_5, lit_6, lit_7, lit_8, lit_9, lit_10, lit_11, lit_12, lit_17, lit_20, lit_30, lit_31, lit_32, lit_47, lit_48, lit_60, lit_99, lit_100, lit_144, lit_200, lit_240, lit_300, lit_576, lit_960, lit_1008, lit_1000000, lit_100000000, true_implies, not_true_eq_false, false_implies, not_false_eq_true, true_and, and_true, neg_1, nI_add, pk_mul, nI_clamp, le_nI, lt_nI, eq_nI, vp_nI, nI_NN, NN_nI, NN_lt, NN_le, lt_NN, le_NN, mF]
    repeat' (first | refine Rn_and (by first | omega | assumption) ?_ | refine Rn_pos (by first | omega | assumption) ?_ | refine Rn_neg (by first | omega | assumption) ?_ | refine Rn_pos' (by first | omega | assumption) ?_ | refine Rn_neg' (by first | omega | assumption) ?_ | fail)
    subst hv
    refine Rn_if (fun c => ?_) (fun c => ?_)
    · exact ih _ (by rw [cntF, if_pos c])
    · exact ih _ (by rw [cntF, if_neg c])
  · rintro v hv
    refine Rn_map (fun Q => x_X8_still_4) ?_
    simp (disch := omega) only [lit_0, lit_1, lit_2, lit_3, lit_4, lit_5, lit_6, lit_7, lit_8, lit_9, lit_10, lit_11, lit_12, lit_17, lit_20, lit_30, lit_31, lit_32, lit_47, lit_48, lit_60, lit_99, lit_100, lit_144, lit_200, lit_240, lit_300, lit_576, lit_960, lit_1008, lit_1000000, lit_100000000, true_implies, not_true_eq_false, false_implies, not_false_eq_true, true_and, and_true, neg_1, nI_add, pk_mul, nI_clamp, le_nI, lt_nI, eq_nI, vp_nI, nI_NN, NN_nI, NN_lt, NN_le, lt_NN, le_NN, mF]
    repeat' (first | refine Rn_and (by first | omega | assumption) ?_ | refine Rn_pos (by first | omega | assumption) ?_ | refine Rn_neg (by first | omega | assumption) ?_ | refine Rn_pos' (by first | omega | assumption) ?_ | refine Rn_neg' (by first | omega | assumption) ?_ | fail)
    exact Rn_ret ⟨_, rfl, rfl, hv⟩
theorem f_X8_bent {d F : Nat} {σ : Mem} (hF : F ≤ 20) (mF : σ.1 30 0 13 = nI F) : Rn (fun K => CalI IM (d + 1) S_X8_bent [ar 30 0] σ K) (fun r s => s = σ ∧ r = cntF (nI 0) (nI 1) (fun f => σ.1 44 0 f) F) := by
  refine Rn_map (fun K => x_X8_bent) (Rn_KQ ?_)
  simp (disch := omega) only [lit_0, lit_1, lit_2, lit_3, lit_4, lit_5, lit_6, lit_7, lit_8, lit_9, lit_10, lit_11, lit_12, lit_17, lit_20, lit_30, lit_31, lit_32, lit_47, lit_48, lit_60, lit_99, lit_100, lit_144, lit_200, lit_240, lit_300, lit_576, lit_960, lit_1008, lit_1000000, lit_100000000, true_implies, not_true_eq_false, false_implies, not_false_eq_true, true_and, and_true, neg_1, nI_add, pk_mul, nI_clamp, le_nI, lt_nI, eq_nI, vp_nI, nI_NN, NN_nI, NN_lt, NN_le, lt_NN, le_NN]
  refine loopU (C := fun i v Q => J IM M_X8_bent (d + 1) 4 [(0, ar 30 0), (1, ai v), (2, ai (nI i))] [] σ Q) (Inv := fun n v => v = cntF (nI 0) (nI 1) (fun f => σ.1 44 0 f) n) (n := F) ?_ ?_ (by omega) rfl
  · rintro i v hi hv ih
    refine Rn_map (fun Q => x_X8_bent_4) ?_
    simp (disch := omega) only [lit_0, lit_1, lit_2, lit_3, lit_4, lit_5, lit_6, lit_7, lit_8, lit_9, lit_10, lit_11, lit_12, lit_17, lit_20, lit_30, lit_31, lit_32, lit_47, lit_48, lit_60, lit_99, lit_100, lit_144, lit_200, lit_240, lit_300, lit_576, lit_960, lit_1008, lit_1000000, lit_100000000, true_implies, not_true_eq_false, false_implies, not_false_eq_true, true_and, and_true, neg_1, nI_add, pk_mul, nI_clamp, le_nI, lt_nI, eq_nI, vp_nI, nI_NN, NN_nI, NN_lt, NN_le, lt_NN, le_NN, mF]
    repeat' (first | refine Rn_and (by first | omega | assumption) ?_ | refine Rn_pos (by first | omega | assumption) ?_ | refine Rn_neg (by first | omega | assumption) ?_ | refine Rn_pos' (by first | omega | assumption) ?_ | refine Rn_neg' (by first | omega | assumption) ?_ | fail)
    subst hv
    refine Rn_if (fun c => ?_) (fun c => ?_)
    · exact ih _ (by rw [cntF, if_pos c])
    · exact ih _ (by rw [cntF, if_neg c])
  · rintro v hv
    refine Rn_map (fun Q => x_X8_bent_4) ?_
    simp (disch := omega) only [lit_0, lit_1, lit_2, lit_3, lit_4, lit_5, lit_6, lit_7, lit_8, lit_9, lit_10, lit_11, lit_12, lit_17, lit_20, lit_30, lit_31, lit_32, lit_47, lit_48, lit_60, lit_99, lit_100, lit_144, lit_200, lit_240, lit_300, lit_576, lit_960, lit_1008, lit_1000000, lit_100000000, true_implies, not_true_eq_false, false_implies, not_false_eq_true, true_and, and_true, neg_1, nI_add, pk_mul, nI_clamp, le_nI, lt_nI, eq_nI, vp_nI, nI_NN, NN_nI, NN_lt, NN_le, lt_NN, le_NN, mF]
    repeat' (first | refine Rn_and (by first | omega | assumption) ?_ | refine Rn_pos (by first | omega | assumption) ?_ | refine Rn_neg (by first | omega | assumption) ?_ | refine Rn_pos' (by first | omega | assumption) ?_ | refine Rn_neg' (by first | omega | assumption) ?_ | fail)
    exact Rn_ret ⟨_, rfl, rfl, hv⟩
theorem f_X8_locked {d A : Nat} {σ : Mem} (hA : A ≤ 12) (mP : σ.1 30 0 5 = nI A) : Rn (fun K => CalI IM (d + 1) S_X8_locked [ar 30 0] σ K) (fun r s => s = σ ∧ r = cntF (nI 0) (nI 1) (fun f => σ.1 35 0 f) A) := by
  refine Rn_map (fun K => x_X8_locked) (Rn_KQ ?_)
  simp (disch := omega) only [lit_0, lit_1, lit_2, lit_3, lit_4, lit_5, lit_6, lit_7, lit_8, lit_9, lit_10, lit_11, lit_12, lit_17, lit_20, lit_30, lit_31, lit_32, lit_47, lit_48, lit_60, lit_99, lit_100, lit_144, lit_200, lit_240, lit_300, lit_576, lit_960, lit_1008, lit_1000000, lit_100000000, true_implies, not_true_eq_false, false_implies, not_false_eq_true, true_and, and_true, neg_1, nI_add, pk_mul, nI_clamp, le_nI, lt_nI, eq_nI, vp_nI, nI_NN, NN_nI, NN_lt, NN_le, lt_NN, le_NN]
  refine loopU (C := fun i v Q => J IM M_X8_locked (d + 1) 4 [(0, ar 30 0), (1, ai v), (2, ai (nI i))] [] σ Q) (Inv := fun n v => v = cntF (nI 0) (nI 1) (fun f => σ.1 35 0 f) n) (n := A) ?_ ?_ (by omega) rfl
  · rintro i v hi hv ih
    refine Rn_map (fun Q => x_X8_locked_4) ?_
    simp (disch := omega) only [lit_0, lit_1, lit_2, lit_3, lit_4, lit_5, lit_6, lit_7, lit_8, lit_9, lit_10, lit_11, lit_12, lit_17, lit_20, lit_30, lit_31, lit_32, lit_47, lit_48, lit_60, lit_99, lit_100, lit_144, lit_200, lit_240, lit_300, lit_576, lit_960, lit_1008, lit_1000000, lit_100000000, true_implies, not_true_eq_false, false_implies, not_false_eq_true, true_and, and_true, neg_1, nI_add, pk_mul, nI_clamp, le_nI, lt_nI, eq_nI, vp_nI, nI_NN, NN_nI, NN_lt, NN_le, lt_NN, le_NN, mP]
    repeat' (first | refine Rn_and (by first | omega | assumption) ?_ | refine Rn_pos (by first | omega | assumption) ?_ | refine Rn_neg (by first | omega | assumption) ?_ | refine Rn_pos' (by first | omega | assumption) ?_ | refine Rn_neg' (by first | omega | assumption) ?_ | fail)
    subst hv
    refine Rn_if (fun c => ?_) (fun c => ?_)
    · exact ih _ (by rw [cntF, if_pos c])
    · exact ih _ (by rw [cntF, if_neg c])
  · rintro v hv
    refine Rn_map (fun Q => x_X8_locked_4) ?_
    simp (disch := omega) only [lit_0, lit_1, lit_2, lit_3, lit_4, lit_5, lit_6, lit_7, lit_8, lit_9, lit_10, lit_11, lit_12, lit_17, lit_20, lit_30, lit_31, lit_32, lit_47, lit_48, lit_60, lit_99, lit_100, lit_144, lit_200, lit_240, lit_300, lit_576, lit_960, lit_1008, lit_1000000, lit_100000000, true_implies, not_true_eq_false, false_implies, not_false_eq_true, true_and, and_true, neg_1, nI_add, pk_mul, nI_clamp, le_nI, lt_nI, eq_nI, vp_nI, nI_NN, NN_nI, NN_lt, NN_le, lt_NN, le_NN, mP]
    repeat' (first | refine Rn_and (by first | omega | assumption) ?_ | refine Rn_pos (by first | omega | assumption) ?_ | refine Rn_neg (by first | omega | assumption) ?_ | refine Rn_pos' (by first | omega | assumption) ?_ | refine Rn_neg' (by first | omega | assumption) ?_ | fail)
    exact Rn_ret ⟨_, rfl, rfl, hv⟩
theorem f_X8_willBeIn {d f lo : Nat} {c : Int32} {σ : Mem} (hf : f < 20) (hlo : lo ≤ 48) (mN : σ.1 30 0 2 = nI lo) : Rn (fun K => CalI IM (d + 1) S_X8_willBeIn [ar 30 0, ai (nI f), ai c] σ K) (fun r s => s = σ ∧ (((∃ t, lo ≤ t ∧ t < 48 ∧ σ.1 46 0 (48 * f + t) = c) ∧ r = nI 1) ∨ ((∀ t, lo ≤ t → t < 48 → σ.1 46 0 (48 * f + t) ≠ c) ∧ r = nI 0))) := by
  refine Rn_map (fun K => x_X8_willBeIn) (Rn_KQ ?_)
  rw [mN]
  refine loopU (C := fun i (_ : Unit) Q => J IM M_X8_willBeIn (d + 1) 5 [(0, ar 30 0), (1, ai (nI f)), (2, ai c), (3, ai (nI i))] [] σ Q) (Inv := fun n _ => lo ≤ n ∧ ∀ t, lo ≤ t → t < n → σ.1 46 0 (48 * f + t) ≠ c) (n := 48) ?_ ?_ hlo ⟨by omega, fun t h1 h2 => by omega⟩ (b := ())
  · rintro i _ hi ⟨hl, hv⟩ ih
    refine Rn_map (fun Q => x_X8_willBeIn_5) ?_
    simp (disch := omega) only [lit_0, lit_1, lit_2, lit_3, lit_4, lit_5, lit_6, lit_7, lit_8, lit_9, lit_10, lit_11, lit_12, lit_17, lit_20, lit_30, lit_31, lit_32, lit_47, lit_48, lit_60, lit_99, lit_100, lit_144, lit_200, lit_240, lit_300, lit_576, lit_960, lit_1008, lit_1000000, lit_100000000, true_implies, not_true_eq_false, false_implies, not_false_eq_true, true_and, and_true, neg_1, nI_add, pk_mul, nI_clamp, le_nI, lt_nI, eq_nI, vp_nI, nI_NN, NN_nI, NN_lt, NN_le, lt_NN, le_NN]
    repeat' (first | refine Rn_and (by first | omega | assumption) ?_ | refine Rn_pos (by first | omega | assumption) ?_ | refine Rn_neg (by first | omega | assumption) ?_ | refine Rn_pos' (by first | omega | assumption) ?_ | refine Rn_neg' (by first | omega | assumption) ?_ | fail)
    refine Rn_if' (fun h => ?_) (fun h => ?_)
    · refine ih () ⟨by omega, fun t h1 h2 => ?_⟩
      by_cases e : t = i
      · rw [e]; exact h
      · exact hv t h1 (by omega)
    · exact Rn_ret ⟨_, rfl, rfl, Or.inl ⟨⟨i, by omega, hi, h⟩, rfl⟩⟩
  · rintro _ ⟨hl, hv⟩
    refine Rn_map (fun Q => x_X8_willBeIn_5) ?_
    simp (disch := omega) only [lit_0, lit_1, lit_2, lit_3, lit_4, lit_5, lit_6, lit_7, lit_8, lit_9, lit_10, lit_11, lit_12, lit_17, lit_20, lit_30, lit_31, lit_32, lit_47, lit_48, lit_60, lit_99, lit_100, lit_144, lit_200, lit_240, lit_300, lit_576, lit_960, lit_1008, lit_1000000, lit_100000000, true_implies, not_true_eq_false, false_implies, not_false_eq_true, true_and, and_true, neg_1, nI_add, pk_mul, nI_clamp, le_nI, lt_nI, eq_nI, vp_nI, nI_NN, NN_nI, NN_lt, NN_le, lt_NN, le_NN]
    repeat' (first | refine Rn_and (by first | omega | assumption) ?_ | refine Rn_pos (by first | omega | assumption) ?_ | refine Rn_neg (by first | omega | assumption) ?_ | refine Rn_pos' (by first | omega | assumption) ?_ | refine Rn_neg' (by first | omega | assumption) ?_ | fail)
    exact Rn_ret ⟨_, rfl, rfl, Or.inr ⟨hv, rfl⟩⟩
theorem f_X8_areFolk {d F : Nat} {b : Int32} {σ : Mem} (hF : F ≤ 20) (mF : σ.1 30 0 13 = nI F) : Rn (fun K => CalI IM (d + 3) S_X8_areFolk [ar 30 0, ai b] σ K) (fun r s => s = σ ∧ (((∀ f, f < 32 → bt b f = true → f < F ∧ σ.1 43 0 f = nI 0) ∧ r = nI 1) ∨ (¬ (∀ f, f < 32 → bt b f = true → f < F ∧ σ.1 43 0 f = nI 0) ∧ r = nI 0))) := by
  refine Rn_map (fun K => x_X8_areFolk) (Rn_KQ ?_)
  simp (disch := omega) only [lit_0, lit_1, lit_2, lit_3, lit_4, lit_5, lit_6, lit_7, lit_8, lit_9, lit_10, lit_11, lit_12, lit_17, lit_20, lit_30, lit_31, lit_32, lit_47, lit_48, lit_60, lit_99, lit_100, lit_144, lit_200, lit_240, lit_300, lit_576, lit_960, lit_1008, lit_1000000, lit_100000000, true_implies, not_true_eq_false, false_implies, not_false_eq_true, true_and, and_true, neg_1, nI_add, pk_mul, nI_clamp, le_nI, lt_nI, eq_nI, vp_nI, nI_NN, NN_nI, NN_lt, NN_le, lt_NN, le_NN]
  refine loopU (C := fun i (_ : Unit) Q => J IM M_X8_areFolk (d + 3) 2 [(0, ar 30 0), (1, ai b), (2, ai (nI i))] [] σ Q) (Inv := fun n _ => ∀ f, f < n → bt b f = true → f < F ∧ σ.1 43 0 f = nI 0) (n := 32) ?_ ?_ (by omega) (fun t h1 h2 => by omega) (b := ())
  · rintro i _ hi hv ih
    refine Rn_map (fun Q => x_X8_areFolk_2) ?_
    have e0 : nI F - nI 1 = if F = 0 then NN else nI (F - 1) := by
      by_cases h : F = 0
      · subst h; rfl
      · rw [if_neg h]; exact pk_sub (by omega)
    simp (disch := omega) only [lit_0, lit_1, lit_2, lit_3, lit_4, lit_5, lit_6, lit_7, lit_8, lit_9, lit_10, lit_11, lit_12, lit_17, lit_20, lit_30, lit_31, lit_32, lit_47, lit_48, lit_60, lit_99, lit_100, lit_144, lit_200, lit_240, lit_300, lit_576, lit_960, lit_1008, lit_1000000, lit_100000000, true_implies, not_true_eq_false, false_implies, not_false_eq_true, true_and, and_true, neg_1, nI_add, pk_mul, nI_clamp, le_nI, lt_nI, eq_nI, vp_nI, nI_NN, NN_nI, NN_lt, NN_le, lt_NN, le_NN, bo_s, mF, e0]
    repeat' (first | refine Rn_and (by first | omega | assumption) ?_ | refine Rn_pos (by first | omega | assumption) ?_ | refine Rn_neg (by first | omega | assumption) ?_ | refine Rn_pos' (by first | omega | assumption) ?_ | refine Rn_neg' (by first | omega | assumption) ?_ | fail)
    refine Rn_if' (fun h => ?_) (fun h => ?_)
    · refine ih () (fun t h1 h2 => ?_)
      by_cases e : t = i
      · rw [e] at h2; exact absurd h2 h
      · exact hv t (by omega) h2
    · have h' : bt b i = true := h
      by_cases hFi : F ≤ i
      · have e1 : (if F = 0 then NN else nI (F - 1)) < nI i := by
          by_cases h : F = 0
          · rw [if_pos h, NN_lt (by omega)]; exact trivial
          · rw [if_neg h, lt_nI (by omega) (by omega)]; omega
        repeat' (first | refine Rn_and (by first | omega | assumption) ?_ | refine Rn_pos (by first | omega | assumption) ?_ | refine Rn_neg (by first | omega | assumption) ?_ | refine Rn_pos' (by first | omega | assumption) ?_ | refine Rn_neg' (by first | omega | assumption) ?_ | fail)
        exact Rn_ret ⟨_, rfl, rfl, Or.inr ⟨fun z => absurd (z i hi h').1 (by omega), rfl⟩⟩
      · have e1 : ¬ (if F = 0 then NN else nI (F - 1)) < nI i := by
          rw [if_neg (by omega), lt_nI (by omega) (by omega)]; omega
        repeat' (first | refine Rn_and (by first | omega | assumption) ?_ | refine Rn_pos (by first | omega | assumption) ?_ | refine Rn_neg (by first | omega | assumption) ?_ | refine Rn_pos' (by first | omega | assumption) ?_ | refine Rn_neg' (by first | omega | assumption) ?_ | fail)
        refine Rn_if' (fun h => ?_) (fun h => ?_)
        · exact Rn_ret ⟨_, rfl, rfl, Or.inr ⟨fun z => h (z i hi h').2, rfl⟩⟩
        · refine ih () (fun t h1 h2 => ?_)
          by_cases e : t = i
          · rw [e]; exact ⟨by omega, h⟩
          · exact hv t (by omega) h2
  · rintro _ hv
    refine Rn_map (fun Q => x_X8_areFolk_2) ?_
    simp (disch := omega) only [lit_0, lit_1, lit_2, lit_3, lit_4, lit_5, lit_6, lit_7, lit_8, lit_9, lit_10, lit_11, lit_12, lit_17, lit_20, lit_30, lit_31, lit_32, lit_47, lit_48, lit_60, lit_99, lit_100, lit_144, lit_200, lit_240, lit_300, lit_576, lit_960, lit_1008, lit_1000000, lit_100000000, true_implies, not_true_eq_false, false_implies, not_false_eq_true, true_and, and_true, neg_1, nI_add, pk_mul, nI_clamp, le_nI, lt_nI, eq_nI, vp_nI, nI_NN, NN_nI, NN_lt, NN_le, lt_NN, le_NN]
    repeat' (first | refine Rn_and (by first | omega | assumption) ?_ | refine Rn_pos (by first | omega | assumption) ?_ | refine Rn_neg (by first | omega | assumption) ?_ | refine Rn_pos' (by first | omega | assumption) ?_ | refine Rn_neg' (by first | omega | assumption) ?_ | fail)
    exact Rn_ret ⟨_, rfl, rfl, Or.inl ⟨hv, rfl⟩⟩
def popF (x : Int32) : Nat → Nat
  | 0 => 0
  | n + 1 => popF x n + if bt x n = true then 1 else 0
theorem popF_le (x : Int32) : ∀ n, popF x n ≤ n
  | 0 => Nat.le_refl 0
  | n + 1 => by
    rw [popF]
    have := popF_le x n
    split <;> omega
theorem f_X8_many {d : Nat} {b : Int32} {σ : Mem} : Rn (fun K => CalI IM (d + 1) S_X8_many [ai b] σ K) (fun r s => s = σ ∧ r = nI (popF b 32)) := by
  refine Rn_map (fun K => x_X8_many) (Rn_KQ ?_)
  simp (disch := omega) only [lit_0, lit_1, lit_2, lit_3, lit_4, lit_5, lit_6, lit_7, lit_8, lit_9, lit_10, lit_11, lit_12, lit_17, lit_20, lit_30, lit_31, lit_32, lit_47, lit_48, lit_60, lit_99, lit_100, lit_144, lit_200, lit_240, lit_300, lit_576, lit_960, lit_1008, lit_1000000, lit_100000000, true_implies, not_true_eq_false, false_implies, not_false_eq_true, true_and, and_true, neg_1, nI_add, pk_mul, nI_clamp, le_nI, lt_nI, eq_nI, vp_nI, nI_NN, NN_nI, NN_lt, NN_le, lt_NN, le_NN]
  refine loopU (C := fun i v Q => J IM M_X8_many (d + 1) 4 [(0, ai b), (1, ai v), (2, ai (nI i))] [] σ Q) (Inv := fun n v => v = nI (popF b n)) (n := 32) ?_ ?_ (by omega) rfl
  · rintro i v hi hv ih
    refine Rn_map (fun Q => x_X8_many_4) ?_
    simp (disch := omega) only [lit_0, lit_1, lit_2, lit_3, lit_4, lit_5, lit_6, lit_7, lit_8, lit_9, lit_10, lit_11, lit_12, lit_17, lit_20, lit_30, lit_31, lit_32, lit_47, lit_48, lit_60, lit_99, lit_100, lit_144, lit_200, lit_240, lit_300, lit_576, lit_960, lit_1008, lit_1000000, lit_100000000, true_implies, not_true_eq_false, false_implies, not_false_eq_true, true_and, and_true, neg_1, nI_add, pk_mul, nI_clamp, le_nI, lt_nI, eq_nI, vp_nI, nI_NN, NN_nI, NN_lt, NN_le, lt_NN, le_NN, bv_u]
    repeat' (first | refine Rn_and (by first | omega | assumption) ?_ | refine Rn_pos (by first | omega | assumption) ?_ | refine Rn_neg (by first | omega | assumption) ?_ | refine Rn_pos' (by first | omega | assumption) ?_ | refine Rn_neg' (by first | omega | assumption) ?_ | fail)
    subst hv
    refine ih _ ?_
    rw [popF]
    split <;> rw [nI_add]
  · rintro v hv
    refine Rn_map (fun Q => x_X8_many_4) ?_
    simp (disch := omega) only [lit_0, lit_1, lit_2, lit_3, lit_4, lit_5, lit_6, lit_7, lit_8, lit_9, lit_10, lit_11, lit_12, lit_17, lit_20, lit_30, lit_31, lit_32, lit_47, lit_48, lit_60, lit_99, lit_100, lit_144, lit_200, lit_240, lit_300, lit_576, lit_960, lit_1008, lit_1000000, lit_100000000, true_implies, not_true_eq_false, false_implies, not_false_eq_true, true_and, and_true, neg_1, nI_add, pk_mul, nI_clamp, le_nI, lt_nI, eq_nI, vp_nI, nI_NN, NN_nI, NN_lt, NN_le, lt_NN, le_NN]
    repeat' (first | refine Rn_and (by first | omega | assumption) ?_ | refine Rn_pos (by first | omega | assumption) ?_ | refine Rn_neg (by first | omega | assumption) ?_ | refine Rn_pos' (by first | omega | assumption) ?_ | refine Rn_neg' (by first | omega | assumption) ?_ | fail)
    exact Rn_ret ⟨_, rfl, rfl, hv⟩

