variable {κ : Nat → Nat → Nat → Prop}
def dPl (c : Nat → Int32) (A i : Nat) : Prop := 0 ≤ (c (4 * i)).toInt ∧ (c (4 * i)).toInt < A
def dSp (c : Nat → Int32) (i : Nat) : Prop := 0 ≤ (c (4 * i + 1)).toInt ∧ (c (4 * i + 1)).toInt < (c (4 * i + 2)).toInt ∧ (c (4 * i + 2)).toInt ≤ 48
def dWt (c : Nat → Int32) (i : Nat) : Prop := 1 ≤ (c (4 * i + 3)).toInt ∧ (c (4 * i + 3)).toInt ≤ 100
def dFv (c : Nat → Int32) (A : Nat) (l : Nat → Nat → Nat) (i v : Nat) : Prop := (¬ dPl c A i ∧ v = 2) ∨ (dPl c A i ∧ ¬ dSp c i ∧ v = 3) ∨ (dPl c A i ∧ dSp c i ∧ ¬ dWt c i ∧ v = 4) ∨ (dPl c A i ∧ dSp c i ∧ dWt c i ∧ dMt c i i ∧ v = 5) ∨ (dPl c A i ∧ dSp c i ∧ dWt c i ∧ ¬ dMt c i i ∧ ¬ dRe c l i ∧ v = 6) ∨ (dPl c A i ∧ dSp c i ∧ dWt c i ∧ ¬ dMt c i i ∧ dRe c l i ∧ v = 0)
theorem dFv_u {c : Nat → Int32} {A : Nat} {l : Nat → Nat → Nat} {i v v' : Nat} (h : dFv c A l i v) (h' : dFv c A l i v') : v = v' := by
  unfold dFv at h h'
  grind
theorem dFv_ok {c : Nat → Int32} {A : Nat} {l : Nat → Nat → Nat} {i : Nat} (h : dFv c A l i 0) : dPl c A i ∧ dSp c i ∧ dWt c i := by
  unfold dFv at h
  grind
theorem OKd_of {c : Nat → Int32} {A i : Nat} (h1 : dPl c A i) (h2 : dSp c i) : OKd c A i := by
  obtain ⟨p, hp, e1⟩ := of_tI h1.1 h1.2
  obtain ⟨i1, i2, i3⟩ := h2
  obtain ⟨a, ha, e2⟩ := of_tI (x := c (4 * i + 1)) (n := 48) (by omega) (by omega)
  obtain ⟨b, hb, e3⟩ := of_tI (x := c (4 * i + 2)) (n := 49) (by omega) (by omega)
  have i2' := i2
  rw [e2, e3, nI_toInt (by omega), nI_toInt (by omega)] at i2'
  exact ⟨p, a, b, hp, by omega, by omega, e1, e2, e3⟩
def dRes (c : Nat → Int32) (A : Nat) (l : Nat → Nat → Nat) (n : Nat) (a b : Int32) : Prop := (¬ (n % 4 = 0 ∧ n ≤ 48) ∧ a = nI 1 ∧ b = nI 0) ∨ (n % 4 = 0 ∧ n ≤ 48 ∧ ((a = nI 0 ∧ b = NN ∧ ∀ i, i < n / 4 → dFv c A l i 0) ∨ ∃ i v, i < n / 4 ∧ v ≠ 0 ∧ v < 7 ∧ a = nI v ∧ b = nI i ∧ dFv c A l i v ∧ ∀ j, j < i → dFv c A l j 0))
theorem dRes_u {c : Nat → Int32} {A : Nat} {l : Nat → Nat → Nat} {n : Nat} {a b a' b' : Int32} (h : dRes c A l n a b) (h' : dRes c A l n a' b') : a = a' ∧ b = b' := by
  rcases h with ⟨h1, h2, h3⟩ | ⟨h1, h2, ⟨h3, h4, h5⟩ | ⟨i, v, h3, h4, h4b, h5, h6, h7, h8⟩⟩ <;> rcases h' with ⟨k1, k2, k3⟩ | ⟨k1, k2, ⟨k3, k4, k5⟩ | ⟨j, u, k3, k4, k4b, k5, k6, k7, k8⟩⟩
  · exact ⟨h2.trans k2.symm, h3.trans k3.symm⟩
  · exact absurd ⟨k1, k2⟩ h1
  · exact absurd ⟨k1, k2⟩ h1
  · exact absurd ⟨h1, h2⟩ k1
  · exact ⟨h3.trans k3.symm, h4.trans k4.symm⟩
  · exact absurd (dFv_u (h5 j k3) k7).symm k4
  · exact absurd ⟨h1, h2⟩ k1
  · exact absurd (dFv_u (k5 i h3) h7).symm h4
  · have e : i = j := by
      rcases Nat.lt_trichotomy i j with q | q | q
      · exact absurd (dFv_u (k8 i q) h7).symm h4
      · exact q
      · exact absurd (dFv_u (h8 j q) k7).symm k4
    subst e
    have e2 := dFv_u h7 k7
    subst e2
    exact ⟨h5.trans k5.symm, h6.trans k6.symm⟩
theorem f_X0_examine {d z n A : Nat} {c : Nat → Int32} {l : Nat → Nat → Nat} {σ : Mem} {P : Mem → Prop} (hA : A ≤ 12) (hn : n ≤ 60) (xA : σ.1 1 0 5 = nI A) (hsz : σ.1 7 z 3 = nI n) (hc : ∀ k, k < 60 → Int64.toInt32 (σ.2 8 z k) = c k) (hl : ∀ a b, a < A → b < A → l a b ≤ 1000000 ∧ σ.1 6 0 (a * 12 + b) = if l a b = 1000000 then NN else nI (l a b)) (hP : ∀ a b, dRes c A l n a b → P (wI (wI σ 23 0 0 a) 23 0 1 b)) : Rv (fun K => CalV IX (d + 6) S_X0_examine [ar 23 0, ar 7 z, ar 1 0] σ K) P := by
  refine Rv_map (fun K => x_X0_examine) ?_
  have edv : nI n / nI 4 = nI (n / 4) := pk_div (by omega) (by omega) (by omega)
  have esb : nI n - nI (n / 4 * 4) = nI (n % 4) := by rw [pk_sub (by omega)]; congr 1; omega
  have fin : ∀ a b, wI (wI (wI (wI σ 23 0 0 (nI 0)) 23 0 1 NN) 23 0 0 a) 23 0 1 b = wI (wI σ 23 0 0 a) 23 0 1 b := by
    intro a b
    refine Mem_ext (fun k i j => ?_) rfl
    simp only [wI_r]
    grind
  have fin0 : wI (wI (wI σ 23 0 0 (nI 0)) 23 0 1 NN) 23 0 0 (nI 0) = wI (wI σ 23 0 0 (nI 0)) 23 0 1 NN := by
    refine Mem_ext (fun k i j => ?_) rfl
    simp only [wI_r]
    grind
  by_cases h4 : n % 4 = 0
  · by_cases h48 : n ≤ 48
    · simp (disch := omega) only [lit_0, lit_1, lit_2, lit_3, lit_4, lit_5, lit_6, lit_7, lit_8, lit_9, lit_10, lit_11, lit_12, lit_17, lit_20, lit_30, lit_31, lit_32, lit_47, lit_48, lit_60, lit_99, lit_100, lit_144, lit_200, lit_240, lit_300, lit_576, lit_960, lit_1008, lit_1000000, lit_100000000, true_implies, not_true_eq_false, false_implies, not_false_eq_true, true_and, and_true, neg_1, nI_add, pk_mul, nI_clamp, le_nI, lt_nI, eq_nI, vp_nI, nI_NN, NN_nI, NN_lt, NN_le, lt_NN, le_NN, hsz, edv, esb]
      repeat' (first | refine Rv_and (by first | omega | assumption) ?_ | refine Rv_pos (by first | omega | assumption) ?_ | refine Rv_neg (by first | omega | assumption) ?_ | refine Rv_pos' (by first | omega | assumption) ?_ | refine Rv_neg' (by first | omega | assumption) ?_ | fail)
      refine Rv_KV ?_
      refine loopU (C := fun i s Q => J IX M_X0_examine (d + 6) 41 [(0, ar 23 0), (1, ar 7 z), (2, ar 1 0), (3, ai (nI i))] [] s Q) (Inv := fun m s => s = wI (wI σ 23 0 0 (nI 0)) 23 0 1 NN ∧ ∀ i, i < m → dFv c A l i 0) (n := n / 4) ?_ ?_ (by omega) ⟨rfl, fun i hi => by omega⟩
      · rintro i s hi ⟨hs, hall⟩ ih
        have s1 : s.1 1 0 5 = nI A := by rw [hs]; exact xA
        have s2 : s.1 7 z 3 = nI n := by rw [hs]; exact hsz
        have s3 : s.2 = σ.2 := by rw [hs]; rfl
        have s4 : ∀ j, s.1 6 0 j = σ.1 6 0 j := by intro j; rw [hs]; rfl
        have hc' : ∀ k, k < 60 → Int64.toInt32 (s.2 8 z k) = c k := by rw [s3]; exact hc
        have out : ∀ v, v ≠ 0 → v < 7 → dFv c A l i v → P (wI (wI s 23 0 0 (nI v)) 23 0 1 (nI i)) := by
          intro v h0 h7 hv
          rw [hs, fin]
          exact hP _ _ (Or.inr ⟨h4, h48, Or.inr ⟨i, v, hi, h0, h7, rfl, rfl, hv, hall⟩⟩)
        refine Rn_map (fun Q => x_X0_examine_41) ?_
        simp (disch := omega) only [lit_0, lit_1, lit_2, lit_3, lit_4, lit_5, lit_6, lit_7, lit_8, lit_9, lit_10, lit_11, lit_12, lit_17, lit_20, lit_30, lit_31, lit_32, lit_47, lit_48, lit_60, lit_99, lit_100, lit_144, lit_200, lit_240, lit_300, lit_576, lit_960, lit_1008, lit_1000000, lit_100000000, true_implies, not_true_eq_false, false_implies, not_false_eq_true, true_and, and_true, neg_1, nI_add, pk_mul, nI_clamp, vp_nI, tI_lt, tI_le, tI_eq, tI_nI, tI_NN, tI_pred, s1, s2, edv, m4, hc']
        by_cases c1 : dPl c A i
        · have c1' := c1
          unfold dPl at c1'
          by_cases c2 : dSp c i
          · have c2' := c2
            unfold dSp at c2'
            by_cases c3 : dWt c i
            · have c3' := c3
              unfold dWt at c3'
              repeat' (first | refine Rn_and (by first | omega | assumption) ?_ | refine Rn_pos (by first | omega | assumption) ?_ | refine Rn_neg (by first | omega | assumption) ?_ | refine Rn_pos' (by first | omega | assumption) ?_ | refine Rn_neg' (by first | omega | assumption) ?_ | fail)
              have okall : ∀ e, e ≤ i → OKd c A e := by
                intro e he
                by_cases e1 : e = i
                · rw [e1]; exact OKd_of c1 c2
                · have := dFv_ok (hall e (by omega))
                  exact OKd_of this.1 this.2.1
              refine Rn_cI (f_X0_meetsEarlier (by omega) hc' (fun hm => ?_) (fun hm => ?_))
              · simp (disch := omega) only [lit_0, lit_1, lit_2, lit_3, lit_4, lit_5, lit_6, lit_7, lit_8, lit_9, lit_10, lit_11, lit_12, lit_17, lit_20, lit_30, lit_31, lit_32, lit_47, lit_48, lit_60, lit_99, lit_100, lit_144, lit_200, lit_240, lit_300, lit_576, lit_960, lit_1008, lit_1000000, lit_100000000, true_implies, not_true_eq_false, false_implies, not_false_eq_true, true_and, and_true, neg_1, nI_add, pk_mul, nI_clamp, vp_nI, tI_lt, tI_le, tI_eq, tI_nI, tI_NN, tI_pred]
                repeat' (first | refine Rn_and (by first | omega | assumption) ?_ | refine Rn_pos (by first | omega | assumption) ?_ | refine Rn_neg (by first | omega | assumption) ?_ | refine Rn_pos' (by first | omega | assumption) ?_ | refine Rn_neg' (by first | omega | assumption) ?_ | fail)
                exact Rn_ret ⟨rfl, out 5 (by omega) (by omega) (Or.inr (Or.inr (Or.inr (Or.inl ⟨c1, c2, c3, hm, rfl⟩))))⟩
              · simp (disch := omega) only [lit_0, lit_1, lit_2, lit_3, lit_4, lit_5, lit_6, lit_7, lit_8, lit_9, lit_10, lit_11, lit_12, lit_17, lit_20, lit_30, lit_31, lit_32, lit_47, lit_48, lit_60, lit_99, lit_100, lit_144, lit_200, lit_240, lit_300, lit_576, lit_960, lit_1008, lit_1000000, lit_100000000, true_implies, not_true_eq_false, false_implies, not_false_eq_true, true_and, and_true, neg_1, nI_add, pk_mul, nI_clamp, vp_nI, tI_lt, tI_le, tI_eq, tI_nI, tI_NN, tI_pred]
                repeat' (first | refine Rn_and (by first | omega | assumption) ?_ | refine Rn_pos (by first | omega | assumption) ?_ | refine Rn_neg (by first | omega | assumption) ?_ | refine Rn_pos' (by first | omega | assumption) ?_ | refine Rn_neg' (by first | omega | assumption) ?_ | fail)
                refine Rn_cI (f_X0_isReachable hA (by omega) hc' (by intro a b ha hb; rw [s4]; exact hl a b ha hb) okall (fun hr => ?_) (fun hr => ?_))
                · simp (disch := omega) only [lit_0, lit_1, lit_2, lit_3, lit_4, lit_5, lit_6, lit_7, lit_8, lit_9, lit_10, lit_11, lit_12, lit_17, lit_20, lit_30, lit_31, lit_32, lit_47, lit_48, lit_60, lit_99, lit_100, lit_144, lit_200, lit_240, lit_300, lit_576, lit_960, lit_1008, lit_1000000, lit_100000000, true_implies, not_true_eq_false, false_implies, not_false_eq_true, true_and, and_true, neg_1, nI_add, pk_mul, nI_clamp, vp_nI, tI_lt, tI_le, tI_eq, tI_nI, tI_NN, tI_pred]
                  repeat' (first | refine Rn_and (by first | omega | assumption) ?_ | refine Rn_pos (by first | omega | assumption) ?_ | refine Rn_neg (by first | omega | assumption) ?_ | refine Rn_pos' (by first | omega | assumption) ?_ | refine Rn_neg' (by first | omega | assumption) ?_ | fail)
                  rw [hs, fin0, ← hs]
                  refine ih _ ⟨hs, fun j hj => ?_⟩
                  by_cases e1 : j = i
                  · rw [e1]; exact Or.inr (Or.inr (Or.inr (Or.inr (Or.inr ⟨c1, c2, c3, hm, hr, rfl⟩))))
                  · exact hall j (by omega)
                · simp (disch := omega) only [lit_0, lit_1, lit_2, lit_3, lit_4, lit_5, lit_6, lit_7, lit_8, lit_9, lit_10, lit_11, lit_12, lit_17, lit_20, lit_30, lit_31, lit_32, lit_47, lit_48, lit_60, lit_99, lit_100, lit_144, lit_200, lit_240, lit_300, lit_576, lit_960, lit_1008, lit_1000000, lit_100000000, true_implies, not_true_eq_false, false_implies, not_false_eq_true, true_and, and_true, neg_1, nI_add, pk_mul, nI_clamp, vp_nI, tI_lt, tI_le, tI_eq, tI_nI, tI_NN, tI_pred]
                  repeat' (first | refine Rn_and (by first | omega | assumption) ?_ | refine Rn_pos (by first | omega | assumption) ?_ | refine Rn_neg (by first | omega | assumption) ?_ | refine Rn_pos' (by first | omega | assumption) ?_ | refine Rn_neg' (by first | omega | assumption) ?_ | fail)
                  exact Rn_ret ⟨rfl, out 6 (by omega) (by omega) (Or.inr (Or.inr (Or.inr (Or.inr (Or.inl ⟨c1, c2, c3, hm, hr, rfl⟩)))))⟩
            · have c3' := c3
              unfold dWt at c3'
              repeat' (first | refine Rn_and (by first | omega | assumption) ?_ | refine Rn_pos (by first | omega | assumption) ?_ | refine Rn_neg (by first | omega | assumption) ?_ | refine Rn_pos' (by first | omega | assumption) ?_ | refine Rn_neg' (by first | omega | assumption) ?_ | refine Rn_if (fun _ => ?_) (fun _ => ?_) | refine Rn_if' (fun _ => ?_) (fun _ => ?_) | fail)
              all_goals first
                | exact Rn_ret ⟨rfl, out 4 (by omega) (by omega) (Or.inr (Or.inr (Or.inl ⟨c1, c2, c3, rfl⟩)))⟩
                | (exfalso; omega)
          · have c2' := c2
            unfold dSp at c2'
            repeat' (first | refine Rn_and (by first | omega | assumption) ?_ | refine Rn_pos (by first | omega | assumption) ?_ | refine Rn_neg (by first | omega | assumption) ?_ | refine Rn_pos' (by first | omega | assumption) ?_ | refine Rn_neg' (by first | omega | assumption) ?_ | refine Rn_if (fun _ => ?_) (fun _ => ?_) | refine Rn_if' (fun _ => ?_) (fun _ => ?_) | fail)
            all_goals first
              | exact Rn_ret ⟨rfl, out 3 (by omega) (by omega) (Or.inr (Or.inl ⟨c1, c2, rfl⟩))⟩
              | (exfalso; omega)
        · have c1' := c1
          unfold dPl at c1'
          repeat' (first | refine Rn_and (by first | omega | assumption) ?_ | refine Rn_pos (by first | omega | assumption) ?_ | refine Rn_neg (by first | omega | assumption) ?_ | refine Rn_pos' (by first | omega | assumption) ?_ | refine Rn_neg' (by first | omega | assumption) ?_ | refine Rn_if (fun _ => ?_) (fun _ => ?_) | refine Rn_if' (fun _ => ?_) (fun _ => ?_) | fail)
          all_goals first
            | exact Rn_ret ⟨rfl, out 2 (by omega) (by omega) (Or.inl ⟨c1, rfl⟩)⟩
            | (exfalso; omega)
      · rintro s ⟨hs, hall⟩
        have s2 : s.1 7 z 3 = nI n := by rw [hs]; exact hsz
        refine Rn_map (fun Q => x_X0_examine_41) ?_
        simp (disch := omega) only [lit_0, lit_1, lit_2, lit_3, lit_4, lit_5, lit_6, lit_7, lit_8, lit_9, lit_10, lit_11, lit_12, lit_17, lit_20, lit_30, lit_31, lit_32, lit_47, lit_48, lit_60, lit_99, lit_100, lit_144, lit_200, lit_240, lit_300, lit_576, lit_960, lit_1008, lit_1000000, lit_100000000, true_implies, not_true_eq_false, false_implies, not_false_eq_true, true_and, and_true, neg_1, nI_add, pk_mul, nI_clamp, le_nI, lt_nI, eq_nI, vp_nI, nI_NN, NN_nI, NN_lt, NN_le, lt_NN, le_NN, s2, edv]
        repeat' (first | refine Rn_and (by first | omega | assumption) ?_ | refine Rn_pos (by first | omega | assumption) ?_ | refine Rn_neg (by first | omega | assumption) ?_ | refine Rn_pos' (by first | omega | assumption) ?_ | refine Rn_neg' (by first | omega | assumption) ?_ | fail)
        refine Rn_ret ⟨rfl, ?_⟩
        rw [hs]
        exact hP _ _ (Or.inr ⟨h4, h48, Or.inl ⟨rfl, rfl, hall⟩⟩)
    · simp (disch := omega) only [lit_0, lit_1, lit_2, lit_3, lit_4, lit_5, lit_6, lit_7, lit_8, lit_9, lit_10, lit_11, lit_12, lit_17, lit_20, lit_30, lit_31, lit_32, lit_47, lit_48, lit_60, lit_99, lit_100, lit_144, lit_200, lit_240, lit_300, lit_576, lit_960, lit_1008, lit_1000000, lit_100000000, true_implies, not_true_eq_false, false_implies, not_false_eq_true, true_and, and_true, neg_1, nI_add, pk_mul, nI_clamp, le_nI, lt_nI, eq_nI, vp_nI, nI_NN, NN_nI, NN_lt, NN_le, lt_NN, le_NN, hsz, edv, esb]
      repeat' (first | refine Rv_and (by first | omega | assumption) ?_ | refine Rv_pos (by first | omega | assumption) ?_ | refine Rv_neg (by first | omega | assumption) ?_ | refine Rv_pos' (by first | omega | assumption) ?_ | refine Rv_neg' (by first | omega | assumption) ?_ | fail)
      refine Rv_ret ?_
      rw [fin]
      exact hP _ _ (Or.inl ⟨fun h => h48 h.2, rfl, rfl⟩)
  · simp (disch := omega) only [lit_0, lit_1, lit_2, lit_3, lit_4, lit_5, lit_6, lit_7, lit_8, lit_9, lit_10, lit_11, lit_12, lit_17, lit_20, lit_30, lit_31, lit_32, lit_47, lit_48, lit_60, lit_99, lit_100, lit_144, lit_200, lit_240, lit_300, lit_576, lit_960, lit_1008, lit_1000000, lit_100000000, true_implies, not_true_eq_false, false_implies, not_false_eq_true, true_and, and_true, neg_1, nI_add, pk_mul, nI_clamp, le_nI, lt_nI, eq_nI, vp_nI, nI_NN, NN_nI, NN_lt, NN_le, lt_NN, le_NN, hsz, edv, esb]
    repeat' (first | refine Rv_and (by first | omega | assumption) ?_ | refine Rv_pos (by first | omega | assumption) ?_ | refine Rv_neg (by first | omega | assumption) ?_ | refine Rv_pos' (by first | omega | assumption) ?_ | refine Rv_neg' (by first | omega | assumption) ?_ | fail)
    refine Rv_ret ?_
    rw [fin]
    exact hP _ _ (Or.inl ⟨fun h => h4 h.1, rfl, rfl⟩)

