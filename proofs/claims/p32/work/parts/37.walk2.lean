variable {κ : Nat → Nat → Nat → Prop}
def wkM (σ : Mem) (f t0 : Nat) (pc : Nat → Nat) (n : Nat) : Mem := sK (sK σ 46 (fun i j => if i = 0 ∧ 48 * f + t0 ≤ j ∧ j < 48 * f + n then nI (pc (j - 48 * f)) else σ.1 46 i j)) 48 (fun i j => if i = 0 ∧ j < 576 ∧ t0 ≤ j % 48 ∧ j % 48 < n ∧ pc (j % 48) = j / 48 then σ.1 48 0 j + nI 1 else σ.1 48 i j)
theorem wkM_o {σ : Mem} {f t0 n k i j : Nat} {pc : Nat → Nat} (h : k ≠ 46 ∧ k ≠ 48) : (wkM σ f t0 pc n).1 k i j = σ.1 k i j := by
  rw [wkM, sK_r, if_neg h.2, sK_r, if_neg h.1]
theorem wkM_out {σ : Mem} {f t0 n : Nat} {pc : Nat → Nat} {v : Nat} (h0 : t0 ≤ n) (hn : n < 48) (hv : v = pc n) (h12 : 12 ≤ v) : wI (wkM σ f t0 pc n) 46 0 (48 * f + n) (nI v) = wkM σ f t0 pc (n + 1) := by
  subst hv
  refine Mem_ext (fun k i j => ?_) rfl
  have h1 : j = 48 * f + n → j - 48 * f = n := by omega
  have h2 : j % 48 = n → j < 576 → pc (j % 48) ≠ j / 48 := by
    intro e hj
    rw [e]
    omega
  simp only [wI_r, wkM, sK_r]
  grind
theorem wkM_in {σ : Mem} {f t0 n p : Nat} {pc : Nat → Nat} (h0 : t0 ≤ n) (hn : n < 48) (hv : p = pc n) (h12 : p < 12) : wI (wI (wkM σ f t0 pc n) 46 0 (48 * f + n) (nI p)) 48 0 (48 * p + n) ((wkM σ f t0 pc n).1 48 0 (48 * p + n) + nI 1) = wkM σ f t0 pc (n + 1) := by
  subst hv
  refine Mem_ext (fun k i j => ?_) rfl
  have h1 : j = 48 * f + n → j - 48 * f = n := by omega
  have h2 : j = 48 * pc n + n ↔ (j % 48 = n ∧ pc n = j / 48) := by omega
  have h3 : (48 * pc n + n) % 48 = n := by omega
  simp only [wI_r, wkM, sK_r]
  grind
theorem f_X8_walks {d f t0 p0 A : Nat} {ch w : Nat → Nat → Nat} {σ : Mem} {P : Mem → Prop} (hf : f < 20) (hA : A ≤ 12) (ht0 : t0 ≤ 48) (hp0 : p0 < A) (hc : ChOk ch w A t0) (x64 : ∀ t p, t0 ≤ t → t < 48 → p < A → σ.1 64 0 (12 * t + p) = nI (ch t p)) (x36 : ∀ p q, p < A → q < A → w p q ≤ 9 → σ.1 36 0 (12 * p + q) = nI (w p q)) (hP : P (wkM σ f t0 (pcF ch w t0 p0) 48)) : Rv (fun K => CalV IM (d + 1) S_X8_walks [ar 30 0, ai (nI f), ai (nI t0), ai (nI p0)] σ K) P := by
  refine Rv_map (fun K => x_X8_walks) (Rv_KV ?_)
  have main : ∀ n k, 48 - (t0 + k) = n → t0 + k ≤ 48 → (t0 + k = 48 ∨ (wk ch w t0 p0 k).2.2 = t0 + k) → Rn (fun Q => J IM M_X8_walks (d + 1) 6 [(0, ar 30 0), (1, ai (nI f)), (4, ai (nI (t0 + k))), (5, ai (nI (wk ch w t0 p0 k).2.1))] [] (wkM σ f t0 (pcF ch w t0 p0) (t0 + k)) Q) (fun v s => v = none ∧ P s) := by
    intro n
    induction n using Nat.strongRecOn with
    | ind n ih =>
      intro k hn hk hx
      by_cases h48 : t0 + k = 48
      · rw [h48]
        refine Rn_map (fun Q => x_X8_walks_6) ?_
        simp (disch := omega) only [lit_0, lit_1, lit_2, lit_3, lit_4, lit_5, lit_6, lit_7, lit_8, lit_9, lit_10, lit_11, lit_12, lit_17, lit_20, lit_30, lit_31, lit_32, lit_47, lit_48, lit_60, lit_99, lit_100, lit_144, lit_200, lit_240, lit_300, lit_576, lit_960, lit_1008, lit_1000000, lit_100000000, true_implies, not_true_eq_false, false_implies, not_false_eq_true, true_and, and_true, neg_1, nI_add, pk_mul, nI_clamp, le_nI, lt_nI, eq_nI, vp_nI, nI_NN, NN_nI, NN_lt, NN_le, lt_NN, le_NN]
        repeat' (first | refine Rn_and (by first | omega | assumption) ?_ | refine Rn_pos (by first | omega | assumption) ?_ | refine Rn_neg (by first | omega | assumption) ?_ | refine Rn_pos' (by first | omega | assumption) ?_ | refine Rn_neg' (by first | omega | assumption) ?_ | fail)
        exact Rn_ret ⟨rfl, hP⟩
      · have hx2 : (wk ch w t0 p0 k).2.2 = t0 + k := by omega
        obtain ⟨i1, i2, i3⟩ := wk_inv hc hp0 k hk
        have e0 : wk ch w t0 p0 (k + 1) = wkS ch w (t0 + k) (wk ch w t0 p0 k) := rfl
        have pk := pcF_k (ch := ch) (w := w) (t0 := t0) (p0 := p0) (k := k)
        have ih1 := ih (n - 1) (by omega) (k + 1) (by omega) (by omega)
        unfold wkS at e0 pk
        generalize hr : wk ch w t0 p0 k = r at *
        rw [if_pos (by omega)] at e0 pk
        have r64 : (wkM σ f t0 (pcF ch w t0 p0) (t0 + k)).1 64 0 (12 * (t0 + k) + r.2.1) = nI (ch (t0 + k) r.2.1) := (wkM_o ⟨by omega, by omega⟩).trans (x64 (t0 + k) r.2.1 (by omega) (by omega) i1)
        rcases hc (t0 + k) r.2.1 (by omega) (by omega) i1 with h1 | ⟨q, h1, h2, h3, h4⟩
        · rw [if_pos (by omega)] at e0 pk
          rw [e0] at ih1
          have ih2 := ih1 (Or.inr rfl)
          rw [show t0 + (k + 1) = t0 + k + 1 by omega] at ih2
          by_cases hz : ch (t0 + k) r.2.1 = 0
          · have hcd : cdx r.2.1 (ch (t0 + k) r.2.1) = r.2.1 := by rw [hz]; rfl
            rw [hcd] at pk
            rw [hz] at r64
            refine Rn_map (fun Q => x_X8_walks_6) ?_
            simp (disch := omega) only [lit_0, lit_1, lit_2, lit_3, lit_4, lit_5, lit_6, lit_7, lit_8, lit_9, lit_10, lit_11, lit_12, lit_17, lit_20, lit_30, lit_31, lit_32, lit_47, lit_48, lit_60, lit_99, lit_100, lit_144, lit_200, lit_240, lit_300, lit_576, lit_960, lit_1008, lit_1000000, lit_100000000, true_implies, not_true_eq_false, false_implies, not_false_eq_true, true_and, and_true, neg_1, nI_add, pk_mul, nI_clamp, le_nI, lt_nI, eq_nI, vp_nI, nI_NN, NN_nI, NN_lt, NN_le, lt_NN, le_NN, r64]
            repeat' (first | refine Rn_and (by first | omega | assumption) ?_ | refine Rn_pos (by first | omega | assumption) ?_ | refine Rn_neg (by first | omega | assumption) ?_ | refine Rn_pos' (by first | omega | assumption) ?_ | refine Rn_neg' (by first | omega | assumption) ?_ | fail)
            rw [wkM_in (by omega) (by omega) pk.symm (by omega)]
            exact ih2
          · have h1' : ch (t0 + k) r.2.1 = 1 := by omega
            have hcd : cdx r.2.1 (ch (t0 + k) r.2.1) = 100 + r.2.1 := by rw [h1']; rfl
            rw [hcd] at pk
            rw [h1'] at r64
            refine Rn_map (fun Q => x_X8_walks_6) ?_
            simp (disch := omega) only [lit_0, lit_1, lit_2, lit_3, lit_4, lit_5, lit_6, lit_7, lit_8, lit_9, lit_10, lit_11, lit_12, lit_17, lit_20, lit_30, lit_31, lit_32, lit_47, lit_48, lit_60, lit_99, lit_100, lit_144, lit_200, lit_240, lit_300, lit_576, lit_960, lit_1008, lit_1000000, lit_100000000, true_implies, not_true_eq_false, false_implies, not_false_eq_true, true_and, and_true, neg_1, nI_add, pk_mul, nI_clamp, le_nI, lt_nI, eq_nI, vp_nI, nI_NN, NN_nI, NN_lt, NN_le, lt_NN, le_NN, r64]
            repeat' (first | refine Rn_and (by first | omega | assumption) ?_ | refine Rn_pos (by first | omega | assumption) ?_ | refine Rn_neg (by first | omega | assumption) ?_ | refine Rn_pos' (by first | omega | assumption) ?_ | refine Rn_neg' (by first | omega | assumption) ?_ | fail)
            rw [wkM_out (by omega) (by omega) pk.symm (by omega)]
            exact ih2
        · rw [if_neg (by omega)] at e0 pk
          have eq : ch (t0 + k) r.2.1 - 2 = q := by omega
          rw [eq] at e0
          have hcd : cdx r.2.1 (ch (t0 + k) r.2.1) = 200 + 12 * r.2.1 + q := by rw [h4, cdx_2]
          rw [hcd] at e0 pk
          have w36 : (wkM σ f t0 (pcF ch w t0 p0) (t0 + k)).1 36 0 (12 * r.2.1 + q) = nI (w r.2.1 q) := (wkM_o ⟨by omega, by omega⟩).trans (x36 r.2.1 q i1 h1 h2)
          have d1 : nI (ch (t0 + k) r.2.1) - nI 2 = nI q := (pk_sub (by omega)).trans (congrArg nI (by omega))
          refine Rn_map (fun Q => x_X8_walks_6) ?_
          simp (disch := omega) only [lit_0, lit_1, lit_2, lit_3, lit_4, lit_5, lit_6, lit_7, lit_8, lit_9, lit_10, lit_11, lit_12, lit_17, lit_20, lit_30, lit_31, lit_32, lit_47, lit_48, lit_60, lit_99, lit_100, lit_144, lit_200, lit_240, lit_300, lit_576, lit_960, lit_1008, lit_1000000, lit_100000000, true_implies, not_true_eq_false, false_implies, not_false_eq_true, true_and, and_true, neg_1, nI_add, pk_mul, nI_clamp, le_nI, lt_nI, eq_nI, vp_nI, nI_NN, NN_nI, NN_lt, NN_le, lt_NN, le_NN, r64, d1, w36]
          repeat' (first | refine Rn_and (by first | omega | assumption) ?_ | refine Rn_pos (by first | omega | assumption) ?_ | refine Rn_neg (by first | omega | assumption) ?_ | refine Rn_pos' (by first | omega | assumption) ?_ | refine Rn_neg' (by first | omega | assumption) ?_ | fail)
          -- on the way: the state stays, tick by tick
          have stay : ∀ j, j < w r.2.1 q → t0 + k + 1 + j ≤ 48 → wk ch w t0 p0 (k + 1 + j) = (200 + 12 * r.2.1 + q, q, t0 + k + w r.2.1 q) := by
            intro j
            induction j with
            | zero => intro _ _; exact e0
            | succ j ihj =>
              intro hj hj2
              have e1 := ihj (by omega) (by omega)
              show wkS ch w (t0 + (k + 1 + j)) (wk ch w t0 p0 (k + 1 + j)) = _
              rw [e1, wkS, if_neg (by show ¬ t0 + k + w r.2.1 q ≤ t0 + (k + 1 + j); omega)]
          have pcs : ∀ j, j < w r.2.1 q → t0 + k + j < 48 → pcF ch w t0 p0 (t0 + k + j) = 200 + 12 * r.2.1 + q := by
            intro j hj hj2
            have e1 := stay j hj (by omega)
            unfold pcF
            rw [show t0 + k + j - t0 + 1 = k + 1 + j by omega, e1]
          refine loopU (i := 0) (C := fun j z Q => J IM M_X8_walks (d + 1) 113 [(0, ar 30 0), (1, ai (nI f)), (4, ai (nI (t0 + k + j))), (5, ai (nI r.2.1)), (7, ai (nI q)), (8, ai (nI (t0 + k + w r.2.1 q)))] [] z Q) (Inv := fun j z => z = wkM σ f t0 (pcF ch w t0 p0) (t0 + k + j)) (n := min (w r.2.1 q) (48 - (t0 + k))) ?_ ?_ (by omega) rfl
          · rintro j z hj hz ihj
            refine Rn_map (fun Q => x_X8_walks_113) ?_
            simp (disch := omega) only [lit_0, lit_1, lit_2, lit_3, lit_4, lit_5, lit_6, lit_7, lit_8, lit_9, lit_10, lit_11, lit_12, lit_17, lit_20, lit_30, lit_31, lit_32, lit_47, lit_48, lit_60, lit_99, lit_100, lit_144, lit_200, lit_240, lit_300, lit_576, lit_960, lit_1008, lit_1000000, lit_100000000, true_implies, not_true_eq_false, false_implies, not_false_eq_true, true_and, and_true, neg_1, nI_add, pk_mul, nI_clamp, le_nI, lt_nI, eq_nI, vp_nI, nI_NN, NN_nI, NN_lt, NN_le, lt_NN, le_NN]
            repeat' (first | refine Rn_and (by first | omega | assumption) ?_ | refine Rn_pos (by first | omega | assumption) ?_ | refine Rn_neg (by first | omega | assumption) ?_ | refine Rn_pos' (by first | omega | assumption) ?_ | refine Rn_neg' (by first | omega | assumption) ?_ | fail)
            rw [hz, wkM_out (by omega) (by omega) (pcs j (by omega) (by omega)).symm (by omega)]
            exact ihj _ rfl
          · rintro z hz
            have fin : Rn (fun Q => J IM M_X8_walks (d + 1) 6 [(0, ar 30 0), (1, ai (nI f)), (4, ai (nI (t0 + k + min (w r.2.1 q) (48 - (t0 + k))))), (5, ai (nI q))] [] z Q) (fun v s => v = none ∧ P s) := by
              have hm1 : 1 ≤ min (w r.2.1 q) (48 - (t0 + k)) := by omega
              obtain ⟨j, hj⟩ : ∃ j, min (w r.2.1 q) (48 - (t0 + k)) = j + 1 := ⟨min (w r.2.1 q) (48 - (t0 + k)) - 1, by omega⟩
              have e1 := stay j (by omega) (by omega)
              have := ih (n - (j + 1)) (by omega) (k + 1 + j) (by omega) (by omega) (by rw [e1]; show t0 + (k + 1 + j) = 48 ∨ t0 + k + w r.2.1 q = t0 + (k + 1 + j); omega)
              rw [e1] at this
              rw [hz, hj, show t0 + k + (j + 1) = t0 + (k + 1 + j) by omega]
              exact this
            refine Rn_map (fun Q => x_X8_walks_113) ?_
            simp (disch := omega) only [lit_0, lit_1, lit_2, lit_3, lit_4, lit_5, lit_6, lit_7, lit_8, lit_9, lit_10, lit_11, lit_12, lit_17, lit_20, lit_30, lit_31, lit_32, lit_47, lit_48, lit_60, lit_99, lit_100, lit_144, lit_200, lit_240, lit_300, lit_576, lit_960, lit_1008, lit_1000000, lit_100000000, true_implies, not_true_eq_false, false_implies, not_false_eq_true, true_and, and_true, neg_1, nI_add, pk_mul, nI_clamp, le_nI, lt_nI, eq_nI, vp_nI, nI_NN, NN_nI, NN_lt, NN_le, lt_NN, le_NN]
            by_cases h : t0 + k + w r.2.1 q ≤ t0 + k + min (w r.2.1 q) (48 - (t0 + k))
            · repeat' (first | refine Rn_and (by first | omega | assumption) ?_ | refine Rn_pos (by first | omega | assumption) ?_ | refine Rn_neg (by first | omega | assumption) ?_ | refine Rn_pos' (by first | omega | assumption) ?_ | refine Rn_neg' (by first | omega | assumption) ?_ | fail)
              exact fin
            · repeat' (first | refine Rn_and (by first | omega | assumption) ?_ | refine Rn_pos (by first | omega | assumption) ?_ | refine Rn_neg (by first | omega | assumption) ?_ | refine Rn_pos' (by first | omega | assumption) ?_ | refine Rn_neg' (by first | omega | assumption) ?_ | fail)
              exact fin
  have e0 : wkM σ f t0 (pcF ch w t0 p0) (t0 + 0) = σ := by
    refine Mem_ext (fun k i j => ?_) rfl
    simp only [wkM, sK_r]
    grind
  have := main _ 0 rfl (by omega) (Or.inr rfl)
  rw [e0] at this
  exact this

