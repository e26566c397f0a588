variable {κ : Nat → Nat → Nat → Prop}
/-! ===== both searches find the same; the plan that a search leads to ===== -/
def cdx (p h : Nat) : Nat := if h = 0 then p else if h = 1 then 100 + p else 198 + 12 * p + h
theorem cdx_2 (p q : Nat) : cdx p (2 + q) = 200 + 12 * p + q := by
  unfold cdx
  rw [if_neg (by omega), if_neg (by omega)]
  omega
theorem bWc_rel {use : Nat → Bool} {T : Nat → Int32} {p h0 : Nat} {v : Int32} : ∀ n, ∃ h, bWc use T (fun q => nI (2 + q)) n v (nI h0) = nI h ∧ bWc use T (fun q => nI (200 + 12 * p + q)) n v (nI (cdx p h0)) = nI (cdx p h) ∧ (h = h0 ∨ ∃ q, q < n ∧ use q = true ∧ h = 2 + q)
  | 0 => ⟨h0, rfl, rfl, Or.inl rfl⟩
  | n + 1 => by
    obtain ⟨h, e1, e2, e3⟩ := bWc_rel (use := use) (T := T) (p := p) (h0 := h0) (v := v) n
    by_cases hc : use n = true ∧ T n < bWv use T n v
    · exact ⟨2 + n, by rw [bWc, if_pos hc], by rw [bWc, if_pos hc, cdx_2], Or.inr ⟨n, by omega, hc.1, rfl⟩⟩
    · refine ⟨h, by rw [bWc, if_neg hc, e1], by rw [bWc, if_neg hc, e2], ?_⟩
      rcases e3 with e3 | ⟨q, q1, q2, q3⟩
      · exact Or.inl e3
      · exact Or.inr ⟨q, by omega, q2, q3⟩
section Same
variable {c : Nat → Int32} {s : Nat → Nat → Int32} {lk : Nat → Int32} {may : Nat → Nat → Bool} {hm : Nat} {w : Nat → Nat → Nat} {A t0 : Nat} {L C L' C' : Nat → Int32}
theorem same_L (hA : A ≤ 12) (hw : ∀ p q, p < 12 → q < 12 → 1 ≤ w p q) (hx : ∀ t p, t0 ≤ t → t < 48 → p < A → PXp c s lk may hm w A (fun p q => nI (200 + 12 * p + q)) (c0X may) L C t p) (hm' : ∀ t p, t0 ≤ t → t < 48 → p < A → PXp c s lk may hm w A (fun _ q => nI (2 + q)) (fun p t => if may p t = true then nI 0 else nI 1) L' C' t p) (hr : ∀ p, p < 12 → L (576 + p) = nI 0) (hr' : ∀ p, p < 12 → L' (576 + p) = nI 0) : ∀ k t, t0 ≤ t → t ≤ 48 → 48 - k ≤ t → ∀ p, p < A → L (12 * t + p) = L' (12 * t + p) := by
  intro k
  induction k with
  | zero =>
    intro t h1 h2 h3 p hp
    have e : t = 48 := by omega
    subst e
    rw [show 12 * 48 + p = 576 + p by omega, hr p (by omega), hr' p (by omega)]
  | succ k ih =>
    intro t h1 h2 h3 p hp
    by_cases h48 : t = 48
    · exact ih t h1 h2 (by omega) p hp
    · rw [(hx t p h1 (by omega) hp).1, (hm' t p h1 (by omega) hp).1]
      have ev : v0P c s lk may hm L t p = v0P c s lk may hm L' t p := by
        unfold v0P
        rw [ih (t + 1) (by omega) (by omega) (by omega) p hp]
      rw [ev]
      refine bWv_c (fun q hq => ?_)
      unfold tF
      split
      · rw [ih (t + w p q) (by omega) (by omega) (by have := hw p q (by omega) (by omega); omega) q hq]
      · rfl
theorem same_C (hA : A ≤ 12) (hw : ∀ p q, p < 12 → q < 12 → 1 ≤ w p q) (hx : ∀ t p, t0 ≤ t → t < 48 → p < A → PXp c s lk may hm w A (fun p q => nI (200 + 12 * p + q)) (c0X may) L C t p) (hm' : ∀ t p, t0 ≤ t → t < 48 → p < A → PXp c s lk may hm w A (fun _ q => nI (2 + q)) (fun p t => if may p t = true then nI 0 else nI 1) L' C' t p) (hr : ∀ p, p < 12 → L (576 + p) = nI 0) (hr' : ∀ p, p < 12 → L' (576 + p) = nI 0) {t p : Nat} (h1 : t0 ≤ t) (h2 : t < 48) (hp : p < A) : ∃ h, C' (12 * t + p) = nI h ∧ C (12 * t + p) = nI (cdx p h) ∧ (h ≤ 1 ∨ ∃ q, q < A ∧ w p q ≠ 1000000 ∧ h = 2 + q) := by
  have sl := same_L hA hw hx hm' hr hr' 48
  rw [(hx t p h1 h2 hp).2, (hm' t p h1 h2 hp).2]
  have ev : v0P c s lk may hm L t p = v0P c s lk may hm L' t p := by
    unfold v0P
    rw [sl (t + 1) (by omega) (by omega) (by omega) p hp]
  have eT : ∀ q, q < A → tF c w L t p q = tF c w L' t p q := by
    intro q hq
    unfold tF
    split
    · rw [sl (t + w p q) (by omega) (by omega) (by omega) q hq]
    · rfl
  rw [ev, bWc_c eT]
  have e0 : c0X may p t = nI (cdx p (if may p t = true then 0 else 1)) := by
    unfold c0X
    split <;> rfl
  have e1 : (if may p t = true then nI 0 else nI 1) = nI (if may p t = true then 0 else 1) := by split <;> rfl
  obtain ⟨h, j1, j2, j3⟩ := bWc_rel (use := us w p) (T := tF c w L' t p) (p := p) (h0 := if may p t = true then 0 else 1) (v := v0P c s lk may hm L' t p) A
  refine ⟨h, ?_, ?_, ?_⟩
  · show bWc _ _ _ _ _ (if may p t = true then nI 0 else nI 1) = _
    rw [e1]
    exact j1
  · rw [e0]
    exact j2
  · rcases j3 with j3 | ⟨q, q1, q2, q3⟩
    · refine Or.inl ?_
      rw [j3]
      split <;> omega
    · exact Or.inr ⟨q, q1, by simpa [us] using q2, q3⟩
end Same
/-- one tick more of a plan: its code, where one is going, when one chooses again -/
def wkS (ch w : Nat → Nat → Nat) (t : Nat) (r : Nat × Nat × Nat) : Nat × Nat × Nat := if r.2.2 ≤ t then (if ch t r.2.1 < 2 then (cdx r.2.1 (ch t r.2.1), r.2.1, t + 1) else (cdx r.2.1 (ch t r.2.1), ch t r.2.1 - 2, t + w r.2.1 (ch t r.2.1 - 2))) else r
def wk (ch w : Nat → Nat → Nat) (t0 p0 : Nat) : Nat → Nat × Nat × Nat
  | 0 => (0, p0, t0)
  | k + 1 => wkS ch w (t0 + k) (wk ch w t0 p0 k)
def pcF (ch w : Nat → Nat → Nat) (t0 p0 t : Nat) : Nat := (wk ch w t0 p0 (t - t0 + 1)).1
def ChOk (ch w : Nat → Nat → Nat) (A t0 : Nat) : Prop := ∀ t p, t0 ≤ t → t < 48 → p < A → ch t p ≤ 1 ∨ ∃ q, q < A ∧ w p q ≤ 9 ∧ 1 ≤ w p q ∧ ch t p = 2 + q
theorem wk_inv {ch w : Nat → Nat → Nat} {A t0 p0 : Nat} (hc : ChOk ch w A t0) (hp : p0 < A) : ∀ k, t0 + k ≤ 48 → (wk ch w t0 p0 k).2.1 < A ∧ t0 + k ≤ (wk ch w t0 p0 k).2.2 ∧ (wk ch w t0 p0 k).2.2 ≤ t0 + k + 8
  | 0, _ => ⟨hp, Nat.le_refl _, by show t0 ≤ _; omega⟩
  | k + 1, h => by
    obtain ⟨i1, i2, i3⟩ := wk_inv hc hp k (by omega)
    show (wkS ch w (t0 + k) (wk ch w t0 p0 k)).2.1 < A ∧ t0 + (k + 1) ≤ (wkS ch w (t0 + k) (wk ch w t0 p0 k)).2.2 ∧ (wkS ch w (t0 + k) (wk ch w t0 p0 k)).2.2 ≤ t0 + (k + 1) + 8
    unfold wkS
    generalize wk ch w t0 p0 k = r at *
    split
    · rcases hc (t0 + k) r.2.1 (by omega) (by omega) i1 with h1 | ⟨q, h1, h2, h3, h4⟩
      · rw [if_pos (by omega)]
        exact ⟨i1, by show t0 + (k + 1) ≤ t0 + k + 1; omega, by show t0 + k + 1 ≤ t0 + (k + 1) + 8; omega⟩
      · rw [if_neg (by omega)]
        have e : ch (t0 + k) r.2.1 - 2 = q := by omega
        rw [e]
        exact ⟨h1, by show t0 + (k + 1) ≤ t0 + k + w r.2.1 q; omega, by show t0 + k + w r.2.1 q ≤ t0 + (k + 1) + 8; omega⟩
    · exact ⟨i1, by omega, by omega⟩
theorem pcF_k {ch w : Nat → Nat → Nat} {t0 p0 k : Nat} : pcF ch w t0 p0 (t0 + k) = (wkS ch w (t0 + k) (wk ch w t0 p0 k)).1 := by
  unfold pcF
  rw [show t0 + k - t0 + 1 = k + 1 by omega]
  rfl
theorem f_X2_write_48 {d f t0 p0 A : Nat} {tot : Int32} {ch w : Nat → Nat → Nat} {σ : Mem} {P : Int32 → Mem → Prop} (hA : A ≤ 12) (ht0 : t0 ≤ 48) (hp0 : p0 < A) (hc : ChOk ch w A t0) (x22 : ∀ t p, t0 ≤ t → t < 48 → p < A → σ.1 22 0 (12 * t + p) = nI (cdx p (ch t p))) (x5 : ∀ p q, p < A → q < A → w p q ≤ 9 → σ.1 5 0 (12 * p + q) = nI (w p q)) (hP : P tot (sK σ 12 (fun i j => if i = f ∧ t0 ≤ j ∧ j < 48 then nI (pcF ch w t0 p0 j) else σ.1 12 i j))) : Rn (fun K => J IX M_X2_write (d + 2) 48 [(0, ar 17 0), (1, ar 9 f), (2, ar 1 0), (6, ai tot), (7, ai (nI p0)), (8, ai NN), (9, ai (nI t0)), (10, ai (nI t0))] [] σ (KQ K)) P := by
  refine Rn_KQ ?_
  refine loopU (i := 0) (C := fun k (b : Mem × Int32) Q => J IX M_X2_write (d + 2) 48 [(0, ar 17 0), (1, ar 9 f), (2, ar 1 0), (6, ai tot), (7, ai (nI (wk ch w t0 p0 k).2.1)), (8, ai b.2), (9, ai (nI (wk ch w t0 p0 k).2.2)), (10, ai (nI (t0 + k)))] [] b.1 Q) (Inv := fun k b => b.1 = sK σ 12 (fun i j => if i = f ∧ t0 ≤ j ∧ j < t0 + k then nI (pcF ch w t0 p0 j) else σ.1 12 i j) ∧ (k = 0 ∨ b.2 = nI (wk ch w t0 p0 k).1)) (n := 48 - t0) ?_ ?_ (by omega) ⟨?_, Or.inl rfl⟩ (b := (σ, NN))
  · rintro k ⟨s, v8⟩ hk ⟨hs, h8⟩ ih
    obtain ⟨i1, i2, i3⟩ := wk_inv hc hp0 k (by omega)
    obtain ⟨j1, j2, j3⟩ := wk_inv hc hp0 (k + 1) (by omega)
    have r22 : ∀ j, s.1 22 0 j = σ.1 22 0 j := by intro j; dsimp only at hs; rw [hs]; rfl
    have r5 : ∀ j, s.1 5 0 j = σ.1 5 0 j := by intro j; dsimp only at hs; rw [hs]; rfl
    have e0 : wk ch w t0 p0 (k + 1) = wkS ch w (t0 + k) (wk ch w t0 p0 k) := rfl
    have pk := pcF_k (ch := ch) (w := w) (t0 := t0) (p0 := p0) (k := k)
    have mem : ∀ v, v = pcF ch w t0 p0 (t0 + k) → wI s 12 f (t0 + k) (nI v) = sK σ 12 (fun i j => if i = f ∧ t0 ≤ j ∧ j < t0 + (k + 1) then nI (pcF ch w t0 p0 j) else σ.1 12 i j) := by
      intro v hv
      subst hv
      dsimp only at hs
      rw [hs]
      refine Mem_ext (fun k' i j => ?_) rfl
      simp only [wI_r, sK_r]
      grind
    dsimp only at h8 ⊢
    have ihk := ih
    unfold wkS at e0 pk
    generalize hr : wk ch w t0 p0 k = r at *
    by_cases hch : r.2.2 ≤ t0 + k
    · rw [if_pos hch] at e0 pk
      have xc := x22 (t0 + k) r.2.1 (by omega) (by omega) i1
      rcases hc (t0 + k) r.2.1 (by omega) (by omega) i1 with h1 | ⟨q, h1, h2, h3, h4⟩
      · rw [if_pos (by omega)] at e0 pk
        have hcd : cdx r.2.1 (ch (t0 + k) r.2.1) < 200 := by
          unfold cdx
          split
          · omega
          · rw [if_pos (by omega)]; omega
        refine Rn_map (fun Q => x_X2_write_48) ?_
        simp (disch := omega) only [lit_0, lit_1, lit_2, lit_3, lit_4, lit_5, lit_6, lit_7, lit_8, lit_9, lit_10, lit_11, lit_12, lit_17, lit_20, lit_30, lit_31, lit_32, lit_47, lit_48, lit_60, lit_99, lit_100, lit_144, lit_200, lit_240, lit_300, lit_576, lit_960, lit_1008, lit_1000000, lit_100000000, true_implies, not_true_eq_false, false_implies, not_false_eq_true, true_and, and_true, neg_1, nI_add, pk_mul, nI_clamp, le_nI, lt_nI, eq_nI, vp_nI, nI_NN, NN_nI, NN_lt, NN_le, lt_NN, le_NN, m12, r22, xc]
        repeat' (first | refine Rn_and (by first | omega | assumption) ?_ | refine Rn_pos (by first | omega | assumption) ?_ | refine Rn_neg (by first | omega | assumption) ?_ | refine Rn_pos' (by first | omega | assumption) ?_ | refine Rn_neg' (by first | omega | assumption) ?_ | fail)
        rw [mem _ pk.symm]
        have := ih (sK σ 12 (fun i j => if i = f ∧ t0 ≤ j ∧ j < t0 + (k + 1) then nI (pcF ch w t0 p0 j) else σ.1 12 i j), nI (cdx r.2.1 (ch (t0 + k) r.2.1))) ⟨rfl, Or.inr (by rw [e0])⟩
        rw [e0] at this
        exact this
      · rw [if_neg (by omega)] at e0 pk
        have eq : ch (t0 + k) r.2.1 - 2 = q := by omega
        rw [eq] at e0
        have hcd : cdx r.2.1 (ch (t0 + k) r.2.1) = 200 + 12 * r.2.1 + q := by rw [h4, cdx_2]
        rw [hcd] at xc e0 pk
        have w5 := x5 r.2.1 q i1 h1 h2
        have d1 : nI (200 + 12 * r.2.1 + q) - nI 200 = nI (12 * r.2.1 + q) := (pk_sub (by omega)).trans (congrArg nI (by omega))
        have d2 : nI (12 * r.2.1 + q) / nI 12 = nI ((12 * r.2.1 + q) / 12) := pk_div (by omega) (by omega) (by omega)
        have d3 : nI (12 * r.2.1 + q) - nI (12 * ((12 * r.2.1 + q) / 12)) = nI q := (pk_sub (by omega)).trans (congrArg nI (by omega))
        refine Rn_map (fun Q => x_X2_write_48) ?_
        simp (disch := omega) only [lit_0, lit_1, lit_2, lit_3, lit_4, lit_5, lit_6, lit_7, lit_8, lit_9, lit_10, lit_11, lit_12, lit_17, lit_20, lit_30, lit_31, lit_32, lit_47, lit_48, lit_60, lit_99, lit_100, lit_144, lit_200, lit_240, lit_300, lit_576, lit_960, lit_1008, lit_1000000, lit_100000000, true_implies, not_true_eq_false, false_implies, not_false_eq_true, true_and, and_true, neg_1, nI_add, pk_mul, nI_clamp, le_nI, lt_nI, eq_nI, vp_nI, nI_NN, NN_nI, NN_lt, NN_le, lt_NN, le_NN, m12, r22, xc, d1, d2, d3, r5, w5]
        repeat' (first | refine Rn_and (by first | omega | assumption) ?_ | refine Rn_pos (by first | omega | assumption) ?_ | refine Rn_neg (by first | omega | assumption) ?_ | refine Rn_pos' (by first | omega | assumption) ?_ | refine Rn_neg' (by first | omega | assumption) ?_ | fail)
        rw [mem _ pk.symm]
        have := ih (sK σ 12 (fun i j => if i = f ∧ t0 ≤ j ∧ j < t0 + (k + 1) then nI (pcF ch w t0 p0 j) else σ.1 12 i j), nI (200 + 12 * r.2.1 + q)) ⟨rfl, Or.inr (by rw [e0])⟩
        rw [e0] at this
        exact this
    · rw [if_neg hch] at e0 pk
      have hk0 : v8 = nI r.1 := by
        rcases h8 with h8 | h8
        · subst h8
          exact absurd (by rw [← hr]; exact Nat.le_refl t0 : r.2.2 ≤ t0 + 0) hch
        · exact h8
      refine Rn_map (fun Q => x_X2_write_48) ?_
      simp (disch := omega) only [lit_0, lit_1, lit_2, lit_3, lit_4, lit_5, lit_6, lit_7, lit_8, lit_9, lit_10, lit_11, lit_12, lit_17, lit_20, lit_30, lit_31, lit_32, lit_47, lit_48, lit_60, lit_99, lit_100, lit_144, lit_200, lit_240, lit_300, lit_576, lit_960, lit_1008, lit_1000000, lit_100000000, true_implies, not_true_eq_false, false_implies, not_false_eq_true, true_and, and_true, neg_1, nI_add, pk_mul, nI_clamp, le_nI, lt_nI, eq_nI, vp_nI, nI_NN, NN_nI, NN_lt, NN_le, lt_NN, le_NN]
      repeat' (first | refine Rn_and (by first | omega | assumption) ?_ | refine Rn_pos (by first | omega | assumption) ?_ | refine Rn_neg (by first | omega | assumption) ?_ | refine Rn_pos' (by first | omega | assumption) ?_ | refine Rn_neg' (by first | omega | assumption) ?_ | fail)
      rw [hk0, mem _ pk.symm]
      have := ih (sK σ 12 (fun i j => if i = f ∧ t0 ≤ j ∧ j < t0 + (k + 1) then nI (pcF ch w t0 p0 j) else σ.1 12 i j), nI r.1) ⟨rfl, Or.inr (by rw [e0])⟩
      rw [e0] at this
      exact this
  · rintro ⟨s, v8⟩ ⟨hs, h8⟩
    dsimp only at hs ⊢
    refine Rn_map (fun Q => x_X2_write_48) ?_
    simp (disch := omega) only [lit_0, lit_1, lit_2, lit_3, lit_4, lit_5, lit_6, lit_7, lit_8, lit_9, lit_10, lit_11, lit_12, lit_17, lit_20, lit_30, lit_31, lit_32, lit_47, lit_48, lit_60, lit_99, lit_100, lit_144, lit_200, lit_240, lit_300, lit_576, lit_960, lit_1008, lit_1000000, lit_100000000, true_implies, not_true_eq_false, false_implies, not_false_eq_true, true_and, and_true, neg_1, nI_add, pk_mul, nI_clamp, le_nI, lt_nI, eq_nI, vp_nI, nI_NN, NN_nI, NN_lt, NN_le, lt_NN, le_NN]
    repeat' (first | refine Rn_and (by first | omega | assumption) ?_ | refine Rn_pos (by first | omega | assumption) ?_ | refine Rn_neg (by first | omega | assumption) ?_ | refine Rn_pos' (by first | omega | assumption) ?_ | refine Rn_neg' (by first | omega | assumption) ?_ | fail)
    refine Rn_ret ⟨_, rfl, ?_⟩
    rw [hs, show t0 + (48 - t0) = 48 by omega]
    exact hP
  · refine Mem_ext (fun k' i j => ?_) rfl
    simp only [sK_r]
    grind

