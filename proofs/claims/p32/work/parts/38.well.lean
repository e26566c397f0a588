variable {κ : Nat → Nat → Nat → Prop}
/-! ===== a new plan is well formed again ===== -/
section Well
variable {ch w : Nat → Nat → Nat} {A t0 p0 : Nat}
theorem wk_stay (hc : ChOk ch w A t0) {b q : Nat} (hx : (wk ch w t0 p0 b).2.2 = t0 + b) (h4 : ch (t0 + b) (wk ch w t0 p0 b).2.1 = 2 + q) : ∀ j, j < w (wk ch w t0 p0 b).2.1 q → t0 + b + 1 + j ≤ 48 → wk ch w t0 p0 (b + 1 + j) = (200 + 12 * (wk ch w t0 p0 b).2.1 + q, q, t0 + b + w (wk ch w t0 p0 b).2.1 q) := by
  intro j
  induction j with
  | zero =>
    intro _ _
    show wkS ch w (t0 + b) (wk ch w t0 p0 b) = _
    unfold wkS
    rw [if_pos (by omega), if_neg (by omega), h4, cdx_2, show 2 + q - 2 = q by omega]
  | succ j ih =>
    intro hj hj2
    have e1 := ih (by omega) (by omega)
    show wkS ch w (t0 + (b + 1 + j)) (wk ch w t0 p0 (b + 1 + j)) = _
    rw [e1, wkS, if_neg (by show ¬ t0 + b + w (wk ch w t0 p0 b).2.1 q ≤ t0 + (b + 1 + j); omega)]
theorem wk_pcs (hc : ChOk ch w A t0) {b q : Nat} (hx : (wk ch w t0 p0 b).2.2 = t0 + b) (h4 : ch (t0 + b) (wk ch w t0 p0 b).2.1 = 2 + q) : ∀ j, j < w (wk ch w t0 p0 b).2.1 q → t0 + b + j < 48 → pcF ch w t0 p0 (t0 + b + j) = 200 + 12 * (wk ch w t0 p0 b).2.1 + q := by
  intro j hj hj2
  have e1 := wk_stay hc hx h4 j hj (by omega)
  unfold pcF
  rw [show t0 + b + j - t0 + 1 = b + 1 + j by omega, e1]
/-- where a tick's code was chosen -/
theorem wk_seg (hc : ChOk ch w A t0) (hp : p0 < A) : ∀ k, t0 + k < 48 → ∃ b, b ≤ k ∧ (wk ch w t0 p0 b).2.2 = t0 + b ∧ ((ch (t0 + b) (wk ch w t0 p0 b).2.1 ≤ 1 ∧ b = k) ∨ ∃ q, q < A ∧ w (wk ch w t0 p0 b).2.1 q ≤ 9 ∧ 1 ≤ w (wk ch w t0 p0 b).2.1 q ∧ ch (t0 + b) (wk ch w t0 p0 b).2.1 = 2 + q ∧ k < b + w (wk ch w t0 p0 b).2.1 q)
  | 0, h => by
    refine ⟨0, Nat.le_refl 0, rfl, ?_⟩
    rcases hc (t0 + 0) p0 (by omega) h hp with h1 | ⟨q, h1, h2, h3, h4⟩
    · exact Or.inl ⟨h1, rfl⟩
    · exact Or.inr ⟨q, h1, h2, h3, h4, by show 0 < 0 + w p0 q; omega⟩
  | k + 1, h => by
    obtain ⟨i1, i2, i3⟩ := wk_inv hc hp (k + 1) (by omega)
    by_cases hx : (wk ch w t0 p0 (k + 1)).2.2 = t0 + (k + 1)
    · refine ⟨k + 1, Nat.le_refl _, hx, ?_⟩
      rcases hc (t0 + (k + 1)) (wk ch w t0 p0 (k + 1)).2.1 (by omega) h i1 with h1 | ⟨q, h1, h2, h3, h4⟩
      · exact Or.inl ⟨h1, rfl⟩
      · exact Or.inr ⟨q, h1, h2, h3, h4, by omega⟩
    · obtain ⟨b, b1, b2, b3⟩ := wk_seg hc hp k (by omega)
      rcases b3 with ⟨c1, c2⟩ | ⟨q, c1, c2, c3, c4, c5⟩
      · exfalso
        subst c2
        have e : wk ch w t0 p0 (b + 1) = wkS ch w (t0 + b) (wk ch w t0 p0 b) := rfl
        apply hx
        rw [e]
        unfold wkS
        rw [if_pos (by omega), if_pos (by omega)]
        show t0 + b + 1 = _
        omega
      · have e1 := wk_stay hc b2 c4 (k - b) (by omega) (by omega)
        rw [show b + 1 + (k - b) = k + 1 by omega] at e1
        rw [e1] at hx i2
        refine ⟨b, by omega, b2, Or.inr ⟨q, c1, c2, c3, c4, ?_⟩⟩
        have hx' : ¬ t0 + b + w (wk ch w t0 p0 b).2.1 q = t0 + (k + 1) := hx
        have i2' : t0 + (k + 1) ≤ t0 + b + w (wk ch w t0 p0 b).2.1 q := i2
        omega
/-- a code that leads to a place -/
def Lead (w : Nat → Nat → Nat) (c p : Nat) : Prop := c = p ∨ c = 100 + p ∨ ∃ r, c = 200 + 12 * r + p ∧ w r p ≤ 9
theorem wk_lead (hc : ChOk ch w A t0) (hp : p0 < A) : ∀ k, 1 ≤ k → t0 + k ≤ 48 → Lead w (wk ch w t0 p0 k).1 (wk ch w t0 p0 k).2.1
  | 0, h, _ => by omega
  | k + 1, _, h => by
    obtain ⟨i1, i2, i3⟩ := wk_inv hc hp k (by omega)
    show Lead w (wkS ch w (t0 + k) (wk ch w t0 p0 k)).1 (wkS ch w (t0 + k) (wk ch w t0 p0 k)).2.1
    by_cases hx : (wk ch w t0 p0 k).2.2 ≤ t0 + k
    · unfold wkS
      rw [if_pos hx]
      rcases hc (t0 + k) (wk ch w t0 p0 k).2.1 (by omega) (by omega) i1 with h1 | ⟨q, h1, h2, h3, h4⟩
      · rw [if_pos (by omega)]
        by_cases hz : ch (t0 + k) (wk ch w t0 p0 k).2.1 = 0
        · rw [hz]
          exact Or.inl rfl
        · rw [show ch (t0 + k) (wk ch w t0 p0 k).2.1 = 1 by omega]
          exact Or.inr (Or.inl rfl)
      · rw [if_neg (by omega), h4, cdx_2, show 2 + q - 2 = q by omega]
        exact Or.inr (Or.inr ⟨_, rfl, h2⟩)
    · have e : wkS ch w (t0 + k) (wk ch w t0 p0 k) = wk ch w t0 p0 k := by
        unfold wkS
        rw [if_neg hx]
      rw [e]
      have k1 : 1 ≤ k := by
        rcases Nat.eq_zero_or_pos k with h0 | h0
        · subst h0
          exact absurd (Nat.le_refl t0) hx
        · exact h0
      exact wk_lead hc hp k k1 (by omega)
theorem Lead_ne {c p q : Nat} (hp : p < 12) (hq : q < 12) (hw : ∀ a, a < 12 → 9 < w a a) (h : Lead w c p) : c ≠ 200 + 12 * p + q := by
  intro e
  rcases h with h | h | ⟨r, h1, h2⟩
  · omega
  · omega
  · have : r = p := by omega
    subst this
    have := hw r hp
    omega
/-- the code chosen at a tick -/
theorem pc_at (hc : ChOk ch w A t0) {b : Nat} (hx : (wk ch w t0 p0 b).2.2 = t0 + b) : pcF ch w t0 p0 (t0 + b) = cdx (wk ch w t0 p0 b).2.1 (ch (t0 + b) (wk ch w t0 p0 b).2.1) := by
  rw [pcF_k]
  unfold wkS
  rw [if_pos (by omega)]
  split <;> rfl
theorem way_ne {p q h : Nat} (hp : p < 12) (hq : q < 12) (hw : ∀ a, a < 12 → 9 < w a a) (hpq : w p q ≤ 9) (hh : h ≤ 1 ∨ ∃ r, r < 12 ∧ h = 2 + r) : cdx q h ≠ 200 + 12 * p + q := by
  rcases hh with hh | ⟨r, hr, hh⟩
  · unfold cdx
    split
    · omega
    · rw [if_pos (by omega)]; omega
  · rw [hh, cdx_2]
    intro e
    have : q = p := by omega
    subst this
    have := hw q hq
    omega
theorem PWell_new {c : Nat → Int32} (hA : A ≤ 12) (hc : ChOk ch w A t0) (hp : p0 < A) (hw : ∀ a, a < 12 → 9 < w a a) (hnew : ∀ t, t0 ≤ t → t < 48 → c t = nI (pcF ch w t0 p0 t)) (hpre : ∀ t, t < t0 → t < 48 → c t ≠ NN ∧ ∀ p q, p < 12 → q < 12 → c t = nI (200 + 12 * p + q) → ∃ b, b ≤ t ∧ t < b + w p q ∧ (∀ u, b ≤ u → u < t0 → u < 48 → u < b + w p q → c u = c t) ∧ (b = 0 ∨ c (b - 1) ≠ c t) ∧ ((48 ≤ b + w p q ∧ 48 ≤ t0) ∨ (b + w p q < t0 ∧ c (b + w p q) ≠ c t) ∨ (b + w p q = t0 ∧ q = p0 ∧ w p q ≤ 9))) (hbd : t0 = 0 ∨ ∀ q, q < 12 → c (t0 - 1) ≠ nI (200 + 12 * p0 + q)) : PWell w c := by
  intro t ht
  by_cases hlt : t < t0
  · obtain ⟨h1, h2⟩ := hpre t hlt ht
    refine ⟨h1, fun p q hp' hq' e => ?_⟩
    obtain ⟨b, b1, b2, b3, b4, b5⟩ := h2 p q hp' hq' e
    rcases b5 with ⟨b5, h⟩ | ⟨b5, b6⟩ | ⟨b5, b6, b7⟩
    · exact ⟨b, b1, b2, fun u u1 u2 u3 => b3 u u1 (by omega) u2 u3, b4, Or.inl b5⟩
    · exact ⟨b, b1, b2, fun u u1 u2 u3 => b3 u u1 (by omega) u2 u3, b4, Or.inr b6⟩
    · refine ⟨b, b1, b2, fun u u1 u2 u3 => b3 u u1 (by omega) u2 u3, b4, ?_⟩
      by_cases h48' : 48 ≤ b + w p q
      · exact Or.inl h48'
      · refine Or.inr ?_
        rw [b5, e, hnew t0 (Nat.le_refl _) (by omega), ne_eq]
        have e1 := pc_at (p0 := p0) hc (b := 0) (rfl : (wk ch w t0 p0 0).2.2 = t0 + 0)
        rw [Nat.add_zero] at e1
        have e2 : pcF ch w t0 p0 t0 = cdx p0 (ch t0 p0) := e1
        have hcc := hc t0 p0 (Nat.le_refl _) (by omega) hp
        have hne := way_ne (w := w) (p := p) (q := p0) (h := ch t0 p0) hp' (by omega) hw (by rw [← b6]; exact b7) (by
          rcases hcc with h | ⟨r, r1, r2, r3, r4⟩
          · exact Or.inl h
          · exact Or.inr ⟨r, by omega, r4⟩)
        have hb : cdx p0 (ch t0 p0) < 2 ^ 31 := by
          rcases hcc with h | ⟨r, r1, r2, r3, r4⟩
          · unfold cdx
            split
            · omega
            · rw [if_pos (by omega)]; omega
          · rw [r4, cdx_2]
            omega
        rw [e2, eq_nI hb (by omega), b6]
        exact hne
  · obtain ⟨k, hk⟩ : ∃ k, t = t0 + k := ⟨t - t0, by omega⟩
    subst hk
    obtain ⟨b, b1, b2, b3⟩ := wk_seg hc hp k ht
    obtain ⟨i1, i2, i3⟩ := wk_inv hc hp b (by omega)
    have pb : ∀ j, t0 + j < 48 → pcF ch w t0 p0 (t0 + j) < 2 ^ 31 := by
      intro j hj
      obtain ⟨bj, x1, x2, x3⟩ := wk_seg hc hp j hj
      obtain ⟨y1, y2, y3⟩ := wk_inv hc hp bj (by omega)
      rcases x3 with ⟨z1, z2⟩ | ⟨q, z1, z2, z3, z4, z5⟩
      · subst z2
        rw [pc_at hc x2]
        unfold cdx
        split
        · omega
        · rw [if_pos (by omega)]; omega
      · have := wk_pcs hc x2 z4 (j - bj) (by omega) (by omega)
        rw [show t0 + bj + (j - bj) = t0 + j by omega] at this
        rw [this]
        omega
    refine ⟨?_, fun p q hp' hq' e => ?_⟩
    · rw [hnew _ (by omega) ht, ne_eq, nI_NN (pb k ht)]
      exact not_false
    · rw [hnew _ (by omega) ht, eq_nI (pb k ht) (by omega)] at e
      rcases b3 with ⟨c1, c2⟩ | ⟨q', c1, c2, c3, c4, c5⟩
      · exfalso
        subst c2
        rw [pc_at hc b2] at e
        unfold cdx at e
        split at e
        · omega
        · rw [if_pos (by omega)] at e; omega
      · have ps := wk_pcs hc b2 c4
        have e1 := ps (k - b) (by omega) (by omega)
        rw [show t0 + b + (k - b) = t0 + k by omega, e] at e1
        have eq1 : (wk ch w t0 p0 b).2.1 = p := by omega
        have eq2 : q' = q := by omega
        subst eq2
        rw [eq1] at c2 c3 c4 c5 ps
        refine ⟨t0 + b, by omega, by omega, fun u u1 u2 u3 => ?_, ?_, ?_⟩
        · rw [hnew u (by omega) u2, hnew _ (by omega) ht, e]
          have := ps (u - (t0 + b)) (by omega) (by omega)
          rw [show t0 + b + (u - (t0 + b)) = u by omega] at this
          rw [this]
        · rw [hnew (t0 + k) (by omega) ht, e]
          by_cases hb0 : b = 0
          · subst hb0
            have ep : p0 = p := eq1
            rcases hbd with h | h
            · exact Or.inl (by omega)
            · refine Or.inr ?_
              rw [Nat.add_zero, ← ep]
              exact h q' hq'
          · refine Or.inr ?_
            have hl := wk_lead hc hp b (by omega) (by omega)
            have hne := Lead_ne (q := q') (by omega) hq' hw hl
            rw [eq1] at hne
            have hpc : pcF ch w t0 p0 (t0 + b - 1) = (wk ch w t0 p0 b).1 := by
              unfold pcF
              rw [show t0 + b - 1 - t0 + 1 = b by omega]
            have hbb := pb (b - 1) (by omega)
            rw [show t0 + (b - 1) = t0 + b - 1 by omega] at hbb
            rw [hnew (t0 + b - 1) (by omega) (by omega), ne_eq, eq_nI hbb (by omega), hpc]
            exact hne
        · by_cases h48' : 48 ≤ t0 + b + w p q'
          · exact Or.inl h48'
          · refine Or.inr ?_
            have st := wk_stay hc b2 (by rw [eq1]; exact c4) (w p q' - 1) (by rw [eq1]; omega) (by omega)
            rw [eq1, show b + 1 + (w p q' - 1) = b + w p q' by omega] at st
            have hx2 : (wk ch w t0 p0 (b + w p q')).2.2 = t0 + (b + w p q') := by
              rw [st]
              show t0 + b + w p q' = _
              omega
            have pa := pc_at hc hx2
            have hpos : (wk ch w t0 p0 (b + w p q')).2.1 = q' := by rw [st]
            rw [hpos] at pa
            have hcc := hc (t0 + (b + w p q')) q' (by omega) (by omega) c1
            have hne := way_ne (w := w) (p := p) (q := q') (h := ch (t0 + (b + w p q')) q') hp' hq' hw c2 (by
              rcases hcc with h | ⟨r, r1, r2, r3, r4⟩
              · exact Or.inl h
              · exact Or.inr ⟨r, by omega, r4⟩)
            have hbb := pb (b + w p q') (by omega)
            rw [show t0 + b + w p q' = t0 + (b + w p q') by omega, hnew _ (by omega) (by omega), hnew (t0 + k) (by omega) ht, e, ne_eq, eq_nI hbb (by omega), pa]
            exact hne
theorem wk_c {ch' : Nat → Nat → Nat} (hc : ChOk ch w A t0) (hp : p0 < A) (h : ∀ t p, t0 ≤ t → t < 48 → p < A → ch' t p = ch t p) : ∀ k, t0 + k ≤ 48 → wk ch' w t0 p0 k = wk ch w t0 p0 k
  | 0, _ => rfl
  | k + 1, hk => by
    obtain ⟨i1, i2, i3⟩ := wk_inv hc hp k (by omega)
    show wkS ch' w (t0 + k) (wk ch' w t0 p0 k) = wkS ch w (t0 + k) (wk ch w t0 p0 k)
    rw [wk_c hc hp h k (by omega)]
    unfold wkS
    rw [h (t0 + k) _ (by omega) (by omega) i1]
theorem pcF_c {ch' : Nat → Nat → Nat} (hc : ChOk ch w A t0) (hp : p0 < A) (h : ∀ t p, t0 ≤ t → t < 48 → p < A → ch' t p = ch t p) {t : Nat} (h1 : t0 ≤ t) (h2 : t < 48) : pcF ch' w t0 p0 t = pcF ch w t0 p0 t := by
  unfold pcF
  rw [wk_c hc hp h _ (by omega)]
/-- a plan's code as a number -/
theorem pcF_code (hA : A ≤ 12) (hc : ChOk ch w A t0) (hp : p0 < A) {t : Nat} (h1 : t0 ≤ t) (h2 : t < 48) : pcF ch w t0 p0 t < 400 ∧ PCode A w (nI (pcF ch w t0 p0 t)) := by
  obtain ⟨b, x1, x2, x3⟩ := wk_seg hc hp (t - t0) (by omega)
  obtain ⟨y1, y2, y3⟩ := wk_inv hc hp b (by omega)
  rcases x3 with ⟨z3, z4⟩ | ⟨q, w1, w2, w3, w4, w5⟩
  · have pa := pc_at hc x2
    rw [z4, show t0 + (t - t0) = t by omega] at pa
    rw [z4, show t0 + (t - t0) = t by omega] at z3
    rw [z4] at y1
    rw [pa]
    unfold cdx
    by_cases h0 : ch t (wk ch w t0 p0 (t - t0)).2.1 = 0
    · rw [if_pos h0]
      exact ⟨by omega, Or.inr (Or.inl ⟨_, y1, rfl⟩)⟩
    · rw [if_neg h0, if_pos (by omega)]
      exact ⟨by omega, Or.inr (Or.inr (Or.inl ⟨_, y1, rfl⟩))⟩
  · have ps := wk_pcs hc x2 w4 (t - t0 - b) (by omega) (by omega)
    rw [show t0 + b + (t - t0 - b) = t by omega] at ps
    rw [ps]
    exact ⟨by omega, Or.inr (Or.inr (Or.inr ⟨_, _, y1, w1, by omega, rfl⟩))⟩
end Well

