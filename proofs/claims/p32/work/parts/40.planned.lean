variable {κ : Nat → Nat → Nat → Prop}
/-! ===== the reference's planning of one anew ===== -/
def fM1 (σ : Mem) (f N : Nat) : Mem := sK (sK (wI σ 30 0 4 (σ.1 30 0 4 + nI 1)) 46 (fun i j => if i = 0 ∧ 48 * f + N ≤ j ∧ j < 48 * f + 48 then NN else σ.1 46 i j)) 48 (fun i j => if i = 0 ∧ j < 576 ∧ N ≤ j % 48 ∧ σ.1 46 0 (48 * f + j % 48) = nI (j / 48) then σ.1 48 0 j + NN else σ.1 48 i j)
def fM3 (σ : Mem) (f N z : Nat) (c : Nat → Int32) (s : Nat → Nat → Int32) : Mem := sK (mM (fM1 σ f N) c s) 46 (fun i j => if i = 0 ∧ 48 * f + N ≤ j ∧ j < 48 * f + z then σ.1 46 0 (48 * f + (N - 1)) else (fM1 σ f N).1 46 i j)
theorem fM1_o {σ : Mem} {f N k i j : Nat} (h1 : k ≠ 46) (h2 : k ≠ 48) (h3 : k ≠ 30 ∨ j ≠ 4) : (fM1 σ f N).1 k i j = σ.1 k i j := by
  rw [fM1, sK_r, if_neg h2, sK_r, if_neg h1, wI_r, if_neg (fun z => h3.elim (fun h => h z.1) (fun h => h z.2.2))]
theorem fM3_o {σ : Mem} {f N z k i j : Nat} {c : Nat → Int32} {s : Nat → Nat → Int32} (h1 : k ≠ 46) (h2 : k ≠ 48) (h3 : k ≠ 30 ∨ j ≠ 4) (h4 : k ≠ 61) (h5 : k ≠ 62) : (fM3 σ f N z c s).1 k i j = σ.1 k i j := by
  rw [fM3, sK_r, if_neg h1, mM_o ⟨h4, h5⟩, fM1_o h1 h2 h3]
theorem fM3_N {σ : Mem} {f N : Nat} {c : Nat → Int32} {s : Nat → Nat → Int32} : fM3 σ f N N c s = mM (fM1 σ f N) c s := by
  refine Mem_ext (fun k i j => ?_) rfl
  rw [fM3, sK_r]
  split
  · rename_i h
    subst h
    rw [if_neg (by omega), mM_o ⟨by omega, by omega⟩]
  · rfl
theorem f_X8_planned_152 {d f N z e p0 : Nat} {v4 kc : Int32} {σ : Mem} {P : Option AV → Mem → Prop} (hf : f < 20) (hN : N < 48) (hNz : N ≤ z) (he : e < 2 ^ 30) (hz : z = min e 48) (hP : Rn (fun Q => J IM M_X8_planned (d + 4) 201 [(0, ar 30 0), (1, ai (nI f)), (2, ai (nI z)), (3, ai (nI p0)), (4, ai v4), (6, ai (nI 0))] [] (sK σ 46 (fun i j => if i = 0 ∧ 48 * f + N ≤ j ∧ j < 48 * f + z then kc else σ.1 46 i j)) Q) P) : Rn (fun Q => J IM M_X8_planned (d + 4) 152 [(0, ar 30 0), (1, ai (nI f)), (2, ai (nI N)), (3, ai (nI p0)), (4, ai v4), (5, ai kc), (7, ai (nI e))] [] σ Q) P := by
  refine loopU (C := fun i z' Q => J IM M_X8_planned (d + 4) 152 [(0, ar 30 0), (1, ai (nI f)), (2, ai (nI i)), (3, ai (nI p0)), (4, ai v4), (5, ai kc), (7, ai (nI e))] [] z' Q) (Inv := fun n z' => N ≤ n ∧ z' = sK σ 46 (fun i j => if i = 0 ∧ 48 * f + N ≤ j ∧ j < 48 * f + n then kc else σ.1 46 i j)) (n := z) ?_ ?_ hNz ?_
  · rintro t z' ht ⟨hl, hz'⟩ ih
    refine Rn_map (fun Q => x_X8_planned_152) ?_
    simp (disch := omega) only [lit_0, lit_1, lit_2, lit_3, lit_4, lit_5, lit_6, lit_7, lit_8, lit_9, lit_10, lit_11, lit_12, lit_17, lit_20, lit_30, lit_31, lit_32, lit_47, lit_48, lit_60, lit_99, lit_100, lit_144, lit_200, lit_240, lit_300, lit_576, lit_960, lit_1008, lit_1000000, lit_100000000, true_implies, not_true_eq_false, false_implies, not_false_eq_true, true_and, and_true, neg_1, nI_add, pk_mul, nI_clamp, le_nI, lt_nI, eq_nI, vp_nI, nI_NN, NN_nI, NN_lt, NN_le, lt_NN, le_NN]
    repeat' (first | refine Rn_and (by first | omega | assumption) ?_ | refine Rn_pos (by first | omega | assumption) ?_ | refine Rn_neg (by first | omega | assumption) ?_ | refine Rn_pos' (by first | omega | assumption) ?_ | refine Rn_neg' (by first | omega | assumption) ?_ | fail)
    refine ih _ ⟨by omega, ?_⟩
    subst hz'
    refine Mem_ext (fun k i j => ?_) rfl
    simp only [wI_r, sK_r]
    grind
  · rintro z' ⟨hl, hz'⟩
    subst hz'
    refine Rn_map (fun Q => x_X8_planned_152) ?_
    simp (disch := omega) only [lit_0, lit_1, lit_2, lit_3, lit_4, lit_5, lit_6, lit_7, lit_8, lit_9, lit_10, lit_11, lit_12, lit_17, lit_20, lit_30, lit_31, lit_32, lit_47, lit_48, lit_60, lit_99, lit_100, lit_144, lit_200, lit_240, lit_300, lit_576, lit_960, lit_1008, lit_1000000, lit_100000000, true_implies, not_true_eq_false, false_implies, not_false_eq_true, true_and, and_true, neg_1, nI_add, pk_mul, nI_clamp, le_nI, lt_nI, eq_nI, vp_nI, nI_NN, NN_nI, NN_lt, NN_le, lt_NN, le_NN]
    by_cases h : e ≤ z
    · repeat' (first | refine Rn_and (by first | omega | assumption) ?_ | refine Rn_pos (by first | omega | assumption) ?_ | refine Rn_neg (by first | omega | assumption) ?_ | refine Rn_pos' (by first | omega | assumption) ?_ | refine Rn_neg' (by first | omega | assumption) ?_ | fail)
      exact hP
    · repeat' (first | refine Rn_and (by first | omega | assumption) ?_ | refine Rn_pos (by first | omega | assumption) ?_ | refine Rn_neg (by first | omega | assumption) ?_ | refine Rn_pos' (by first | omega | assumption) ?_ | refine Rn_neg' (by first | omega | assumption) ?_ | fail)
      exact hP
  · refine ⟨by omega, ?_⟩
    refine Mem_ext (fun k i j => ?_) rfl
    simp only [sK_r]
    grind
theorem f_X8_planned {d f n G A N z p0 hm pb ab bb : Nat} {on : Bool} {pD aD bD pM aM bM aH bH : Nat → Nat} {vD vM wh lk : Nat → Int32} {may : Nat → Nat → Bool} {w : Nat → Nat → Nat} {c : Nat → Int32} {s : Nat → Nat → Int32} {cn : Nat → Nat} {sn : Nat → Nat → Nat} {ln : Nat → Nat} {σ : Mem} {P : Int32 → Mem → Prop} (hf : f < 20) (hA : A ≤ 12) (hN : N < 48) (hn : n ≤ 12) (hG : G ≤ 10) (hh : hm < 12) (mA : σ.1 30 0 5 = nI A) (mN : σ.1 30 0 2 = nI N) (mG : σ.1 30 0 25 = nI G)
  (hc46 : ∀ t, t < 48 → σ.1 46 0 (48 * f + t) = NN ∨ ∃ n, n < 400 ∧ σ.1 46 0 (48 * f + t) = nI n)
  (m41 : σ.1 41 0 f = nI n) (hd : ∀ k, k < n → σ.1 42 0 (48 * f + 4 * k) = nI (pD k) ∧ σ.1 42 0 (48 * f + 4 * k + 1) = nI (aD k) ∧ σ.1 42 0 (48 * f + 4 * k + 2) = nI (bD k) ∧ σ.1 42 0 (48 * f + 4 * k + 3) = vD k ∧ pD k < 12 ∧ aD k ≤ bD k ∧ bD k ≤ 48)
  (hb : (on = false ∧ σ.1 44 0 f = nI 0) ∨ (on = true ∧ σ.1 44 0 f = nI 1 ∧ σ.1 45 0 (3 * f) = nI pb ∧ σ.1 45 0 (3 * f + 1) = nI ab ∧ σ.1 45 0 (3 * f + 2) = nI bb ∧ pb < 12 ∧ ab ≤ bb ∧ bb ≤ 48))
  (hm' : ∀ g, g < G → σ.1 49 0 g = wh g ∧ σ.1 50 0 (4 * g) = nI (pM g) ∧ σ.1 50 0 (4 * g + 1) = nI (aM g) ∧ σ.1 50 0 (4 * g + 2) = nI (bM g) ∧ σ.1 50 0 (4 * g + 3) = vM g ∧ pM g < 12 ∧ aM g ≤ bM g ∧ bM g ≤ 48)
  (hcs : (∀ t, c t = cS aD bD vD tt n t + cS aM bM vM (fun g => bt (wh g) f) G t + bC on ab bb t) ∧ ∀ q t, s q t = sS pD aD bD vD tt n q t + sS pM aM bM vM (fun g => bt (wh g) f) G q t + bS on pb ab bb q t)
  (hcn : ∀ t, t < 48 → c t = nI (cn t) ∧ cn t ≤ 2400) (hsn : ∀ p t, p < 12 → t < 48 → s p t = nI (sn p t) ∧ sn p t ≤ 2400) (hln : ∀ p, p < 12 → lk p = nI (ln p) ∧ ln p ≤ 9)
  (x40 : ∀ p, p < 12 → σ.1 40 0 (12 * f + p) = lk p) (x38 : σ.1 38 0 f = nI hm)
  (hw : ∀ p q, p < 12 → q < 12 → 1 ≤ w p q ∧ (w p q ≤ 9 ∨ w p q = 1000000) ∧ σ.1 36 0 (12 * p + q) = nI (w p q))
  (xH : ∀ p, p < A → aH p < bH p ∧ bH p ≤ 48 ∧ σ.1 33 0 p = nI (aH p) ∧ σ.1 34 0 p = nI (bH p))
  (hmay : ∀ p t, p < A → t < 48 → ((may p t = true) ↔ ((aH p ≤ t ∧ t < bH p) ∨ bt (σ.1 39 0 f) p = true) ∧ σ.1 35 0 p = nI 0 ∧ ((fM1 σ f N).1 48 0 (48 * p + t)).toInt < (σ.1 32 0 p).toInt))
  (hNz : N ≤ z) (hz48 : z ≤ 48) (hp0 : p0 < A)
  (hst : (N = 0 ∧ z = 0 ∧ p0 = hm) ∨ (0 < N ∧ z = N ∧ ∃ m, σ.1 46 0 (48 * f + (N - 1)) = nI m ∧ ((m < 12 ∧ p0 = m) ∨ (100 ≤ m ∧ m < 112 ∧ p0 = m - 100))) ∨ (0 < N ∧ ∃ pp b, pp < A ∧ w pp p0 ≤ 9 ∧ σ.1 46 0 (48 * f + (N - 1)) = nI (200 + 12 * pp + p0) ∧ b ≤ N - 1 ∧ N - 1 < b + w pp p0 ∧ z = min (b + w pp p0) 48 ∧ (∀ u, b ≤ u → u ≤ N - 1 → σ.1 46 0 (48 * f + u) = σ.1 46 0 (48 * f + (N - 1))) ∧ (b = 0 ∨ σ.1 46 0 (48 * f + (b - 1)) ≠ σ.1 46 0 (48 * f + (N - 1)))))
  (hP : ∀ L C, (∀ t p, z ≤ t → t < 48 → p < A → PXp c s lk may hm w A (fun _ q => nI (2 + q)) (fun p t => if may p t = true then nI 0 else nI 1) L C t p) → (∀ p, p < 12 → L (576 + p) = nI 0) → P (wcF c N (z - N) + (if z < 48 then L (12 * z + p0) else nI 0)) (wI (wkM (mT (fM3 σ f N z c s) L C) f z (pcF (chL c s lk may hm w A L) w z p0) 48) 47 0 f (wcF c N (z - N) + (if z < 48 then L (12 * z + p0) else nI 0)))) : Rn (fun K => CalI IM (d + 4) S_X8_planned [ar 30 0, ai (nI f)] σ K) P := by
  -- from the search on
  have h201 : Rn (fun Q => J IM M_X8_planned (d + 4) 201 [(0, ar 30 0), (1, ai (nI f)), (2, ai (nI z)), (3, ai (nI p0)), (4, ai (wcF c N (z - N))), (6, ai (nI 0))] [] (fM3 σ f N z c s) Q) (fun v s' => ∃ x, v = some (ai x) ∧ P x s') := by
    have k3 : ∀ k i j, k ≠ 46 → k ≠ 48 → (k ≠ 30 ∨ j ≠ 4) → k ≠ 61 → k ≠ 62 → (fM3 σ f N z c s).1 k i j = σ.1 k i j := fun k i j h1 h2 h3 h4 h5 => fM3_o h1 h2 h3 h4 h5
    have k48 : ∀ j, (fM3 σ f N z c s).1 48 0 j = (fM1 σ f N).1 48 0 j := by
      intro j
      rw [fM3, sK_r, if_neg (by omega), mM_o ⟨by omega, by omega⟩]
    have k61 : ∀ t, t < 48 → (fM3 σ f N z c s).1 61 0 t = c t := by
      intro t ht
      rw [fM3, sK_r, if_neg (by omega), mM_61 ht]
    have k62 : ∀ p t, p < 12 → t < 48 → (fM3 σ f N z c s).1 62 0 (12 * t + p) = s p t := by
      intro p t hp ht
      rw [fM3, sK_r, if_neg (by omega), mM_62 hp ht]
    refine f_X8_planned_201 (hm := hm) (c := c) (s := s) (lk := lk) (cn := cn) (sn := sn) (ln := ln) (may := may) (w := w) (aH := aH) (bH := bH) hf hA hh hz48 (by omega) ((k3 _ _ _ (by omega) (by omega) (by omega) (by omega) (by omega)).trans mA) k61 k62 (fun p hp => (k3 _ _ _ (by omega) (by omega) (by omega) (by omega) (by omega)).trans (x40 p hp)) ((k3 _ _ _ (by omega) (by omega) (by omega) (by omega) (by omega)).trans x38) (fun p q hp hq => by rw [k3 _ _ _ (by omega) (by omega) (by omega) (by omega) (by omega)]; exact hw p q hp hq) hcn hsn hln (fun p hp => by rw [k3 _ _ _ (by omega) (by omega) (by omega) (by omega) (by omega), k3 _ _ _ (by omega) (by omega) (by omega) (by omega) (by omega)]; exact xH p hp) (fun p t hp ht => by rw [k3 39 _ _ (by omega) (by omega) (by omega) (by omega) (by omega), k3 35 _ _ (by omega) (by omega) (by omega) (by omega) (by omega), k3 32 _ _ (by omega) (by omega) (by omega) (by omega) (by omega), k48]; exact hmay p t hp ht) (fun L C hall hr => ?_)
    have hch : ChOk (chL c s lk may hm w A L) w A z := by
      intro t p h1 h2 h3
      rcases (chL_ok (c := c) (s := s) (lk := lk) (may := may) (hm := hm) (w := w) (L := L) (t := t) hA (by omega : p < 12)).2.2 with h | ⟨q, q1, q2, q3⟩
      · exact Or.inl h
      · have := hw p q (by omega) (by omega)
        exact Or.inr ⟨q, q1, by omega, this.1, q3⟩
    refine f_X8_walks hf hA hz48 hp0 hch (fun t p h1 h2 h3 => ?_) (fun p q hp hq hpq => ?_) ?_
    · rw [mT_64, (hall t p h1 h2 h3).2]
      exact (chL_ok hA (by omega)).1
    · rw [mT_o ⟨by omega, by omega⟩, k3 _ _ _ (by omega) (by omega) (by omega) (by omega) (by omega)]
      exact (hw p q (by omega) (by omega)).2.2
    · exact ⟨_, rfl, hP L C hall hr⟩
  have hc' : ∀ t, t < 48 → (wI σ 30 0 4 (σ.1 30 0 4 + nI 1)).1 46 0 (48 * f + t) = NN ∨ ∃ n, n < 400 ∧ (wI σ 30 0 4 (σ.1 30 0 4 + nI 1)).1 46 0 (48 * f + t) = nI n := hc46
  have k1 : ∀ k i j, k ≠ 46 → k ≠ 48 → (k ≠ 30 ∨ j ≠ 4) → (fM1 σ f N).1 k i j = σ.1 k i j := fun k i j h1 h2 h3 => fM1_o h1 h2 h3
  have fc : ∀ {α : Type} {T : Mem → (α → Mem → Prop) → Prop} {PP : α → Mem → Prop}, Rn (T (mM (fM1 σ f N) c s)) PP → Rn (fun K => CalV IM (d + 3) S_X8_findClaims [ar 30 0, ai (nI f)] (fM1 σ f N) (fun s' => T s' K)) PP := by
    intro α T PP hT
    refine Rn_cV (f_X8_findClaims (n := n) (G := G) (pb := pb) (ab := ab) (bb := bb) (on := on) (pD := pD) (aD := aD) (bD := bD) (pM := pM) (aM := aM) (bM := bM) (vD := vD) (vM := vM) (wh := wh) hf hn hG ((k1 _ _ _ (by omega) (by omega) (by omega)).trans m41) ((k1 _ _ _ (by omega) (by omega) (by omega)).trans mG) (fun k hk => by rw [k1 _ _ _ (by omega) (by omega) (by omega), k1 _ _ _ (by omega) (by omega) (by omega), k1 _ _ _ (by omega) (by omega) (by omega), k1 _ _ _ (by omega) (by omega) (by omega)]; exact hd k hk) (fun g hg => by rw [k1 _ _ _ (by omega) (by omega) (by omega), k1 _ _ _ (by omega) (by omega) (by omega), k1 _ _ _ (by omega) (by omega) (by omega), k1 _ _ _ (by omega) (by omega) (by omega), k1 _ _ _ (by omega) (by omega) (by omega)]; exact hm' g hg) (by rw [k1 _ _ _ (by omega) (by omega) (by omega), k1 _ _ _ (by omega) (by omega) (by omega), k1 _ _ _ (by omega) (by omega) (by omega), k1 _ _ _ (by omega) (by omega) (by omega)]; exact hb) ?_)
    have e : mM (fM1 σ f N) (fun t => cS aD bD vD tt n t + cS aM bM vM (fun g => bt (wh g) f) G t + bC on ab bb t) (fun q t => sS pD aD bD vD tt n q t + sS pM aM bM vM (fun g => bt (wh g) f) G q t + bS on pb ab bb q t) = mM (fM1 σ f N) c s := by
      congr 1
      · funext t
        exact (hcs.1 t).symm
      · funext q t
        exact (hcs.2 q t).symm
    rw [e]
    exact hT
  have rN : (mM (fM1 σ f N) c s).1 30 0 2 = nI N := (mM_o ⟨by omega, by omega⟩).trans ((k1 _ _ _ (by omega) (by omega) (by omega)).trans mN)
  have r46 : ∀ t, t < N → (mM (fM1 σ f N) c s).1 46 0 (48 * f + t) = σ.1 46 0 (48 * f + t) := by
    intro t ht
    rw [mM_o ⟨by omega, by omega⟩, fM1, sK_r, if_neg (by omega), sK_r, if_pos rfl, if_neg (by omega)]
  refine Rn_map (fun K => x_X8_planned) ?_
  rcases hst with ⟨q1, q2, q3⟩ | ⟨q1, q2, m, q3, q4⟩ | ⟨q1, pp, b, q2, q3, q4, q5, q6, q7, q8, q9⟩
  · subst q1
    subst q2
    subst q3
    simp (disch := omega) only [lit_0, lit_1, lit_2, lit_3, lit_4, lit_5, lit_6, lit_7, lit_8, lit_9, lit_10, lit_11, lit_12, lit_17, lit_20, lit_30, lit_31, lit_32, lit_47, lit_48, lit_60, lit_99, lit_100, lit_144, lit_200, lit_240, lit_300, lit_576, lit_960, lit_1008, lit_1000000, lit_100000000, true_implies, not_true_eq_false, false_implies, not_false_eq_true, true_and, and_true, neg_1, nI_add, pk_mul, nI_clamp, le_nI, lt_nI, eq_nI, vp_nI, nI_NN, NN_nI, NN_lt, NN_le, lt_NN, le_NN, mN, x38]
    repeat' (first | refine Rn_and (by first | omega | assumption) ?_ | refine Rn_pos (by first | omega | assumption) ?_ | refine Rn_neg (by first | omega | assumption) ?_ | refine Rn_pos' (by first | omega | assumption) ?_ | refine Rn_neg' (by first | omega | assumption) ?_ | fail)
    refine Rn_cV (Rv_mono (f_X8_leaves hf (by omega) hc') ?_)
    rintro s1 hs1
    have e1 : s1 = fM1 σ f 0 := hs1
    rw [e1]
    refine fc ?_
    rw [← fM3_N]
    exact Rn_KQ h201
  · subst q2
    have e1 : nI (48 * f + z) - nI 1 = nI (48 * f + (z - 1)) := (pk_sub (by omega)).trans (congrArg nI (by omega))
    have fin : Rn (fun Q => J IM M_X8_planned (d + 4) 201 [(0, ar 30 0), (1, ai (nI f)), (2, ai (nI z)), (3, ai (nI p0)), (4, ai (nI 0)), (6, ai (nI 0))] [] (mM (fM1 σ f z) c s) Q) (fun v s' => ∃ x, v = some (ai x) ∧ P x s') := by
      rw [← fM3_N]
      rw [Nat.sub_self] at h201
      exact h201
    have m1 : nI m / nI 100 = nI (m / 100) := pk_div (by omega) (by omega) (by omega)
    have m2 : nI m - nI (m / 100 * 100) = nI p0 := (pk_sub (by omega)).trans (congrArg nI (by omega))
    simp (disch := omega) only [lit_0, lit_1, lit_2, lit_3, lit_4, lit_5, lit_6, lit_7, lit_8, lit_9, lit_10, lit_11, lit_12, lit_17, lit_20, lit_30, lit_31, lit_32, lit_47, lit_48, lit_60, lit_99, lit_100, lit_144, lit_200, lit_240, lit_300, lit_576, lit_960, lit_1008, lit_1000000, lit_100000000, true_implies, not_true_eq_false, false_implies, not_false_eq_true, true_and, and_true, neg_1, nI_add, pk_mul, nI_clamp, le_nI, lt_nI, eq_nI, vp_nI, nI_NN, NN_nI, NN_lt, NN_le, lt_NN, le_NN, mN, e1, q3, m1, m2]
    repeat' (first | refine Rn_and (by first | omega | assumption) ?_ | refine Rn_pos (by first | omega | assumption) ?_ | refine Rn_neg (by first | omega | assumption) ?_ | refine Rn_pos' (by first | omega | assumption) ?_ | refine Rn_neg' (by first | omega | assumption) ?_ | fail)
    refine Rn_cV (Rv_mono (f_X8_leaves hf (by omega) hc') ?_)
    rintro s1 hs1
    have e1 : s1 = fM1 σ f z := hs1
    rw [e1]
    refine fc ?_
    repeat' (first | refine Rn_and (by first | omega | assumption) ?_ | refine Rn_pos (by first | omega | assumption) ?_ | refine Rn_neg (by first | omega | assumption) ?_ | refine Rn_pos' (by first | omega | assumption) ?_ | refine Rn_neg' (by first | omega | assumption) ?_ | fail)
    exact Rn_KQ fin
  · have e1 : nI (48 * f + N) - nI 1 = nI (48 * f + (N - 1)) := (pk_sub (by omega)).trans (congrArg nI (by omega))
    have e2 : nI N - nI 1 = nI (N - 1) := pk_sub (by omega)
    have hpp := hw pp p0 (by omega) (by omega)
    simp (disch := omega) only [lit_0, lit_1, lit_2, lit_3, lit_4, lit_5, lit_6, lit_7, lit_8, lit_9, lit_10, lit_11, lit_12, lit_17, lit_20, lit_30, lit_31, lit_32, lit_47, lit_48, lit_60, lit_99, lit_100, lit_144, lit_200, lit_240, lit_300, lit_576, lit_960, lit_1008, lit_1000000, lit_100000000, true_implies, not_true_eq_false, false_implies, not_false_eq_true, true_and, and_true, neg_1, nI_add, pk_mul, nI_clamp, le_nI, lt_nI, eq_nI, vp_nI, nI_NN, NN_nI, NN_lt, NN_le, lt_NN, le_NN, mN, e1, q4]
    repeat' (first | refine Rn_and (by first | omega | assumption) ?_ | refine Rn_pos (by first | omega | assumption) ?_ | refine Rn_neg (by first | omega | assumption) ?_ | refine Rn_pos' (by first | omega | assumption) ?_ | refine Rn_neg' (by first | omega | assumption) ?_ | fail)
    refine Rn_cV (Rv_mono (f_X8_leaves hf (by omega) hc') ?_)
    rintro s1 hs1
    have es1 : s1 = fM1 σ f N := hs1
    rw [es1]
    refine fc ?_
    simp (disch := omega) only [lit_0, lit_1, lit_2, lit_3, lit_4, lit_5, lit_6, lit_7, lit_8, lit_9, lit_10, lit_11, lit_12, lit_17, lit_20, lit_30, lit_31, lit_32, lit_47, lit_48, lit_60, lit_99, lit_100, lit_144, lit_200, lit_240, lit_300, lit_576, lit_960, lit_1008, lit_1000000, lit_100000000, true_implies, not_true_eq_false, false_implies, not_false_eq_true, true_and, and_true, neg_1, nI_add, pk_mul, nI_clamp, le_nI, lt_nI, eq_nI, vp_nI, nI_NN, NN_nI, NN_lt, NN_le, lt_NN, le_NN, rN, e2]
    repeat' (first | refine Rn_and (by first | omega | assumption) ?_ | refine Rn_pos (by first | omega | assumption) ?_ | refine Rn_neg (by first | omega | assumption) ?_ | refine Rn_pos' (by first | omega | assumption) ?_ | refine Rn_neg' (by first | omega | assumption) ?_ | fail)
    refine Rn_KQ ?_
    have r36 : (mM (fM1 σ f N) c s).1 36 0 (12 * pp + p0) = nI (w pp p0) := (mM_o ⟨by omega, by omega⟩).trans ((k1 _ _ _ (by omega) (by omega) (by omega)).trans hpp.2.2)
    have d1 : nI (200 + 12 * pp + p0) - nI 200 = nI (12 * pp + p0) := (pk_sub (by omega)).trans (congrArg nI (by omega))
    have d2 : nI (12 * pp + p0) / nI 12 = nI ((12 * pp + p0) / 12) := pk_div (by omega) (by omega) (by omega)
    have d3 : nI (12 * pp + p0) - nI ((12 * pp + p0) / 12 * 12) = nI p0 := (pk_sub (by omega)).trans (congrArg nI (by omega))
    have rest : Rn (fun Q => CalI IM (d + 3) S_X8_wayCost [ar 30 0, ai (nI N), ai (nI (b + w pp p0))] (mM (fM1 σ f N) c s) (fun r s' => J IM M_X8_planned (d + 4) 152 [(0, ar 30 0), (1, ai (nI f)), (2, ai (nI N)), (3, ai (nI p0)), (4, ai r), (5, ai (nI (200 + 12 * pp + p0))), (7, ai (nI (b + w pp p0)))] [] s' Q)) (fun v s' => ∃ x, v = some (ai x) ∧ P x s') := by
      have eb : b + w pp p0 = N + (b + w pp p0 - N) := by omega
      rw [eb]
      refine Rn_cI (f_X8_wayCost (c := c) (by omega) (by omega) (fun t ht => mM_61 ht) ?_)
      rw [← eb, show min (b + w pp p0 - N) (48 - N) = z - N by omega]
      refine f_X8_planned_152 hf hN hNz (by omega) q7 ?_
      have e3 : sK (mM (fM1 σ f N) c s) 46 (fun i j => if i = 0 ∧ 48 * f + N ≤ j ∧ j < 48 * f + z then nI (200 + 12 * pp + p0) else (mM (fM1 σ f N) c s).1 46 i j) = fM3 σ f N z c s := by
        rw [fM3, q4]
        congr 1
      rw [e3]
      exact h201
    refine loopU (i := 0) (C := fun i (_ : Unit) Q => J IM M_X8_planned (d + 4) 84 [(0, ar 30 0), (1, ai (nI f)), (2, ai (nI N)), (5, ai (nI (200 + 12 * pp + p0))), (6, ai (nI (N - 1 - i)))] [] (mM (fM1 σ f N) c s) Q) (Inv := fun _ _ => True) (n := N - 1 - b) ?_ ?_ (by omega) trivial (b := ())
    · rintro i _ hi _ ih
      have e4 : nI (48 * f + (N - 1 - i)) - nI 1 = nI (48 * f + (N - 1 - i - 1)) := (pk_sub (by omega)).trans (congrArg nI (by omega))
      have r1 : (mM (fM1 σ f N) c s).1 46 0 (48 * f + (N - 1 - i - 1)) = nI (200 + 12 * pp + p0) := (r46 _ (by omega)).trans ((q8 _ (by omega) (by omega)).trans q4)
      have e5 : nI (N - 1 - i) + NN = nI (N - 1 - (i + 1)) := by
        obtain ⟨y, hy⟩ : ∃ y, N - 1 - i = y + 1 := ⟨N - 1 - i - 1, by omega⟩
        rw [hy, show N - 1 - (i + 1) = y by omega]
        exact pk_m1 y
      refine Rn_map (fun Q => x_X8_planned_84) ?_
      simp (disch := omega) only [lit_0, lit_1, lit_2, lit_3, lit_4, lit_5, lit_6, lit_7, lit_8, lit_9, lit_10, lit_11, lit_12, lit_17, lit_20, lit_30, lit_31, lit_32, lit_47, lit_48, lit_60, lit_99, lit_100, lit_144, lit_200, lit_240, lit_300, lit_576, lit_960, lit_1008, lit_1000000, lit_100000000, true_implies, not_true_eq_false, false_implies, not_false_eq_true, true_and, and_true, neg_1, nI_add, pk_mul, nI_clamp, le_nI, lt_nI, eq_nI, vp_nI, nI_NN, NN_nI, NN_lt, NN_le, lt_NN, le_NN, e4, r1, e5]
      repeat' (first | refine Rn_and (by first | omega | assumption) ?_ | refine Rn_pos (by first | omega | assumption) ?_ | refine Rn_neg (by first | omega | assumption) ?_ | refine Rn_pos' (by first | omega | assumption) ?_ | refine Rn_neg' (by first | omega | assumption) ?_ | fail)
      exact ih () trivial
    · rintro _ _
      rw [show N - 1 - (N - 1 - b) = b by omega]
      refine Rn_map (fun Q => x_X8_planned_84) ?_
      by_cases hb0 : b = 0
      · subst hb0
        simp (disch := omega) only [lit_0, lit_1, lit_2, lit_3, lit_4, lit_5, lit_6, lit_7, lit_8, lit_9, lit_10, lit_11, lit_12, lit_17, lit_20, lit_30, lit_31, lit_32, lit_47, lit_48, lit_60, lit_99, lit_100, lit_144, lit_200, lit_240, lit_300, lit_576, lit_960, lit_1008, lit_1000000, lit_100000000, true_implies, not_true_eq_false, false_implies, not_false_eq_true, true_and, and_true, neg_1, nI_add, pk_mul, nI_clamp, le_nI, lt_nI, eq_nI, vp_nI, nI_NN, NN_nI, NN_lt, NN_le, lt_NN, le_NN, d1, d2, d3, rN, r36]
        repeat' (first | refine Rn_and (by first | omega | assumption) ?_ | refine Rn_pos (by first | omega | assumption) ?_ | refine Rn_neg (by first | omega | assumption) ?_ | refine Rn_pos' (by first | omega | assumption) ?_ | refine Rn_neg' (by first | omega | assumption) ?_ | fail)
        exact rest
      · have e4 : nI (48 * f + b) - nI 1 = nI (48 * f + (b - 1)) := (pk_sub (by omega)).trans (congrArg nI (by omega))
        have r1 : (mM (fM1 σ f N) c s).1 46 0 (48 * f + (b - 1)) = σ.1 46 0 (48 * f + (b - 1)) := r46 _ (by omega)
        have r2 : ¬ σ.1 46 0 (48 * f + (b - 1)) = nI (200 + 12 * pp + p0) := by
          rw [← q4]
          exact q9.resolve_left hb0
        simp (disch := omega) only [lit_0, lit_1, lit_2, lit_3, lit_4, lit_5, lit_6, lit_7, lit_8, lit_9, lit_10, lit_11, lit_12, lit_17, lit_20, lit_30, lit_31, lit_32, lit_47, lit_48, lit_60, lit_99, lit_100, lit_144, lit_200, lit_240, lit_300, lit_576, lit_960, lit_1008, lit_1000000, lit_100000000, true_implies, not_true_eq_false, false_implies, not_false_eq_true, true_and, and_true, neg_1, nI_add, pk_mul, nI_clamp, le_nI, lt_nI, eq_nI, vp_nI, nI_NN, NN_nI, NN_lt, NN_le, lt_NN, le_NN, e4, r1, d1, d2, d3, rN, r36]
        repeat' (first | refine Rn_and (by first | omega | assumption) ?_ | refine Rn_pos (by first | omega | assumption) ?_ | refine Rn_neg (by first | omega | assumption) ?_ | refine Rn_pos' (by first | omega | assumption) ?_ | refine Rn_neg' (by first | omega | assumption) ?_ | fail)
        exact rest

