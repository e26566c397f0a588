variable {κ : Nat → Nat → Nat → Prop}
/-! ===== the class's planning of one anew ===== -/
def chL (c : Nat → Int32) (s : Nat → Nat → Int32) (lk : Nat → Int32) (may : Nat → Nat → Bool) (hm : Nat) (w : Nat → Nat → Nat) (A : Nat) (L : Nat → Int32) (t p : Nat) : Nat := (bWc (us w p) (tF c w L t p) (fun q => nI (2 + q)) A (v0P c s lk may hm L t p) (if may p t = true then nI 0 else nI 1)).toNatClampNeg
theorem chL_ok {c : Nat → Int32} {s : Nat → Nat → Int32} {lk : Nat → Int32} {may : Nat → Nat → Bool} {hm : Nat} {w : Nat → Nat → Nat} {A : Nat} {L : Nat → Int32} {t p : Nat} (hA : A ≤ 12) (hp : p < 12) : bWc (us w p) (tF c w L t p) (fun q => nI (2 + q)) A (v0P c s lk may hm L t p) (if may p t = true then nI 0 else nI 1) = nI (chL c s lk may hm w A L t p) ∧ bWc (us w p) (tF c w L t p) (fun q => nI (200 + 12 * p + q)) A (v0P c s lk may hm L t p) (c0X may p t) = nI (cdx p (chL c s lk may hm w A L t p)) ∧ (chL c s lk may hm w A L t p ≤ 1 ∨ ∃ q, q < A ∧ w p q ≠ 1000000 ∧ chL c s lk may hm w A L t p = 2 + q) := by
  obtain ⟨h, j1, j2, j3⟩ := bWc_rel (use := us w p) (T := tF c w L t p) (p := p) (h0 := if may p t = true then 0 else 1) (v := v0P c s lk may hm L t p) A
  have e0 : c0X may p t = nI (cdx p (if may p t = true then 0 else 1)) := by
    unfold c0X
    split <;> rfl
  have e1 : (if may p t = true then nI 0 else nI 1) = nI (if may p t = true then 0 else 1) := by split <;> rfl
  have hb : h < 2 ^ 31 := by
    rcases j3 with j3 | ⟨q, q1, q2, q3⟩
    · rw [j3]
      split <;> omega
    · omega
  have e2 : chL c s lk may hm w A L t p = h := by
    unfold chL
    rw [e1, j1, nI_clamp hb]
  rw [e2, e0, e1]
  refine ⟨j1, j2, ?_⟩
  rcases j3 with j3 | ⟨q, q1, q2, q3⟩
  · refine Or.inl ?_
    rw [j3]
    split <;> omega
  · exact Or.inr ⟨q, q1, by simpa [us] using q2, q3⟩
/-- how a going that began earlier ends (the class's words) -/
def FF (c : Nat → Int32) (N z : Nat) : Prop := ((N = 0 ∨ ∀ n, 200 ≤ n → n < 400 → c (N - 1) ≠ nI n) ∧ z = N) ∨ (0 < N ∧ (∃ n, 200 ≤ n ∧ n < 400 ∧ c (N - 1) = nI n) ∧ N ≤ z ∧ z ≤ 48 ∧ (∀ t, N ≤ t → t < z → c t = c (N - 1)) ∧ (z < 48 → c z ≠ c (N - 1)))
def fX1 (σ : Mem) (f N : Nat) : Mem := sK (wI σ 0 0 12 (σ.1 0 0 12 + nI 1)) 16 (fun i j => if i = 0 ∧ j < 576 ∧ N ≤ j % 48 ∧ σ.1 12 f (j % 48) = nI (j / 48) then σ.1 16 0 j + NN else σ.1 16 i j)
def fX5 (σ : Mem) (f N z p0 : Nat) (c : Nat → Int32) (s : Nat → Nat → Int32) (ow L C : Nat → Int32) (ch w : Nat → Nat → Nat) (T : Int32) : Mem := wI (sK (mS (mX (fX1 σ f N) c s) ow L C) 12 (fun i j => if i = f ∧ z ≤ j ∧ j < 48 then nI (pcF ch w z p0 j) else σ.1 12 i j)) 9 f 10 T
def fX6 (σ : Mem) (f N z p0 : Nat) (c : Nat → Int32) (s : Nat → Nat → Int32) (ow L C : Nat → Int32) (ch w : Nat → Nat → Nat) (T : Int32) : Mem := sK (fX5 σ f N z p0 c s ow L C ch w T) 16 (fun i j => if i = 0 ∧ j < 576 ∧ N ≤ j % 48 ∧ (if z ≤ j % 48 then nI (pcF ch w z p0 (j % 48)) else σ.1 12 f (j % 48)) = nI (j / 48) then (fX1 σ f N).1 16 0 j + nI 1 else (fX1 σ f N).1 16 i j)
theorem f_X7_replan {d f n G A N z p0 hm pb ab bb : Nat} {on : Bool} {pD aD bD pM aM bM aH bH : Nat → Nat} {vD vM wh lk : Nat → Int32} {may : Nat → Nat → Bool} {w : Nat → Nat → Nat} {c : Nat → Int32} {s : Nat → Nat → Int32} {σ : Mem} {P : Int32 → Mem → Prop} (hf : f < 20) (hA : A ≤ 12) (hN : N < 48) (hn : n ≤ 12) (hG : G ≤ 10) (hh : hm < 12) (xA : σ.1 1 0 5 = nI A) (xN : σ.1 0 0 14 = nI N) (xG : σ.1 0 0 10 = nI G)
  (hc : ∀ t, t < 48 → σ.1 12 f t = NN ∨ ∃ n, n < 400 ∧ σ.1 12 f t = nI n)
  (x6 : σ.1 9 f 6 = nI (4 * n)) (hd : ∀ k, k < n → σ.1 11 f (4 * k) = nI (pD k) ∧ σ.1 11 f (4 * k + 1) = nI (aD k) ∧ σ.1 11 f (4 * k + 2) = nI (bD k) ∧ σ.1 11 f (4 * k + 3) = vD k ∧ pD k < 12 ∧ aD k ≤ bD k ∧ bD k ≤ 48)
  (hb : (on = false ∧ σ.1 9 f 12 = nI 0) ∨ (on = true ∧ σ.1 9 f 12 = nI 1 ∧ σ.1 9 f 7 = nI pb ∧ σ.1 9 f 8 = nI ab ∧ σ.1 9 f 9 = nI bb ∧ pb < 12 ∧ ab ≤ bb ∧ bb ≤ 48))
  (hm' : ∀ g, g < G → σ.1 14 g 0 = wh g ∧ σ.1 14 g 1 = nI (pM g) ∧ σ.1 14 g 2 = nI (aM g) ∧ σ.1 14 g 3 = nI (bM g) ∧ σ.1 14 g 4 = vM g ∧ pM g < 12 ∧ aM g ≤ bM g ∧ bM g ≤ 48)
  (hcs : (∀ t, c t = (cS aD bD vD tt n t + bC on ab bb t) + cS aM bM vM (fun g => bt (wh g) f) G t) ∧ ∀ q t, s q t = (sS pD aD bD vD tt n q t + bS on pb ab bb q t) + sS pM aM bM vM (fun g => bt (wh g) f) G q t)
  (x10 : ∀ p, p < 12 → σ.1 10 f p = lk p) (x9 : σ.1 9 f 4 = nI hm)
  (hw : ∀ p q, p < 12 → q < 12 → 1 ≤ w p q ∧ (w p q ≤ 9 ∨ w p q = 1000000) ∧ σ.1 5 0 (12 * p + q) = if w p q = 1000000 then nI 0 else nI (w p q))
  (xH : ∀ p, p < A → aH p ≤ 48 ∧ bH p ≤ 48 ∧ σ.1 3 0 p = nI (aH p) ∧ σ.1 4 0 p = nI (bH p))
  (hmay : ∀ p t, p < A → t < 48 → ((may p t = true) ↔ ((aH p ≤ t ∧ t < bH p) ∨ bt (σ.1 9 f 5) p = true) ∧ bt (σ.1 0 0 13) p = false ∧ ((fX1 σ f N).1 16 0 (48 * p + t)).toInt < (σ.1 2 0 p).toInt))
  (hrow : ∀ p, p < 12 → σ.1 21 0 (576 + p) = nI 0)
  (hz : ∀ z', FF (fun t => σ.1 12 f t) N z' → z' = z) (hNz : N ≤ z) (hz48 : z ≤ 48) (hp0 : p0 < A)
  (hst : (z = 0 ∧ p0 = hm) ∨ (0 < z ∧ ∃ m, σ.1 12 f (z - 1) = nI m ∧ ((m < 12 ∧ p0 = m) ∨ (100 ≤ m ∧ m < 112 ∧ p0 = m - 100) ∨ (200 ≤ m ∧ m < 400 ∧ p0 = (m - 200) % 12))))
  (hP : ∀ ow L C, (∀ t p, z ≤ t → t < 48 → p < A → PXp c s lk may hm w A (fun p q => nI (200 + 12 * p + q)) (c0X may) L C t p) → (∀ p, p < 12 → L (576 + p) = nI 0) → P (wcF c N (z - N) + (if z < 48 then L (12 * z + p0) else nI 0)) (fX6 σ f N z p0 c s ow L C (chL c s lk may hm w A L) w (wcF c N (z - N) + (if z < 48 then L (12 * z + p0) else nI 0)))) : Rn (fun K => CalI IX (d + 4) S_X7_replan [ar 0 0, ai (nI f)] σ K) P := by
  refine Rn_map (fun K => x_X7_replan) ?_
  simp (disch := omega) only [lit_0, lit_1, lit_2, lit_3, lit_4, lit_5, lit_6, lit_7, lit_8, lit_9, lit_10, lit_11, lit_12, lit_17, lit_20, lit_30, lit_31, lit_32, lit_47, lit_48, lit_60, lit_99, lit_100, lit_144, lit_200, lit_240, lit_300, lit_576, lit_960, lit_1008, lit_1000000, lit_100000000, true_implies, not_true_eq_false, false_implies, not_false_eq_true, true_and, and_true, neg_1, nI_add, pk_mul, nI_clamp, le_nI, lt_nI, eq_nI, vp_nI, nI_NN, NN_nI, NN_lt, NN_le, lt_NN, le_NN, xN]
  repeat' (first | refine Rn_and (by first | omega | assumption) ?_ | refine Rn_pos (by first | omega | assumption) ?_ | refine Rn_neg (by first | omega | assumption) ?_ | refine Rn_pos' (by first | omega | assumption) ?_ | refine Rn_neg' (by first | omega | assumption) ?_ | fail)
  refine Rn_cV (Rv_mono (f_X4_add (σ := wI σ 0 0 12 (σ.1 0 0 12 + nI 1)) (by omega) hc) ?_)
  rintro s1 hs1
  have e1 : s1 = fX1 σ f N := hs1
  rw [e1]
  have k1 : ∀ k i j, k ≠ 0 → k ≠ 16 → (fX1 σ f N).1 k i j = σ.1 k i j := by
    intro k i j h h'
    rw [fX1, sK_r, if_neg h', wI_r, if_neg (fun z => h z.1)]
  have k0 : ∀ j, j ≠ 12 → (fX1 σ f N).1 0 0 j = σ.1 0 0 j := by
    intro j h
    rw [fX1, sK_r, if_neg (by omega), wI_r, if_neg (fun z => h z.2.2)]
  refine Rn_cV (f_X2_weigh (n := n) (pb := pb) (ab := ab) (bb := bb) (on := on) (pD := pD) (aD := aD) (bD := bD) (vD := vD) hn (by rw [k1 _ _ _ (by omega) (by omega)]; exact x6) (fun k hk => by rw [k1 _ _ _ (by omega) (by omega), k1 _ _ _ (by omega) (by omega), k1 _ _ _ (by omega) (by omega), k1 _ _ _ (by omega) (by omega)]; exact hd k hk) (by rw [k1 _ _ _ (by omega) (by omega), k1 _ _ _ (by omega) (by omega), k1 _ _ _ (by omega) (by omega), k1 _ _ _ (by omega) (by omega)]; exact hb) ?_)
  refine Rn_KQ ?_
  refine loopU (i := 0) (C := fun i z' Q => J IX M_X7_replan (d + 4) 42 [(0, ar 0 0), (1, ai (nI f)), (2, ar 9 f), (3, ai (nI i))] [] z' Q) (Inv := fun m z' => z' = mX (fX1 σ f N) (fun t => (cS aD bD vD tt n t + bC on ab bb t) + cS aM bM vM (fun g => bt (wh g) f) m t) (fun q t => (sS pD aD bD vD tt n q t + bS on pb ab bb q t) + sS pM aM bM vM (fun g => bt (wh g) f) m q t)) (n := G) ?_ ?_ (by omega) ?_
  · rintro g z' hg hz' ih
    obtain ⟨d0, d1, d2, d3, d4, d5, d6, d7⟩ := hm' g hg
    have kk : ∀ k i j, k ≠ 0 → k ≠ 16 → k ≠ 18 → k ≠ 19 → z'.1 k i j = σ.1 k i j := by
      intro k i j h1 h2 h3 h4
      rw [hz', mX_o ⟨h3, h4⟩, k1 _ _ _ h1 h2]
    have rG : z'.1 0 0 10 = nI G := by rw [hz', mX_o ⟨by omega, by omega⟩, k0 _ (by omega)]; exact xG
    have r0 : z'.1 14 g 0 = wh g := (kk _ _ _ (by omega) (by omega) (by omega) (by omega)).trans d0
    have r1 : z'.1 14 g 1 = nI (pM g) := (kk _ _ _ (by omega) (by omega) (by omega) (by omega)).trans d1
    have r2 : z'.1 14 g 2 = nI (aM g) := (kk _ _ _ (by omega) (by omega) (by omega) (by omega)).trans d2
    have r3 : z'.1 14 g 3 = nI (bM g) := (kk _ _ _ (by omega) (by omega) (by omega) (by omega)).trans d3
    have r4 : z'.1 14 g 4 = vM g := (kk _ _ _ (by omega) (by omega) (by omega) (by omega)).trans d4
    refine Rn_map (fun Q => x_X7_replan_42) ?_
    simp (disch := omega) only [lit_0, lit_1, lit_2, lit_3, lit_4, lit_5, lit_6, lit_7, lit_8, lit_9, lit_10, lit_11, lit_12, lit_17, lit_20, lit_30, lit_31, lit_32, lit_47, lit_48, lit_60, lit_99, lit_100, lit_144, lit_200, lit_240, lit_300, lit_576, lit_960, lit_1008, lit_1000000, lit_100000000, true_implies, not_true_eq_false, false_implies, not_false_eq_true, true_and, and_true, neg_1, nI_add, pk_mul, nI_clamp, le_nI, lt_nI, eq_nI, vp_nI, nI_NN, NN_nI, NN_lt, NN_le, lt_NN, le_NN, rG, r0, r1, r2, r3, r4, bz_u]
    repeat' (first | refine Rn_and (by first | omega | assumption) ?_ | refine Rn_pos (by first | omega | assumption) ?_ | refine Rn_neg (by first | omega | assumption) ?_ | refine Rn_pos' (by first | omega | assumption) ?_ | refine Rn_neg' (by first | omega | assumption) ?_ | fail)
    refine Rn_if (fun h => ?_) (fun h => ?_)
    · refine ih _ ?_
      rw [hz']
      congr 1
      · funext t
        rw [cS_off (on := fun g => bt (wh g) f) (k := g) h]
      · funext q t
        rw [sS_off (on := fun g => bt (wh g) f) (k := g) h]
    · have h' : bt (wh g) f = true := by simpa using h
      repeat' (first | refine Rn_and (by first | omega | assumption) ?_ | refine Rn_pos (by first | omega | assumption) ?_ | refine Rn_neg (by first | omega | assumption) ?_ | refine Rn_pos' (by first | omega | assumption) ?_ | refine Rn_neg' (by first | omega | assumption) ?_ | fail)
      rw [hz']
      refine Rn_cV (f_clX d5 d6 d7 ?_)
      refine ih _ ?_
      congr 1
      · funext t
        simp only [clm, cS, h', true_and, Int32.add_assoc]
      · funext q t
        simp only [spm, sS, h', true_and, Int32.add_assoc]
  · rintro z' hz'
    have hz2 : z' = mX (fX1 σ f N) c s := by
      rw [hz']
      congr 1
      · funext t
        exact (hcs.1 t).symm
      · funext q t
        exact (hcs.2 q t).symm
    have kk : ∀ k i j, k ≠ 0 → k ≠ 16 → k ≠ 18 → k ≠ 19 → z'.1 k i j = σ.1 k i j := by
      intro k i j h1 h2 h3 h4
      rw [hz2, mX_o ⟨h3, h4⟩, k1 _ _ _ h1 h2]
    have kk0 : ∀ j, j ≠ 12 → z'.1 0 0 j = σ.1 0 0 j := by
      intro j h
      rw [hz2, mX_o ⟨by omega, by omega⟩, k0 _ h]
    have rG : z'.1 0 0 10 = nI G := (kk0 _ (by omega)).trans xG
    have rN : z'.1 0 0 14 = nI N := (kk0 _ (by omega)).trans xN
    have r12 : ∀ t, z'.1 12 f t = σ.1 12 f t := fun t => kk _ _ _ (by omega) (by omega) (by omega) (by omega)
    have r9 : z'.1 9 f 4 = nI hm := (kk _ _ _ (by omega) (by omega) (by omega) (by omega)).trans x9
    refine Rn_map (fun Q => x_X7_replan_42) ?_
    simp (disch := omega) only [lit_0, lit_1, lit_2, lit_3, lit_4, lit_5, lit_6, lit_7, lit_8, lit_9, lit_10, lit_11, lit_12, lit_17, lit_20, lit_30, lit_31, lit_32, lit_47, lit_48, lit_60, lit_99, lit_100, lit_144, lit_200, lit_240, lit_300, lit_576, lit_960, lit_1008, lit_1000000, lit_100000000, true_implies, not_true_eq_false, false_implies, not_false_eq_true, true_and, and_true, neg_1, nI_add, pk_mul, nI_clamp, le_nI, lt_nI, eq_nI, vp_nI, nI_NN, NN_nI, NN_lt, NN_le, lt_NN, le_NN, rG, rN]
    repeat' (first | refine Rn_and (by first | omega | assumption) ?_ | refine Rn_pos (by first | omega | assumption) ?_ | refine Rn_neg (by first | omega | assumption) ?_ | refine Rn_pos' (by first | omega | assumption) ?_ | refine Rn_neg' (by first | omega | assumption) ?_ | fail)
    refine Rn_cI (f_X3_freeFrom hN (fun t ht => by rw [r12]; exact hc t ht) (fun z1 hz1 => ?_))
    have ez : z1 = z := hz z1 (by simpa only [FF, r12] using hz1)
    subst ez
    have stand : ∀ {α : Type} {T : Int32 → Mem → (α → Mem → Prop) → Prop} {PP : α → Mem → Prop}, Rn (T (nI p0) z') PP → Rn (fun K => CalI IX (d + 3) S_X3_standsAt [ar 9 f, ai (nI z1)] z' (fun r s => T r s K)) PP := by
      intro α T PP hT
      refine Rn_cI (Rn_map (fun K => x_X3_standsAt) ?_)
      rcases hst with ⟨h1, h2⟩ | ⟨h1, m, h2, h3⟩
      · simp (disch := omega) only [lit_0, lit_1, lit_2, lit_3, lit_4, lit_5, lit_6, lit_7, lit_8, lit_9, lit_10, lit_11, lit_12, lit_17, lit_20, lit_30, lit_31, lit_32, lit_47, lit_48, lit_60, lit_99, lit_100, lit_144, lit_200, lit_240, lit_300, lit_576, lit_960, lit_1008, lit_1000000, lit_100000000, true_implies, not_true_eq_false, false_implies, not_false_eq_true, true_and, and_true, neg_1, nI_add, pk_mul, nI_clamp, le_nI, lt_nI, eq_nI, vp_nI, nI_NN, NN_nI, NN_lt, NN_le, lt_NN, le_NN, r9]
        repeat' (first | refine Rn_and (by first | omega | assumption) ?_ | refine Rn_pos (by first | omega | assumption) ?_ | refine Rn_neg (by first | omega | assumption) ?_ | refine Rn_pos' (by first | omega | assumption) ?_ | refine Rn_neg' (by first | omega | assumption) ?_ | fail)
        rw [← h2]
        exact Rn_ret hT
      · have e1 : nI z1 - nI 1 = nI (z1 - 1) := pk_sub (by omega)
        have hm4 : m < 400 := by omega
        rcases h3 with ⟨j1, j2⟩ | ⟨j1, j2, j3⟩ | ⟨j1, j2, j3⟩
        · subst j2
          simp (disch := omega) only [lit_0, lit_1, lit_2, lit_3, lit_4, lit_5, lit_6, lit_7, lit_8, lit_9, lit_10, lit_11, lit_12, lit_17, lit_20, lit_30, lit_31, lit_32, lit_47, lit_48, lit_60, lit_99, lit_100, lit_144, lit_200, lit_240, lit_300, lit_576, lit_960, lit_1008, lit_1000000, lit_100000000, true_implies, not_true_eq_false, false_implies, not_false_eq_true, true_and, and_true, neg_1, nI_add, pk_mul, nI_clamp, le_nI, lt_nI, eq_nI, vp_nI, nI_NN, NN_nI, NN_lt, NN_le, lt_NN, le_NN, e1, r12, h2]
          repeat' (first | refine Rn_and (by first | omega | assumption) ?_ | refine Rn_pos (by first | omega | assumption) ?_ | refine Rn_neg (by first | omega | assumption) ?_ | refine Rn_pos' (by first | omega | assumption) ?_ | refine Rn_neg' (by first | omega | assumption) ?_ | fail)
          exact Rn_ret hT
        · have e2 : nI m - nI 100 = nI p0 := (pk_sub (by omega)).trans (congrArg nI (by omega))
          simp (disch := omega) only [lit_0, lit_1, lit_2, lit_3, lit_4, lit_5, lit_6, lit_7, lit_8, lit_9, lit_10, lit_11, lit_12, lit_17, lit_20, lit_30, lit_31, lit_32, lit_47, lit_48, lit_60, lit_99, lit_100, lit_144, lit_200, lit_240, lit_300, lit_576, lit_960, lit_1008, lit_1000000, lit_100000000, true_implies, not_true_eq_false, false_implies, not_false_eq_true, true_and, and_true, neg_1, nI_add, pk_mul, nI_clamp, le_nI, lt_nI, eq_nI, vp_nI, nI_NN, NN_nI, NN_lt, NN_le, lt_NN, le_NN, e1, r12, h2, e2]
          repeat' (first | refine Rn_and (by first | omega | assumption) ?_ | refine Rn_pos (by first | omega | assumption) ?_ | refine Rn_neg (by first | omega | assumption) ?_ | refine Rn_pos' (by first | omega | assumption) ?_ | refine Rn_neg' (by first | omega | assumption) ?_ | fail)
          exact Rn_ret hT
        · have d1 : nI m - nI 200 = nI (m - 200) := pk_sub (by omega)
          have d2 : nI (m - 200) / nI 12 = nI ((m - 200) / 12) := pk_div (by omega) (by omega) (by omega)
          have d3 : nI (m - 200) - nI ((m - 200) / 12 * 12) = nI p0 := (pk_sub (by omega)).trans (congrArg nI (by omega))
          simp (disch := omega) only [lit_0, lit_1, lit_2, lit_3, lit_4, lit_5, lit_6, lit_7, lit_8, lit_9, lit_10, lit_11, lit_12, lit_17, lit_20, lit_30, lit_31, lit_32, lit_47, lit_48, lit_60, lit_99, lit_100, lit_144, lit_200, lit_240, lit_300, lit_576, lit_960, lit_1008, lit_1000000, lit_100000000, true_implies, not_true_eq_false, false_implies, not_false_eq_true, true_and, and_true, neg_1, nI_add, pk_mul, nI_clamp, le_nI, lt_nI, eq_nI, vp_nI, nI_NN, NN_nI, NN_lt, NN_le, lt_NN, le_NN, e1, r12, h2, d1, d2, d3]
          repeat' (first | refine Rn_and (by first | omega | assumption) ?_ | refine Rn_pos (by first | omega | assumption) ?_ | refine Rn_neg (by first | omega | assumption) ?_ | refine Rn_pos' (by first | omega | assumption) ?_ | refine Rn_neg' (by first | omega | assumption) ?_ | fail)
          exact Rn_ret hT
    refine stand ?_
    have r13 : z'.1 0 0 13 = σ.1 0 0 13 := kk0 _ (by omega)
    rw [r13, hz2]
    have mx18 : ∀ t, t < 48 → (mX (fX1 σ f N) c s).1 18 0 t = c t := fun t ht => mX_18 ht
    have mk : ∀ k i j, k ≠ 0 → k ≠ 16 → k ≠ 18 → k ≠ 19 → (mX (fX1 σ f N) c s).1 k i j = σ.1 k i j := fun k i j h1 h2 h3 h4 => (mX_o ⟨h3, h4⟩).trans (k1 _ _ _ h1 h2)
    refine Rn_cV (f_X2_search (hm := hm) (c := c) (s := s) (lk := lk) (may := may) (w := w) (aH := aH) (bH := bH) hA hz48 ((mk _ _ _ (by omega) (by omega) (by omega) (by omega)).trans xA) hh mx18 (fun p t hp ht => mX_19 hp ht) (fun p hp => (mk _ _ _ (by omega) (by omega) (by omega) (by omega)).trans (x10 p hp)) ((mk _ _ _ (by omega) (by omega) (by omega) (by omega)).trans x9) (fun p q hp hq => by rw [mk _ _ _ (by omega) (by omega) (by omega) (by omega)]; exact hw p q hp hq) (fun p hp => by rw [mk _ _ _ (by omega) (by omega) (by omega) (by omega), mk _ _ _ (by omega) (by omega) (by omega) (by omega)]; exact xH p hp) (fun p t hp ht => by rw [mk 9 _ _ (by omega) (by omega) (by omega) (by omega), mk 2 _ _ (by omega) (by omega) (by omega) (by omega), mX_o (k := 16) ⟨by omega, by omega⟩]; exact hmay p t hp ht) (fun p hp => (mk _ _ _ (by omega) (by omega) (by omega) (by omega)).trans (hrow p hp)) (fun ow L C how hall hr => ?_))
    have hT := hP ow L C hall hr
    have nk : ∀ k i j, k ≠ 0 → k ≠ 16 → k ≠ 18 → k ≠ 19 → k ≠ 20 → k ≠ 21 → k ≠ 22 → (mS (mX (fX1 σ f N) c s) ow L C).1 k i j = σ.1 k i j := fun k i j h1 h2 h3 h4 h5 h6 h7 => (mS_o ⟨h5, h6, h7⟩).trans (mk _ _ _ h1 h2 h3 h4)
    have nN : (mS (mX (fX1 σ f N) c s) ow L C).1 0 0 14 = nI N := (mS_o ⟨by omega, by omega, by omega⟩).trans ((mX_o ⟨by omega, by omega⟩).trans ((k0 _ (by omega)).trans xN))
    obtain ⟨T, hTd⟩ : ∃ T, T = wcF c N (z1 - N) + (if z1 < 48 then L (12 * z1 + p0) else nI 0) := ⟨_, rfl⟩
    rw [← hTd] at hT
    have hch : ChOk (chL c s lk may hm w A L) w A z1 := by
      intro t p h1 h2 h3
      rcases (chL_ok (c := c) (s := s) (lk := lk) (may := may) (hm := hm) (w := w) (L := L) (t := t) hA (by omega : p < 12)).2.2 with h | ⟨q, q1, q2, q3⟩
      · exact Or.inl h
      · have := hw p q (by omega) (by omega)
        exact Or.inr ⟨q, q1, by omega, this.1, q3⟩
    have wr : Rn (fun K => J IX M_X2_write (d + 3) 48 [(0, ar 17 0), (1, ar 9 f), (2, ar 1 0), (6, ai T), (7, ai (nI p0)), (8, ai NN), (9, ai (nI z1)), (10, ai (nI z1))] [] (mS (mX (fX1 σ f N) c s) ow L C) (KQ K)) (fun r s' => Rn (fun Q => CalV IX (d + 2) S_X4_add [ar 15 0, ar 12 f, ai (s'.1 0 0 14), ai (nI 1)] (wI s' 9 f 10 r) (fun s'' => Q (some (ai (s''.1 9 f 10))) s'')) (fun v s' => ∃ x, v = some (ai x) ∧ P x s')) := by
      refine f_X2_write_48 hA hz48 hp0 hch (fun t p h1 h2 h3 => ?_) (fun p q hp hq hpq => ?_) ?_
      · rw [mS_22, (hall t p h1 h2 h3).2]
        exact (chL_ok hA (by omega)).2.1
      · rw [nk _ _ _ (by omega) (by omega) (by omega) (by omega) (by omega) (by omega) (by omega), (hw p q (by omega) (by omega)).2.2, if_neg (by omega)]
      · have e5 : sK (mS (mX (fX1 σ f N) c s) ow L C) 12 (fun i j => if i = f ∧ z1 ≤ j ∧ j < 48 then nI (pcF (chL c s lk may hm w A L) w z1 p0 j) else (mS (mX (fX1 σ f N) c s) ow L C).1 12 i j) = sK (mS (mX (fX1 σ f N) c s) ow L C) 12 (fun i j => if i = f ∧ z1 ≤ j ∧ j < 48 then nI (pcF (chL c s lk may hm w A L) w z1 p0 j) else σ.1 12 i j) := by
          congr 1
        rw [e5]
        have eN : (sK (mS (mX (fX1 σ f N) c s) ow L C) 12 (fun i j => if i = f ∧ z1 ≤ j ∧ j < 48 then nI (pcF (chL c s lk may hm w A L) w z1 p0 j) else σ.1 12 i j)).1 0 0 14 = nI N := nN
        rw [eN]
        have c5 : ∀ t, t < 48 → (fX5 σ f N z1 p0 c s ow L C (chL c s lk may hm w A L) w T).1 12 f t = if z1 ≤ t then nI (pcF (chL c s lk may hm w A L) w z1 p0 t) else σ.1 12 f t := by
          intro t ht
          rw [fX5, wI_r, if_neg (by omega), sK_r, if_pos rfl]
          by_cases h : z1 ≤ t
          · rw [if_pos ⟨rfl, h, ht⟩, if_pos h]
          · rw [if_neg (by omega), if_neg h]
        have pcb : ∀ t, z1 ≤ t → t < 48 → pcF (chL c s lk may hm w A L) w z1 p0 t < 400 := by
          intro t h1 h2
          obtain ⟨b, x1, x2, x3⟩ := wk_seg hch hp0 (t - z1) (by omega)
          obtain ⟨y1, y2, y3⟩ := wk_inv hch hp0 b (by omega)
          rcases x3 with ⟨z3, z4⟩ | ⟨q, w1, w2, w3, w4, w5⟩
          · subst z4
            have := pc_at hch x2
            rw [show z1 + (t - z1) = t by omega] at this
            rw [this]
            unfold cdx
            split
            · omega
            · rw [if_pos (by rw [show z1 + (t - z1) = t by omega] at z3; omega)]; omega
          · have := wk_pcs hch x2 w4 (t - z1 - b) (by omega) (by omega)
            rw [show z1 + b + (t - z1 - b) = t by omega] at this
            rw [this]
            omega
        refine Rn_cV (Rv_mono (f_X4_add (σ := fX5 σ f N z1 p0 c s ow L C (chL c s lk may hm w A L) w T) (by omega) (fun t ht => ?_)) ?_)
        · rw [c5 t ht]
          split
          · exact Or.inr ⟨_, pcb t (by assumption) ht, rfl⟩
          · exact hc t ht
        · rintro s6 hs6
          have k16 : ∀ i j, (fX5 σ f N z1 p0 c s ow L C (chL c s lk may hm w A L) w T).1 16 i j = (fX1 σ f N).1 16 i j := by
            intro i j
            rw [fX5, wI_r, if_neg (by omega), sK_r, if_neg (by omega), mS_o ⟨by omega, by omega, by omega⟩, mX_o ⟨by omega, by omega⟩]
          have e6 : s6 = fX6 σ f N z1 p0 c s ow L C (chL c s lk may hm w A L) w T := by
            rw [hs6, fX6]
            congr 1
            funext i j
            rw [k16, k16]
            by_cases h : i = 0 ∧ j < 576 ∧ N ≤ j % 48
            · rw [c5 (j % 48) (by omega)]
            · rw [if_neg (fun z => h ⟨z.1, z.2.1, z.2.2.1⟩), if_neg (fun z => h ⟨z.1, z.2.1, z.2.2.1⟩)]
          have e9 : s6.1 9 f 10 = T := by
            rw [e6, fX6, sK_r, if_neg (by omega), fX5, wI_r, if_pos ⟨rfl, rfl, rfl⟩]
          rw [e9, e6]
          exact Rn_ret ⟨T, rfl, hT⟩
    refine Rn_cI ?_
    refine Rn_map (fun K => x_X2_write) ?_
    rw [nN]
    have o1 := owW how N
    by_cases hzN : z1 ≤ N
    · have ezN : z1 = N := by omega
      have eT : L (12 * z1 + p0) = T := by
        rw [hTd, if_pos (by omega), show z1 - N = 0 by omega]
        show _ = nI 0 + _
        rw [nI0_add]
      simp (disch := omega) only [lit_0, lit_1, lit_2, lit_3, lit_4, lit_5, lit_6, lit_7, lit_8, lit_9, lit_10, lit_11, lit_12, lit_17, lit_20, lit_30, lit_31, lit_32, lit_47, lit_48, lit_60, lit_99, lit_100, lit_144, lit_200, lit_240, lit_300, lit_576, lit_960, lit_1008, lit_1000000, lit_100000000, true_implies, not_true_eq_false, false_implies, not_false_eq_true, true_and, and_true, neg_1, nI_add, pk_mul, nI_clamp, le_nI, lt_nI, eq_nI, vp_nI, nI_NN, NN_nI, NN_lt, NN_le, lt_NN, le_NN, m12, mS_21, eT]
      repeat' (first | refine Rn_and (by first | omega | assumption) ?_ | refine Rn_pos (by first | omega | assumption) ?_ | refine Rn_neg (by first | omega | assumption) ?_ | refine Rn_pos' (by first | omega | assumption) ?_ | refine Rn_neg' (by first | omega | assumption) ?_ | fail)
      exact wr
    · by_cases h48 : z1 < 48
      · have eT : ow z1 - ow N + L (12 * z1 + p0) = T := by
          rw [hTd, if_pos h48, o1 (z1 - N) (by omega), if_neg (by omega), add_nI0, show N + (z1 - N) = z1 by omega]
        simp (disch := omega) only [lit_0, lit_1, lit_2, lit_3, lit_4, lit_5, lit_6, lit_7, lit_8, lit_9, lit_10, lit_11, lit_12, lit_17, lit_20, lit_30, lit_31, lit_32, lit_47, lit_48, lit_60, lit_99, lit_100, lit_144, lit_200, lit_240, lit_300, lit_576, lit_960, lit_1008, lit_1000000, lit_100000000, true_implies, not_true_eq_false, false_implies, not_false_eq_true, true_and, and_true, neg_1, nI_add, pk_mul, nI_clamp, le_nI, lt_nI, eq_nI, vp_nI, nI_NN, NN_nI, NN_lt, NN_le, lt_NN, le_NN]
        repeat' (first | refine Rn_and (by first | omega | assumption) ?_ | refine Rn_pos (by first | omega | assumption) ?_ | refine Rn_neg (by first | omega | assumption) ?_ | refine Rn_pos' (by first | omega | assumption) ?_ | refine Rn_neg' (by first | omega | assumption) ?_ | fail)
        refine Rn_cI (Rn_map (fun K => x_X2_costOfWay) ?_)
        simp (disch := omega) only [lit_0, lit_1, lit_2, lit_3, lit_4, lit_5, lit_6, lit_7, lit_8, lit_9, lit_10, lit_11, lit_12, lit_17, lit_20, lit_30, lit_31, lit_32, lit_47, lit_48, lit_60, lit_99, lit_100, lit_144, lit_200, lit_240, lit_300, lit_576, lit_960, lit_1008, lit_1000000, lit_100000000, true_implies, not_true_eq_false, false_implies, not_false_eq_true, true_and, and_true, neg_1, nI_add, pk_mul, nI_clamp, le_nI, lt_nI, eq_nI, vp_nI, nI_NN, NN_nI, NN_lt, NN_le, lt_NN, le_NN, m12, mS_20, mS_21, eT]
        repeat' (first | refine Rn_and (by first | omega | assumption) ?_ | refine Rn_pos (by first | omega | assumption) ?_ | refine Rn_neg (by first | omega | assumption) ?_ | refine Rn_pos' (by first | omega | assumption) ?_ | refine Rn_neg' (by first | omega | assumption) ?_ | fail)
        exact Rn_ret wr
      · have eT : ow 48 - ow N + nI 300 = T := by
          rw [hTd, if_neg h48, o1 (z1 - N) (by omega), if_pos (by omega), add_nI0, show N + (z1 - N) = 48 by omega]
        simp (disch := omega) only [lit_0, lit_1, lit_2, lit_3, lit_4, lit_5, lit_6, lit_7, lit_8, lit_9, lit_10, lit_11, lit_12, lit_17, lit_20, lit_30, lit_31, lit_32, lit_47, lit_48, lit_60, lit_99, lit_100, lit_144, lit_200, lit_240, lit_300, lit_576, lit_960, lit_1008, lit_1000000, lit_100000000, true_implies, not_true_eq_false, false_implies, not_false_eq_true, true_and, and_true, neg_1, nI_add, pk_mul, nI_clamp, le_nI, lt_nI, eq_nI, vp_nI, nI_NN, NN_nI, NN_lt, NN_le, lt_NN, le_NN]
        repeat' (first | refine Rn_and (by first | omega | assumption) ?_ | refine Rn_pos (by first | omega | assumption) ?_ | refine Rn_neg (by first | omega | assumption) ?_ | refine Rn_pos' (by first | omega | assumption) ?_ | refine Rn_neg' (by first | omega | assumption) ?_ | fail)
        refine Rn_cI (Rn_map (fun K => x_X2_costOfWay) ?_)
        simp (disch := omega) only [lit_0, lit_1, lit_2, lit_3, lit_4, lit_5, lit_6, lit_7, lit_8, lit_9, lit_10, lit_11, lit_12, lit_17, lit_20, lit_30, lit_31, lit_32, lit_47, lit_48, lit_60, lit_99, lit_100, lit_144, lit_200, lit_240, lit_300, lit_576, lit_960, lit_1008, lit_1000000, lit_100000000, true_implies, not_true_eq_false, false_implies, not_false_eq_true, true_and, and_true, neg_1, nI_add, pk_mul, nI_clamp, le_nI, lt_nI, eq_nI, vp_nI, nI_NN, NN_nI, NN_lt, NN_le, lt_NN, le_NN, m12, mS_20, mS_21, eT]
        repeat' (first | refine Rn_and (by first | omega | assumption) ?_ | refine Rn_pos (by first | omega | assumption) ?_ | refine Rn_neg (by first | omega | assumption) ?_ | refine Rn_pos' (by first | omega | assumption) ?_ | refine Rn_neg' (by first | omega | assumption) ?_ | fail)
        exact Rn_ret wr
  · congr 1
    · funext t
      simp only [cS, add_nI0]
    · funext q t
      simp only [sS, add_nI0]

