theorem R_replan {S : Nat → Prop} {σx σm : Mem} {P W F G C N D B : Nat} {w l : Nat → Nat → Nat} {dx dm f : Nat} (R : RelW S σx σm P W F G C N D B w l) (hf : f < F) (hB1 : B = 1) (hg : σm.1 43 0 f = nI 0) (hS : N = 0 ∨ S f) : Rn (fun K => CalI IX (dx + 4) S_X7_replan [ar 0 0, ai (nI f)] σx K) (fun r sx => Rn (fun K => CalI IM (dm + 4) S_X8_planned [ar 30 0, ai (nI f)] σm K) (fun r' sm => r = r' ∧ RelW (fun u => S u ∨ u = f) sx sm P W F G C N D B w l)) := by
  obtain ⟨gSc, gRef, gHrs, gLck, gWay, gFar, gDist, gShl, gCell, gHome, gKeys, gLike, gDuty, gGone, gBent, gPlan, gCost, gSeat, gMeet, gTly, gKnow, gFlt, gRow, gPl1, gWel⟩ := R
  have hSc0 := gSc
  obtain ⟨⟨xP, mP, hP⟩, ⟨xW, mW, hW⟩, ⟨xF, mF, hF⟩, ⟨xG, mG, hG⟩, ⟨xC, mC, hC⟩, ⟨xN, mN, hN⟩, ⟨xD, mD, hD⟩, ⟨xB, mB, hB⟩, hpl, hb0⟩ := hSc0
  have hf20 : f < 20 := by omega
  -- the ways
  have hwX : ∀ p q, p < 12 → q < 12 → 1 ≤ w p q ∧ (w p q ≤ 9 ∨ w p q = 1000000) ∧ σx.1 5 0 (12 * p + q) = if w p q = 1000000 then nI 0 else nI (w p q) := by
    intro p q hp hq
    obtain ⟨i1, i2, i3, i4⟩ := gWay p q hp hq
    exact ⟨by omega, by omega, i2⟩
  have hwM : ∀ p q, p < 12 → q < 12 → 1 ≤ w p q ∧ (w p q ≤ 9 ∨ w p q = 1000000) ∧ σm.1 36 0 (12 * p + q) = nI (w p q) := by
    intro p q hp hq
    obtain ⟨i1, i2, i3, i4⟩ := gWay p q hp hq
    exact ⟨by omega, by omega, i1⟩
  have hwd : ∀ a, a < 12 → 9 < w a a := by
    intro a ha
    obtain ⟨i1, i2, i3, i4⟩ := gWay a a ha ha
    rcases i3 with h | h <;> omega
  -- the claims' items
  obtain ⟨n, hn, x6, m41, h11, hit⟩ := gDuty f hf20
  obtain ⟨pD, hpD⟩ : ∃ pD : Nat → Nat, pD = fun k => (σm.1 42 0 (48 * f + 4 * k)).toNatClampNeg := ⟨_, rfl⟩
  obtain ⟨aD, haD⟩ : ∃ aD : Nat → Nat, aD = fun k => (σm.1 42 0 (48 * f + 4 * k + 1)).toNatClampNeg := ⟨_, rfl⟩
  obtain ⟨bD, hbD⟩ : ∃ bD : Nat → Nat, bD = fun k => (σm.1 42 0 (48 * f + 4 * k + 2)).toNatClampNeg := ⟨_, rfl⟩
  obtain ⟨vD, hvD⟩ : ∃ vD : Nat → Int32, vD = fun k => σm.1 42 0 (48 * f + 4 * k + 3) := ⟨_, rfl⟩
  have hdM : ∀ k, k < n → (σm.1 42 0 (48 * f + 4 * k) = nI (pD k) ∧ σm.1 42 0 (48 * f + 4 * k + 1) = nI (aD k) ∧ σm.1 42 0 (48 * f + 4 * k + 2) = nI (bD k) ∧ σm.1 42 0 (48 * f + 4 * k + 3) = vD k ∧ pD k < 12 ∧ aD k ≤ bD k ∧ bD k ≤ 48) ∧ ∃ m, m ≤ 100 ∧ vD k = nI m := by
    intro k hk
    obtain ⟨p, a, b, v, i1, i2, i3, i4, i5, i6, i7, i8, i9⟩ := hit k hk
    rw [hpD, haD, hbD, hvD]
    simp only [i6, i7, i8, i9, nI_clamp (show p < 2 ^ 31 by omega), nI_clamp (show a < 2 ^ 31 by omega), nI_clamp (show b < 2 ^ 31 by omega)]
    exact ⟨⟨trivial, trivial, trivial, trivial, by omega, by omega, i3⟩, v, i5, rfl⟩
  have hdX : ∀ k, k < n → σx.1 11 f (4 * k) = nI (pD k) ∧ σx.1 11 f (4 * k + 1) = nI (aD k) ∧ σx.1 11 f (4 * k + 2) = nI (bD k) ∧ σx.1 11 f (4 * k + 3) = vD k ∧ pD k < 12 ∧ aD k ≤ bD k ∧ bD k ≤ 48 := by
    intro k hk
    obtain ⟨⟨j1, j2, j3, j4, j5, j6, j7⟩, _⟩ := hdM k hk
    exact ⟨(h11 _ (by omega)).trans j1, (h11 _ (by omega)).trans j2, (h11 _ (by omega)).trans j3, (h11 _ (by omega)).trans j4, j5, j6, j7⟩
  obtain ⟨pM, hpM⟩ : ∃ pM : Nat → Nat, pM = fun k => (σm.1 50 0 (4 * k)).toNatClampNeg := ⟨_, rfl⟩
  obtain ⟨aM, haM⟩ : ∃ aM : Nat → Nat, aM = fun k => (σm.1 50 0 (4 * k + 1)).toNatClampNeg := ⟨_, rfl⟩
  obtain ⟨bM, hbM⟩ : ∃ bM : Nat → Nat, bM = fun k => (σm.1 50 0 (4 * k + 2)).toNatClampNeg := ⟨_, rfl⟩
  obtain ⟨vM, hvM⟩ : ∃ vM : Nat → Int32, vM = fun k => σm.1 50 0 (4 * k + 3) := ⟨_, rfl⟩
  obtain ⟨wh, hwh⟩ : ∃ wh : Nat → Int32, wh = fun k => σm.1 49 0 k := ⟨_, rfl⟩
  have hmX : ∀ g, g < G → (σx.1 14 g 0 = wh g ∧ σx.1 14 g 1 = nI (pM g) ∧ σx.1 14 g 2 = nI (aM g) ∧ σx.1 14 g 3 = nI (bM g) ∧ σx.1 14 g 4 = vM g ∧ pM g < 12 ∧ aM g ≤ bM g ∧ bM g ≤ 48) ∧ (σm.1 49 0 g = wh g ∧ σm.1 50 0 (4 * g) = nI (pM g) ∧ σm.1 50 0 (4 * g + 1) = nI (aM g) ∧ σm.1 50 0 (4 * g + 2) = nI (bM g) ∧ σm.1 50 0 (4 * g + 3) = vM g ∧ pM g < 12 ∧ aM g ≤ bM g ∧ bM g ≤ 48) ∧ ∃ m, m ≤ 100 ∧ vM g = nI m := by
    intro g hgg
    obtain ⟨i0, _, p, a, b, v, i1, i2, i3, i4, i5, j1, j2, j3, j4, k1, k2, k3, k4⟩ := gMeet g hgg
    rw [hpM, haM, hbM, hvM, hwh]
    simp only [i0, j1, j2, j3, j4, k1, k2, k3, k4, nI_clamp (show p < 2 ^ 31 by omega), nI_clamp (show a < 2 ^ 31 by omega), nI_clamp (show b < 2 ^ 31 by omega)]
    exact ⟨⟨trivial, trivial, trivial, trivial, trivial, by omega, by omega, i3⟩, ⟨trivial, trivial, trivial, trivial, trivial, by omega, by omega, i3⟩, v, i5, rfl⟩
  obtain ⟨on, pb, ab, bb, hbX, hbM'⟩ : ∃ (on : Bool) (pb ab bb : Nat), ((on = false ∧ σx.1 9 f 12 = nI 0) ∨ (on = true ∧ σx.1 9 f 12 = nI 1 ∧ σx.1 9 f 7 = nI pb ∧ σx.1 9 f 8 = nI ab ∧ σx.1 9 f 9 = nI bb ∧ pb < 12 ∧ ab ≤ bb ∧ bb ≤ 48)) ∧ ((on = false ∧ σm.1 44 0 f = nI 0) ∨ (on = true ∧ σm.1 44 0 f = nI 1 ∧ σm.1 45 0 (3 * f) = nI pb ∧ σm.1 45 0 (3 * f + 1) = nI ab ∧ σm.1 45 0 (3 * f + 2) = nI bb ∧ pb < 12 ∧ ab ≤ bb ∧ bb ≤ 48)) := by
    obtain ⟨i1, i2 | ⟨i2, p, a, b, j1, j2, j3, j4, j5, j6, j7, j8, j9⟩⟩ := gBent f hf20
    · exact ⟨false, 0, 0, 0, Or.inl ⟨rfl, i1.trans i2⟩, Or.inl ⟨rfl, i2⟩⟩
    · exact ⟨true, p, a, b, Or.inr ⟨rfl, i1.trans i2, j4, j6, j8, by omega, by omega, j3⟩, Or.inr ⟨rfl, i2, j5, j7, j9, by omega, by omega, j3⟩⟩
  obtain ⟨hm, hhm, x9, x38⟩ := gHome f hf
  obtain ⟨lk, hlk⟩ : ∃ lk : Nat → Int32, lk = fun p => σm.1 40 0 (12 * f + p) := ⟨_, rfl⟩
  have hlk2 : ∀ p, p < 12 → σx.1 10 f p = lk p ∧ σm.1 40 0 (12 * f + p) = lk p ∧ lk p = nI (lk p).toNatClampNeg ∧ (lk p).toNatClampNeg ≤ 9 := by
    intro p hp
    obtain ⟨v, i1, i2, i3⟩ := gLike.1 f p hf hp
    rw [hlk]
    dsimp only
    rw [i2, i3, nI_clamp (by omega)]
    exact ⟨rfl, rfl, rfl, i1⟩
  obtain ⟨aH, haH⟩ : ∃ aH : Nat → Nat, aH = fun p => (σm.1 33 0 p).toNatClampNeg := ⟨_, rfl⟩
  obtain ⟨bH, hbH⟩ : ∃ bH : Nat → Nat, bH = fun p => (σm.1 34 0 p).toNatClampNeg := ⟨_, rfl⟩
  have hH : ∀ p, p < P → aH p < bH p ∧ bH p ≤ 48 ∧ σm.1 33 0 p = nI (aH p) ∧ σm.1 34 0 p = nI (bH p) ∧ σx.1 3 0 p = nI (aH p) ∧ σx.1 4 0 p = nI (bH p) ∧ σx.1 2 0 p = σm.1 32 0 p := by
    intro p hp
    obtain ⟨i1, a, b, i2, i3, i4, i5, i6, i7⟩ := gHrs p hp
    rw [haH, hbH]
    dsimp only
    rw [i4, i5, i6, i7, nI_clamp (by omega), nI_clamp (by omega)]
    exact ⟨i2, i3, rfl, rfl, rfl, rfl, i1⟩
  have hco : ∀ t, t < 48 → σx.1 12 f t = σm.1 46 0 (48 * f + t) := fun t ht => gPlan f t hf20 ht
  have hcM : ∀ t, t < 48 → σm.1 46 0 (48 * f + t) = NN ∨ ∃ n, n < 400 ∧ σm.1 46 0 (48 * f + t) = nI n := fun t ht => PCode_n hP (gPl1 f t hf20 ht).1
  have hcX : ∀ t, t < 48 → σx.1 12 f t = NN ∨ ∃ n, n < 400 ∧ σx.1 12 f t = nI n := fun t ht => by rw [hco t ht]; exact hcM t ht
  have hseat : ∀ j, j < 576 → (fX1 σx f N).1 16 0 j = (fM1 σm f N).1 48 0 j := by
    intro j hj
    rw [fX1, fM1, sK_r, if_pos rfl, sK_r, if_pos rfl, hco (j % 48) (by omega), gSeat j hj]
  obtain ⟨may, hmayM⟩ : ∃ may : Nat → Nat → Bool, ∀ p t, ((may p t = true) ↔ ((aH p ≤ t ∧ t < bH p) ∨ bt (σm.1 39 0 f) p = true) ∧ σm.1 35 0 p = nI 0 ∧ ((fM1 σm f N).1 48 0 (48 * p + t)).toInt < (σm.1 32 0 p).toInt) := ⟨fun p t => decide (((aH p ≤ t ∧ t < bH p) ∨ bt (σm.1 39 0 f) p = true) ∧ σm.1 35 0 p = nI 0 ∧ ((fM1 σm f N).1 48 0 (48 * p + t)).toInt < (σm.1 32 0 p).toInt), fun p t => decide_eq_true_iff⟩
  have hmayX : ∀ p t, p < P → t < 48 → ((may p t = true) ↔ ((aH p ≤ t ∧ t < bH p) ∨ bt (σx.1 9 f 5) p = true) ∧ bt (σx.1 0 0 13) p = false ∧ ((fX1 σx f N).1 16 0 (48 * p + t)).toInt < (σx.1 2 0 p).toInt) := by
    intro p t hp ht
    rw [hmayM, gKeys f hf20, hseat _ (by omega), (hH p hp).2.2.2.2.2.2]
    obtain ⟨i1, i2⟩ := gLck.1 p (by omega)
    have e : (bt (σx.1 0 0 13) p = false) ↔ σm.1 35 0 p = nI 0 := by
      constructor
      · intro h
        rcases i1 with h1 | h1
        · exact h1
        · rw [i2.2 h1] at h; cases h
      · intro h
        cases hb : bt (σx.1 0 0 13) p with
        | false => rfl
        | true =>
          have := i2.1 hb
          rw [h] at this
          exact absurd this (by decide)
    rw [e]
  obtain ⟨c, hcdef⟩ : ∃ c : Nat → Int32, ∀ t, c t = (cS aD bD vD tt n t + bC on ab bb t) + cS aM bM vM (fun g => bt (wh g) f) G t := ⟨_, fun _ => rfl⟩
  obtain ⟨s, hsdef⟩ : ∃ s : Nat → Nat → Int32, ∀ q t, s q t = (sS pD aD bD vD tt n q t + bS on pb ab bb q t) + sS pM aM bM vM (fun g => bt (wh g) f) G q t := ⟨_, fun _ _ => rfl⟩
  have hcM2 : ∀ t, c t = cS aD bD vD tt n t + cS aM bM vM (fun g => bt (wh g) f) G t + bC on ab bb t := fun t => by rw [hcdef, arc]
  have hsM2 : ∀ q t, s q t = sS pD aD bD vD tt n q t + sS pM aM bM vM (fun g => bt (wh g) f) G q t + bS on pb ab bb q t := fun q t => by rw [hsdef, arc]
  have hcn : ∀ t, t < 48 → c t = nI (c t).toNatClampNeg ∧ (c t).toNatClampNeg ≤ 2400 := by
    intro t _
    obtain ⟨m1, i1, i2⟩ := cS_bd (a := aD) (b := bD) (on := tt) (t := t) (fun k hk => (hdM k hk).2)
    obtain ⟨m2, i3, i4⟩ := cS_bd (a := aM) (b := bM) (on := fun g => bt (wh g) f) (t := t) (fun k hk => (hmX k hk).2.2)
    have e : ∃ m3, m3 ≤ 200 ∧ bC on ab bb t = nI m3 := by
      unfold bC
      split
      · exact ⟨200, by omega, rfl⟩
      · exact ⟨0, by omega, rfl⟩
    obtain ⟨m3, i5, i6⟩ := e
    rw [hcM2, i2, i4, i6, nI_add, nI_add, nI_clamp (by omega)]
    exact ⟨rfl, by omega⟩
  have hsn : ∀ p t, p < 12 → t < 48 → s p t = nI (s p t).toNatClampNeg ∧ (s p t).toNatClampNeg ≤ 2400 := by
    intro p t _ _
    obtain ⟨m1, i1, i2⟩ := sS_bd (p := pD) (a := aD) (b := bD) (on := tt) (q := p) (t := t) (fun k hk => (hdM k hk).2)
    obtain ⟨m2, i3, i4⟩ := sS_bd (p := pM) (a := aM) (b := bM) (on := fun g => bt (wh g) f) (q := p) (t := t) (fun k hk => (hmX k hk).2.2)
    have e : ∃ m3, m3 ≤ 200 ∧ bS on pb ab bb p t = nI m3 := by
      unfold bS
      split
      · exact ⟨200, by omega, rfl⟩
      · exact ⟨0, by omega, rfl⟩
    obtain ⟨m3, i5, i6⟩ := e
    rw [hsM2, i2, i4, i6, nI_add, nI_add, nI_clamp (by omega)]
    exact ⟨rfl, by omega⟩
  -- where one stands, and from when on
  obtain ⟨z, p0, hNz, hz48, hp0, hFF, hstX, hstM, hpre, hbd, hrun⟩ : ∃ z p0, N ≤ z ∧ z ≤ 48 ∧ p0 < P ∧ (∀ z', FF (fun t => σx.1 12 f t) N z' → z' = z) ∧ ((z = 0 ∧ p0 = hm) ∨ (0 < z ∧ ∃ m, σx.1 12 f (z - 1) = nI m ∧ ((m < 12 ∧ p0 = m) ∨ (100 ≤ m ∧ m < 112 ∧ p0 = m - 100) ∨ (200 ≤ m ∧ m < 400 ∧ p0 = (m - 200) % 12)))) ∧ ((N = 0 ∧ z = 0 ∧ p0 = hm) ∨ (0 < N ∧ z = N ∧ ∃ m, σm.1 46 0 (48 * f + (N - 1)) = nI m ∧ ((m < 12 ∧ p0 = m) ∨ (100 ≤ m ∧ m < 112 ∧ p0 = m - 100))) ∨ (0 < N ∧ ∃ pp b, pp < P ∧ w pp p0 ≤ 9 ∧ σm.1 46 0 (48 * f + (N - 1)) = nI (200 + 12 * pp + p0) ∧ b ≤ N - 1 ∧ N - 1 < b + w pp p0 ∧ z = min (b + w pp p0) 48 ∧ (∀ u, b ≤ u → u ≤ N - 1 → σm.1 46 0 (48 * f + u) = σm.1 46 0 (48 * f + (N - 1))) ∧ (b = 0 ∨ σm.1 46 0 (48 * f + (b - 1)) ≠ σm.1 46 0 (48 * f + (N - 1))))) ∧ (∀ t, t < z → t < 48 → σm.1 46 0 (48 * f + t) ≠ NN ∧ ∀ p q, p < 12 → q < 12 → σm.1 46 0 (48 * f + t) = nI (200 + 12 * p + q) → ∃ b, b ≤ t ∧ t < b + w p q ∧ (∀ u, b ≤ u → u < z → u < 48 → u < b + w p q → σm.1 46 0 (48 * f + u) = σm.1 46 0 (48 * f + t)) ∧ (b = 0 ∨ σm.1 46 0 (48 * f + (b - 1)) ≠ σm.1 46 0 (48 * f + t)) ∧ ((48 ≤ b + w p q ∧ 48 ≤ z) ∨ (b + w p q < z ∧ σm.1 46 0 (48 * f + (b + w p q)) ≠ σm.1 46 0 (48 * f + t)) ∨ (b + w p q = z ∧ q = p0 ∧ w p q ≤ 9))) ∧ (z = 0 ∨ ∀ q, q < 12 → σm.1 46 0 (48 * f + (z - 1)) ≠ nI (200 + 12 * p0 + q)) ∧ (∀ t, N ≤ t → t < z → σm.1 46 0 (48 * f + t) = σm.1 46 0 (48 * f + (N - 1)) ∧ ∃ m, 200 ≤ m ∧ m < 400 ∧ σm.1 46 0 (48 * f + (N - 1)) = nI m) := by
    by_cases hN0 : N = 0
    · subst hN0
      refine ⟨0, hm, by omega, by omega, hhm, fun z' hz' => ?_, Or.inl ⟨rfl, rfl⟩, Or.inl ⟨rfl, rfl, rfl⟩, fun t ht => by omega, Or.inl rfl, fun t h1 h2 => by omega⟩
      rcases hz' with ⟨_, h⟩ | ⟨h, _⟩
      · exact h
      · omega
    · have well := gWel f hf (hS.resolve_left hN0) hg
      have hcN := hco (N - 1) (by omega)
      obtain ⟨wn, wr⟩ := well (N - 1) (by omega)
      -- a plan's code at the tick ahead is no way's: then now is free
      have noway : ∀ m q0, σm.1 46 0 (48 * f + (N - 1)) = nI m → m < 112 → q0 < P → ((m < 12 ∧ q0 = m) ∨ (100 ≤ m ∧ m < 112 ∧ q0 = m - 100)) → ∃ z p0, N ≤ z ∧ z ≤ 48 ∧ p0 < P ∧ (∀ z', FF (fun t => σx.1 12 f t) N z' → z' = z) ∧ ((z = 0 ∧ p0 = hm) ∨ (0 < z ∧ ∃ m, σx.1 12 f (z - 1) = nI m ∧ ((m < 12 ∧ p0 = m) ∨ (100 ≤ m ∧ m < 112 ∧ p0 = m - 100) ∨ (200 ≤ m ∧ m < 400 ∧ p0 = (m - 200) % 12)))) ∧ ((N = 0 ∧ z = 0 ∧ p0 = hm) ∨ (0 < N ∧ z = N ∧ ∃ m, σm.1 46 0 (48 * f + (N - 1)) = nI m ∧ ((m < 12 ∧ p0 = m) ∨ (100 ≤ m ∧ m < 112 ∧ p0 = m - 100))) ∨ (0 < N ∧ ∃ pp b, pp < P ∧ w pp p0 ≤ 9 ∧ σm.1 46 0 (48 * f + (N - 1)) = nI (200 + 12 * pp + p0) ∧ b ≤ N - 1 ∧ N - 1 < b + w pp p0 ∧ z = min (b + w pp p0) 48 ∧ (∀ u, b ≤ u → u ≤ N - 1 → σm.1 46 0 (48 * f + u) = σm.1 46 0 (48 * f + (N - 1))) ∧ (b = 0 ∨ σm.1 46 0 (48 * f + (b - 1)) ≠ σm.1 46 0 (48 * f + (N - 1))))) ∧ (∀ t, t < z → t < 48 → σm.1 46 0 (48 * f + t) ≠ NN ∧ ∀ p q, p < 12 → q < 12 → σm.1 46 0 (48 * f + t) = nI (200 + 12 * p + q) → ∃ b, b ≤ t ∧ t < b + w p q ∧ (∀ u, b ≤ u → u < z → u < 48 → u < b + w p q → σm.1 46 0 (48 * f + u) = σm.1 46 0 (48 * f + t)) ∧ (b = 0 ∨ σm.1 46 0 (48 * f + (b - 1)) ≠ σm.1 46 0 (48 * f + t)) ∧ ((48 ≤ b + w p q ∧ 48 ≤ z) ∨ (b + w p q < z ∧ σm.1 46 0 (48 * f + (b + w p q)) ≠ σm.1 46 0 (48 * f + t)) ∨ (b + w p q = z ∧ q = p0 ∧ w p q ≤ 9))) ∧ (z = 0 ∨ ∀ q, q < 12 → σm.1 46 0 (48 * f + (z - 1)) ≠ nI (200 + 12 * p0 + q)) ∧ (∀ t, N ≤ t → t < z → σm.1 46 0 (48 * f + t) = σm.1 46 0 (48 * f + (N - 1)) ∧ ∃ m, 200 ≤ m ∧ m < 400 ∧ σm.1 46 0 (48 * f + (N - 1)) = nI m) := by
        intro m q0 e1 hm112 hq0 hmq
        refine ⟨N, q0, by omega, by omega, hq0, fun z' hz' => ?_, Or.inr ⟨by omega, m, hcN.trans e1, ?_⟩, Or.inr (Or.inl ⟨by omega, rfl, m, e1, hmq⟩), fun t h1 h2 => ?_, Or.inr (fun q hq => ?_), fun t h1 h2 => by omega⟩
        · rcases hz' with ⟨_, h⟩ | ⟨_, ⟨m', j1, j2, j3⟩, _⟩
          · exact h
          · exfalso
            dsimp only at j3
            rw [hcN, e1, eq_nI (by omega) (by omega)] at j3
            omega
        · rcases hmq with h | h
          · exact Or.inl h
          · exact Or.inr (Or.inl h)
        · obtain ⟨w1, w2⟩ := well t h2
          refine ⟨w1, fun p q hp hq e => ?_⟩
          obtain ⟨b, b1, b2, b3, b4, b5⟩ := w2 p q hp hq e
          have hle : b + w p q ≤ N - 1 := by
            by_cases h : b + w p q ≤ N - 1
            · exact h
            · exfalso
              have := b3 (N - 1) (by omega) (by omega) (by omega)
              dsimp only at this
              rw [e1, e, eq_nI (by omega) (by omega)] at this
              omega
          exact ⟨b, b1, b2, fun u u1 u2 u3 u4 => b3 u u1 u3 u4, b4, Or.inr (Or.inl ⟨by omega, b5.resolve_left (by omega)⟩)⟩
        · rw [e1, ne_eq, eq_nI (by omega) (by omega)]
          omega
      rcases (gPl1 f (N - 1) hf20 (by omega)).1 with h | ⟨p, h1, h2⟩ | ⟨p, h1, h2⟩ | ⟨pp, q, h1, h2, h3, h4⟩
      · exact absurd h wn
      · exact noway p p h2 (by omega) h1 (Or.inl ⟨by omega, rfl⟩)
      · exact noway (100 + p) p h2 (by omega) h1 (Or.inr ⟨by omega, by omega, by omega⟩)
      · obtain ⟨b0, c1, c2, c3, c4, c5⟩ := wr pp q (by omega) (by omega) h4
        dsimp only at c3 c4 c5
        have w9 : w pp q ≤ 9 := by have := (hwX pp q (by omega) (by omega)).2.1; omega
        have hzrun : ∀ t, b0 ≤ t → t < min (b0 + w pp q) 48 → σm.1 46 0 (48 * f + t) = σm.1 46 0 (48 * f + (N - 1)) := fun t t1 t2 => c3 t t1 (by omega) (by omega)
        refine ⟨min (b0 + w pp q) 48, q, by omega, by omega, h2, fun z' hz' => ?_, Or.inr ⟨by omega, 200 + 12 * pp + q, ?_, Or.inr (Or.inr ⟨by omega, by omega, by omega⟩)⟩, Or.inr (Or.inr ⟨by omega, pp, b0, h1, w9, h4, c1, c2, rfl, fun u u1 u2 => c3 u u1 (by omega) (by omega), c4⟩), fun t t1 t2 => ?_, Or.inr (fun q' hq' => ?_), fun t t1 t2 => ⟨hzrun t (by omega) t2, 200 + 12 * pp + q, by omega, by omega, h4⟩⟩
        · rcases hz' with ⟨j1 | j1, _⟩ | ⟨_, _, j1, j2, j3, j4⟩
          · omega
          · exfalso
            exact j1 (200 + 12 * pp + q) (by omega) (by omega) (hcN.trans h4)
          · dsimp only at j3 j4
            rcases Nat.lt_trichotomy z' (min (b0 + w pp q) 48) with h | h | h
            · exfalso
              refine j4 (by omega) ?_
              rw [hco z' (by omega), hcN]
              exact hzrun z' (by omega) h
            · exact h
            · exfalso
              have h48 : b0 + w pp q < 48 := by omega
              have e := j3 (b0 + w pp q) (by omega) (by omega)
              rw [hco _ (by omega), hcN] at e
              exact c5.elim (fun h => by omega) (fun h => h e)
        · rw [hco _ (by omega), hzrun _ (by omega) (by omega)]
          exact h4
        · obtain ⟨w1, w2⟩ := well t t2
          refine ⟨w1, fun p q' hp hq' e => ?_⟩
          obtain ⟨b, b1, b2, b3, b4, b5⟩ := w2 p q' hp hq' e
          dsimp only at b3 b4 b5
          refine ⟨b, b1, b2, fun u u1 u2 u3 u4 => b3 u u1 u3 u4, b4, ?_⟩
          by_cases hcov : b + w p q' ≤ N - 1
          · exact Or.inr (Or.inl ⟨by omega, b5.resolve_left (by omega)⟩)
          · obtain ⟨e1, e2⟩ := runs_eq (co := fun t => σm.1 46 0 (48 * f + t)) (w := w) (N := N) (b0 := b0) (w0 := w pp q) (p := p) (q := q') (b := b) (t := t) (by omega) hN c1 c2 rfl c3 c4 t1 b1 b2 b3 b4 hcov
            dsimp only at e1
            rw [e, h4, eq_nI (by omega) (by omega)] at e1
            have ep : p = pp ∧ q' = q := by omega
            obtain ⟨ep1, ep2⟩ := ep
            subst ep1
            subst ep2
            subst e2
            by_cases h48 : 48 ≤ b + w p q'
            · exact Or.inl ⟨h48, by omega⟩
            · exact Or.inr (Or.inr ⟨by omega, rfl, w9⟩)
        · rw [hzrun _ (by omega) (by omega), h4, ne_eq, eq_nI (by omega) (by omega)]
          intro e
          have : pp = q := by omega
          subst this
          have := hwd pp (by omega)
          omega
  refine f_X7_replan (n := n) (G := G) (A := P) (N := N) (z := z) (p0 := p0) (hm := hm) (pb := pb) (ab := ab) (bb := bb) (on := on) (pD := pD) (aD := aD) (bD := bD) (pM := pM) (aM := aM) (bM := bM) (aH := aH) (bH := bH) (vD := vD) (vM := vM) (wh := wh) (lk := lk) (may := may) (w := w) (c := c) (s := s) hf20 hP hN hn hG (by omega) xP xN xG hcX x6 hdX hbX (fun g hgg => (hmX g hgg).1) ⟨hcdef, hsdef⟩ (fun p hp => (hlk2 p hp).1) x9 hwX (fun p hp => by obtain ⟨i1, i2, _, _, i3, i4, _⟩ := hH p hp; exact ⟨by omega, i2, i3, i4⟩) hmayX gRow hFF hNz hz48 hp0 hstX (fun ow L C hallX hrX => ?_)
  refine f_X8_planned (n := n) (G := G) (A := P) (N := N) (z := z) (p0 := p0) (hm := hm) (pb := pb) (ab := ab) (bb := bb) (on := on) (pD := pD) (aD := aD) (bD := bD) (pM := pM) (aM := aM) (bM := bM) (aH := aH) (bH := bH) (vD := vD) (vM := vM) (wh := wh) (lk := lk) (may := may) (w := w) (c := c) (s := s) (cn := fun t => (c t).toNatClampNeg) (sn := fun p t => (s p t).toNatClampNeg) (ln := fun p => (lk p).toNatClampNeg) hf20 hP hN hn hG (by omega) mP mN mG hcM m41 (fun k hk => (hdM k hk).1) hbM' (fun g hgg => (hmX g hgg).2.1) ⟨hcM2, hsM2⟩ hcn hsn (fun p hp => (hlk2 p hp).2.2) (fun p hp => (hlk2 p hp).2.1) x38 hwM (fun p hp => by obtain ⟨i1, i2, i3, i4, _⟩ := hH p hp; exact ⟨i1, i2, i3, i4⟩) (fun p t hp ht => hmayM p t) hNz hz48 hp0 hstM (fun L' C' hallM hrM => ?_)
  sorry
