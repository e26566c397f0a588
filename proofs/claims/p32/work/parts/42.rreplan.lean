variable {κ : Nat → Nat → Nat → Prop}
/-! what a plan anew leaves of the plans -/
def PF (N f : Nat) (a b : Mem) : Prop := ∀ i t, ¬ (i = f ∧ N ≤ t) → b.1 12 i t = a.1 12 i t
theorem R_replan {S : Nat → Prop} {σx σm : Mem} {P W F G C N D B : Nat} {w l : Nat → Nat → Nat} {dx dm f : Nat} (R : RelW κ S σx σm P W F G C N D B w l) (hf : f < F) (hB1 : B = 1) (hg : σm.1 43 0 f = nI 0) (hS : N = 0 ∨ S f) : Rn (fun K => CalI IX (dx + 4) S_X7_replan [ar 0 0, ai (nI f)] σx K) (fun r sx => Rn (fun K => CalI IM (dm + 4) S_X8_planned [ar 30 0, ai (nI f)] σm K) (fun r' sm => r = r' ∧ ((∀ u, sm.1 43 0 u = σm.1 43 0 u) ∧ PF N f σx sx) ∧ RelW κ (fun u => S u ∨ u = f) sx sm P W F G C N D B w l)) := by
  obtain ⟨gSc, gRef, gHrs, gLck, gWay, gFar, gDist, gShl, gCell, gHome, gKeys, gLike, gDuty, gGone, gBent, gPlan, gCost, gSeat, gMeet, gTly, gKnow, gFlt, gRow, gPl1, gWel⟩ := R
  have hSc0 := gSc
  obtain ⟨⟨xP, mP, hP⟩, ⟨xW, mW, hW⟩, ⟨xF, mF, hF⟩, ⟨xG, mG, hG⟩, ⟨xC, mC, hC⟩, ⟨xN, mN, hN⟩, ⟨xD, mD, hD⟩, ⟨xB, mB, hB⟩, hpl, hb0⟩ := hSc0
  have hf20 : f < 20 := by omega
  -- the ways
  have hwX : ∀ p q, p < 12 → q < 12 → 1 ≤ w p q ∧ (w p q ≤ 9 ∨ w p q = 1000000) ∧ σx.1 5 0 (12 * p + q) = if w p q = 1000000 then nI 0 else nI (w p q) := by
    intro p q hp hq
    obtain ⟨i1, i2, i3, i4⟩ := gWay p q hp hq
    exact ⟨by omega, by omega, i2⟩
  have hwM : ∀ p q, p < 12 → q < 12 → 1 ≤ w p q ∧ (w p q ≤ 9 ∨ w p q = 1000000) ∧ σm.1 36 0 (12 * p + q) = nI (w p q) := by
    intro p q hp hq
    obtain ⟨i1, i2, i3, i4⟩ := gWay p q hp hq
    exact ⟨by omega, by omega, i1⟩
  have hwd : ∀ a, a < 12 → 9 < w a a := by
    intro a ha
    obtain ⟨i1, i2, i3, i4⟩ := gWay a a ha ha
    rcases i3 with h | h <;> omega
  -- the claims' items
  obtain ⟨n, hn, x6, m41, h11, hit⟩ := gDuty f hf20
  obtain ⟨pD, hpD⟩ : ∃ pD : Nat → Nat, pD = fun k => (σm.1 42 0 (48 * f + 4 * k)).toNatClampNeg := ⟨_, rfl⟩
  obtain ⟨aD, haD⟩ : ∃ aD : Nat → Nat, aD = fun k => (σm.1 42 0 (48 * f + 4 * k + 1)).toNatClampNeg := ⟨_, rfl⟩
  obtain ⟨bD, hbD⟩ : ∃ bD : Nat → Nat, bD = fun k => (σm.1 42 0 (48 * f + 4 * k + 2)).toNatClampNeg := ⟨_, rfl⟩
  obtain ⟨vD, hvD⟩ : ∃ vD : Nat → Int32, vD = fun k => σm.1 42 0 (48 * f + 4 * k + 3) := ⟨_, rfl⟩
  have hdM : ∀ k, k < n → (σm.1 42 0 (48 * f + 4 * k) = nI (pD k) ∧ σm.1 42 0 (48 * f + 4 * k + 1) = nI (aD k) ∧ σm.1 42 0 (48 * f + 4 * k + 2) = nI (bD k) ∧ σm.1 42 0 (48 * f + 4 * k + 3) = vD k ∧ pD k < 12 ∧ aD k ≤ bD k ∧ bD k ≤ 48) ∧ ∃ m, m ≤ 100 ∧ vD k = nI m := by
    intro k hk
    obtain ⟨p, a, b, v, i1, i2, i3, i4, i5, i6, i7, i8, i9⟩ := hit k hk
    rw [hpD, haD, hbD, hvD]
    simp only [i6, i7, i8, i9, nI_clamp (show p < 2 ^ 31 by omega), nI_clamp (show a < 2 ^ 31 by omega), nI_clamp (show b < 2 ^ 31 by omega)]
    exact ⟨⟨trivial, trivial, trivial, trivial, by omega, by omega, i3⟩, v, i5, rfl⟩
  have hdX : ∀ k, k < n → σx.1 11 f (4 * k) = nI (pD k) ∧ σx.1 11 f (4 * k + 1) = nI (aD k) ∧ σx.1 11 f (4 * k + 2) = nI (bD k) ∧ σx.1 11 f (4 * k + 3) = vD k ∧ pD k < 12 ∧ aD k ≤ bD k ∧ bD k ≤ 48 := by
    intro k hk
    obtain ⟨⟨j1, j2, j3, j4, j5, j6, j7⟩, _⟩ := hdM k hk
    exact ⟨(h11 _ (by omega)).trans j1, (h11 _ (by omega)).trans j2, (h11 _ (by omega)).trans j3, (h11 _ (by omega)).trans j4, j5, j6, j7⟩
  obtain ⟨pM, hpM⟩ : ∃ pM : Nat → Nat, pM = fun k => (σm.1 50 0 (4 * k)).toNatClampNeg := ⟨_, rfl⟩
  obtain ⟨aM, haM⟩ : ∃ aM : Nat → Nat, aM = fun k => (σm.1 50 0 (4 * k + 1)).toNatClampNeg := ⟨_, rfl⟩
  obtain ⟨bM, hbM⟩ : ∃ bM : Nat → Nat, bM = fun k => (σm.1 50 0 (4 * k + 2)).toNatClampNeg := ⟨_, rfl⟩
  obtain ⟨vM, hvM⟩ : ∃ vM : Nat → Int32, vM = fun k => σm.1 50 0 (4 * k + 3) := ⟨_, rfl⟩
  obtain ⟨wh, hwh⟩ : ∃ wh : Nat → Int32, wh = fun k => σm.1 49 0 k := ⟨_, rfl⟩
  have hmX : ∀ g, g < G → (σx.1 14 g 0 = wh g ∧ σx.1 14 g 1 = nI (pM g) ∧ σx.1 14 g 2 = nI (aM g) ∧ σx.1 14 g 3 = nI (bM g) ∧ σx.1 14 g 4 = vM g ∧ pM g < 12 ∧ aM g ≤ bM g ∧ bM g ≤ 48) ∧ (σm.1 49 0 g = wh g ∧ σm.1 50 0 (4 * g) = nI (pM g) ∧ σm.1 50 0 (4 * g + 1) = nI (aM g) ∧ σm.1 50 0 (4 * g + 2) = nI (bM g) ∧ σm.1 50 0 (4 * g + 3) = vM g ∧ pM g < 12 ∧ aM g ≤ bM g ∧ bM g ≤ 48) ∧ ∃ m, m ≤ 100 ∧ vM g = nI m := by
    intro g hgg
    obtain ⟨i0, _, p, a, b, v, i1, i2, i3, i4, i5, j1, j2, j3, j4, k1, k2, k3, k4⟩ := gMeet g hgg
    rw [hpM, haM, hbM, hvM, hwh]
    simp only [i0, j1, j2, j3, j4, k1, k2, k3, k4, nI_clamp (show p < 2 ^ 31 by omega), nI_clamp (show a < 2 ^ 31 by omega), nI_clamp (show b < 2 ^ 31 by omega)]
    exact ⟨⟨trivial, trivial, trivial, trivial, trivial, by omega, by omega, i3⟩, ⟨trivial, trivial, trivial, trivial, trivial, by omega, by omega, i3⟩, v, i5, rfl⟩
  obtain ⟨on, pb, ab, bb, hbX, hbM'⟩ : ∃ (on : Bool) (pb ab bb : Nat), ((on = false ∧ σx.1 9 f 12 = nI 0) ∨ (on = true ∧ σx.1 9 f 12 = nI 1 ∧ σx.1 9 f 7 = nI pb ∧ σx.1 9 f 8 = nI ab ∧ σx.1 9 f 9 = nI bb ∧ pb < 12 ∧ ab ≤ bb ∧ bb ≤ 48)) ∧ ((on = false ∧ σm.1 44 0 f = nI 0) ∨ (on = true ∧ σm.1 44 0 f = nI 1 ∧ σm.1 45 0 (3 * f) = nI pb ∧ σm.1 45 0 (3 * f + 1) = nI ab ∧ σm.1 45 0 (3 * f + 2) = nI bb ∧ pb < 12 ∧ ab ≤ bb ∧ bb ≤ 48)) := by
    obtain ⟨i1, i2 | ⟨i2, p, a, b, j1, j2, j3, j4, j5, j6, j7, j8, j9⟩⟩ := gBent f hf20
    · exact ⟨false, 0, 0, 0, Or.inl ⟨rfl, i1.trans i2⟩, Or.inl ⟨rfl, i2⟩⟩
    · exact ⟨true, p, a, b, Or.inr ⟨rfl, i1.trans i2, j4, j6, j8, by omega, by omega, j3⟩, Or.inr ⟨rfl, i2, j5, j7, j9, by omega, by omega, j3⟩⟩
  obtain ⟨hm, hhm, x9, x38⟩ := gHome f hf
  obtain ⟨lk, hlk⟩ : ∃ lk : Nat → Int32, lk = fun p => σm.1 40 0 (12 * f + p) := ⟨_, rfl⟩
  have hlk2 : ∀ p, p < 12 → σx.1 10 f p = lk p ∧ σm.1 40 0 (12 * f + p) = lk p ∧ lk p = nI (lk p).toNatClampNeg ∧ (lk p).toNatClampNeg ≤ 9 := by
    intro p hp
    obtain ⟨v, i1, i2, i3⟩ := gLike.1 f p hf hp
    rw [hlk]
    dsimp only
    rw [i2, i3, nI_clamp (by omega)]
    exact ⟨rfl, rfl, rfl, i1⟩
  obtain ⟨aH, haH⟩ : ∃ aH : Nat → Nat, aH = fun p => (σm.1 33 0 p).toNatClampNeg := ⟨_, rfl⟩
  obtain ⟨bH, hbH⟩ : ∃ bH : Nat → Nat, bH = fun p => (σm.1 34 0 p).toNatClampNeg := ⟨_, rfl⟩
  have hH : ∀ p, p < P → aH p < bH p ∧ bH p ≤ 48 ∧ σm.1 33 0 p = nI (aH p) ∧ σm.1 34 0 p = nI (bH p) ∧ σx.1 3 0 p = nI (aH p) ∧ σx.1 4 0 p = nI (bH p) ∧ σx.1 2 0 p = σm.1 32 0 p := by
    intro p hp
    obtain ⟨i1, a, b, i2, i3, i4, i5, i6, i7⟩ := gHrs p hp
    rw [haH, hbH]
    dsimp only
    rw [i4, i5, i6, i7, nI_clamp (by omega), nI_clamp (by omega)]
    exact ⟨i2, i3, rfl, rfl, rfl, rfl, i1⟩
  have hco : ∀ t, t < 48 → σx.1 12 f t = σm.1 46 0 (48 * f + t) := fun t ht => gPlan f t hf20 ht
  have hcM : ∀ t, t < 48 → σm.1 46 0 (48 * f + t) = NN ∨ ∃ n, n < 400 ∧ σm.1 46 0 (48 * f + t) = nI n := fun t ht => PCode_n hP (gPl1 f t hf20 ht).1
  have hcX : ∀ t, t < 48 → σx.1 12 f t = NN ∨ ∃ n, n < 400 ∧ σx.1 12 f t = nI n := fun t ht => by rw [hco t ht]; exact hcM t ht
  have hseat : ∀ j, j < 576 → (fX1 σx f N).1 16 0 j = (fM1 σm f N).1 48 0 j := by
    intro j hj
    rw [fX1, fM1, sK_r, if_pos rfl, sK_r, if_pos rfl, hco (j % 48) (by omega), gSeat j hj]
  obtain ⟨may, hmayM⟩ : ∃ may : Nat → Nat → Bool, ∀ p t, ((may p t = true) ↔ ((aH p ≤ t ∧ t < bH p) ∨ bt (σm.1 39 0 f) p = true) ∧ σm.1 35 0 p = nI 0 ∧ ((fM1 σm f N).1 48 0 (48 * p + t)).toInt < (σm.1 32 0 p).toInt) := ⟨fun p t => decide (((aH p ≤ t ∧ t < bH p) ∨ bt (σm.1 39 0 f) p = true) ∧ σm.1 35 0 p = nI 0 ∧ ((fM1 σm f N).1 48 0 (48 * p + t)).toInt < (σm.1 32 0 p).toInt), fun p t => decide_eq_true_iff⟩
  have hmayX : ∀ p t, p < P → t < 48 → ((may p t = true) ↔ ((aH p ≤ t ∧ t < bH p) ∨ bt (σx.1 9 f 5) p = true) ∧ bt (σx.1 0 0 13) p = false ∧ ((fX1 σx f N).1 16 0 (48 * p + t)).toInt < (σx.1 2 0 p).toInt) := by
    intro p t hp ht
    rw [hmayM, gKeys f hf20, hseat _ (by omega), (hH p hp).2.2.2.2.2.2]
    obtain ⟨i1, i2⟩ := gLck.1 p (by omega)
    have e : (bt (σx.1 0 0 13) p = false) ↔ σm.1 35 0 p = nI 0 := by
      constructor
      · intro h
        rcases i1 with h1 | h1
        · exact h1
        · rw [i2.2 h1] at h; cases h
      · intro h
        cases hb : bt (σx.1 0 0 13) p with
        | false => rfl
        | true =>
          have := i2.1 hb
          rw [h] at this
          exact absurd this (by decide)
    rw [e]
  obtain ⟨c, hcdef⟩ : ∃ c : Nat → Int32, ∀ t, c t = (cS aD bD vD tt n t + bC on ab bb t) + cS aM bM vM (fun g => bt (wh g) f) G t := ⟨_, fun _ => rfl⟩
  obtain ⟨s, hsdef⟩ : ∃ s : Nat → Nat → Int32, ∀ q t, s q t = (sS pD aD bD vD tt n q t + bS on pb ab bb q t) + sS pM aM bM vM (fun g => bt (wh g) f) G q t := ⟨_, fun _ _ => rfl⟩
  have hcM2 : ∀ t, c t = cS aD bD vD tt n t + cS aM bM vM (fun g => bt (wh g) f) G t + bC on ab bb t := fun t => by rw [hcdef, arc]
  have hsM2 : ∀ q t, s q t = sS pD aD bD vD tt n q t + sS pM aM bM vM (fun g => bt (wh g) f) G q t + bS on pb ab bb q t := fun q t => by rw [hsdef, arc]
  have hcn : ∀ t, t < 48 → c t = nI (c t).toNatClampNeg ∧ (c t).toNatClampNeg ≤ 2400 := by
    intro t _
    obtain ⟨m1, i1, i2⟩ := cS_bd (a := aD) (b := bD) (on := tt) (t := t) (fun k hk => (hdM k hk).2)
    obtain ⟨m2, i3, i4⟩ := cS_bd (a := aM) (b := bM) (on := fun g => bt (wh g) f) (t := t) (fun k hk => (hmX k hk).2.2)
    have e : ∃ m3, m3 ≤ 200 ∧ bC on ab bb t = nI m3 := by
      unfold bC
      split
      · exact ⟨200, by omega, rfl⟩
      · exact ⟨0, by omega, rfl⟩
    obtain ⟨m3, i5, i6⟩ := e
    rw [hcM2, i2, i4, i6, nI_add, nI_add, nI_clamp (by omega)]
    exact ⟨rfl, by omega⟩
  have hsn : ∀ p t, p < 12 → t < 48 → s p t = nI (s p t).toNatClampNeg ∧ (s p t).toNatClampNeg ≤ 2400 := by
    intro p t _ _
    obtain ⟨m1, i1, i2⟩ := sS_bd (p := pD) (a := aD) (b := bD) (on := tt) (q := p) (t := t) (fun k hk => (hdM k hk).2)
    obtain ⟨m2, i3, i4⟩ := sS_bd (p := pM) (a := aM) (b := bM) (on := fun g => bt (wh g) f) (q := p) (t := t) (fun k hk => (hmX k hk).2.2)
    have e : ∃ m3, m3 ≤ 200 ∧ bS on pb ab bb p t = nI m3 := by
      unfold bS
      split
      · exact ⟨200, by omega, rfl⟩
      · exact ⟨0, by omega, rfl⟩
    obtain ⟨m3, i5, i6⟩ := e
    rw [hsM2, i2, i4, i6, nI_add, nI_add, nI_clamp (by omega)]
    exact ⟨rfl, by omega⟩
  -- where one stands, and from when on
  obtain ⟨z, p0, hNz, hz48, hp0, hFF, hstX, hstM, hpre, hbd, hrun⟩ : ∃ z p0, N ≤ z ∧ z ≤ 48 ∧ p0 < P ∧ (∀ z', FF (fun t => σx.1 12 f t) N z' → z' = z) ∧ ((z = 0 ∧ p0 = hm) ∨ (0 < z ∧ ∃ m, σx.1 12 f (z - 1) = nI m ∧ ((m < 12 ∧ p0 = m) ∨ (100 ≤ m ∧ m < 112 ∧ p0 = m - 100) ∨ (200 ≤ m ∧ m < 400 ∧ p0 = (m - 200) % 12)))) ∧ ((N = 0 ∧ z = 0 ∧ p0 = hm) ∨ (0 < N ∧ z = N ∧ ∃ m, σm.1 46 0 (48 * f + (N - 1)) = nI m ∧ ((m < 12 ∧ p0 = m) ∨ (100 ≤ m ∧ m < 112 ∧ p0 = m - 100))) ∨ (0 < N ∧ ∃ pp b, pp < P ∧ w pp p0 ≤ 9 ∧ σm.1 46 0 (48 * f + (N - 1)) = nI (200 + 12 * pp + p0) ∧ b ≤ N - 1 ∧ N - 1 < b + w pp p0 ∧ z = min (b + w pp p0) 48 ∧ (∀ u, b ≤ u → u ≤ N - 1 → σm.1 46 0 (48 * f + u) = σm.1 46 0 (48 * f + (N - 1))) ∧ (b = 0 ∨ σm.1 46 0 (48 * f + (b - 1)) ≠ σm.1 46 0 (48 * f + (N - 1))))) ∧ (∀ t, t < z → t < 48 → σm.1 46 0 (48 * f + t) ≠ NN ∧ ∀ p q, p < 12 → q < 12 → σm.1 46 0 (48 * f + t) = nI (200 + 12 * p + q) → ∃ b, b ≤ t ∧ t < b + w p q ∧ (∀ u, b ≤ u → u < z → u < 48 → u < b + w p q → σm.1 46 0 (48 * f + u) = σm.1 46 0 (48 * f + t)) ∧ (b = 0 ∨ σm.1 46 0 (48 * f + (b - 1)) ≠ σm.1 46 0 (48 * f + t)) ∧ ((48 ≤ b + w p q ∧ 48 ≤ z) ∨ (b + w p q < z ∧ σm.1 46 0 (48 * f + (b + w p q)) ≠ σm.1 46 0 (48 * f + t)) ∨ (b + w p q = z ∧ q = p0 ∧ w p q ≤ 9))) ∧ (z = 0 ∨ ∀ q, q < 12 → σm.1 46 0 (48 * f + (z - 1)) ≠ nI (200 + 12 * p0 + q)) ∧ (∀ t, N ≤ t → t < z → σm.1 46 0 (48 * f + t) = σm.1 46 0 (48 * f + (N - 1)) ∧ ∃ m, 200 ≤ m ∧ m < 400 ∧ σm.1 46 0 (48 * f + (N - 1)) = nI m) := by
    by_cases hN0 : N = 0
    · subst hN0
      refine ⟨0, hm, by omega, by omega, hhm, fun z' hz' => ?_, Or.inl ⟨rfl, rfl⟩, Or.inl ⟨rfl, rfl, rfl⟩, fun t ht => by omega, Or.inl rfl, fun t h1 h2 => by omega⟩
      rcases hz' with ⟨_, h⟩ | ⟨h, _⟩
      · exact h
      · omega
    · have well := gWel f hf (hS.resolve_left hN0) hg
      have hcN := hco (N - 1) (by omega)
      obtain ⟨wn, wr⟩ := well (N - 1) (by omega)
      -- a plan's code at the tick ahead is no way's: then now is free
      have noway : ∀ m q0, σm.1 46 0 (48 * f + (N - 1)) = nI m → m < 112 → q0 < P → ((m < 12 ∧ q0 = m) ∨ (100 ≤ m ∧ m < 112 ∧ q0 = m - 100)) → ∃ z p0, N ≤ z ∧ z ≤ 48 ∧ p0 < P ∧ (∀ z', FF (fun t => σx.1 12 f t) N z' → z' = z) ∧ ((z = 0 ∧ p0 = hm) ∨ (0 < z ∧ ∃ m, σx.1 12 f (z - 1) = nI m ∧ ((m < 12 ∧ p0 = m) ∨ (100 ≤ m ∧ m < 112 ∧ p0 = m - 100) ∨ (200 ≤ m ∧ m < 400 ∧ p0 = (m - 200) % 12)))) ∧ ((N = 0 ∧ z = 0 ∧ p0 = hm) ∨ (0 < N ∧ z = N ∧ ∃ m, σm.1 46 0 (48 * f + (N - 1)) = nI m ∧ ((m < 12 ∧ p0 = m) ∨ (100 ≤ m ∧ m < 112 ∧ p0 = m - 100))) ∨ (0 < N ∧ ∃ pp b, pp < P ∧ w pp p0 ≤ 9 ∧ σm.1 46 0 (48 * f + (N - 1)) = nI (200 + 12 * pp + p0) ∧ b ≤ N - 1 ∧ N - 1 < b + w pp p0 ∧ z = min (b + w pp p0) 48 ∧ (∀ u, b ≤ u → u ≤ N - 1 → σm.1 46 0 (48 * f + u) = σm.1 46 0 (48 * f + (N - 1))) ∧ (b = 0 ∨ σm.1 46 0 (48 * f + (b - 1)) ≠ σm.1 46 0 (48 * f + (N - 1))))) ∧ (∀ t, t < z → t < 48 → σm.1 46 0 (48 * f + t) ≠ NN ∧ ∀ p q, p < 12 → q < 12 → σm.1 46 0 (48 * f + t) = nI (200 + 12 * p + q) → ∃ b, b ≤ t ∧ t < b + w p q ∧ (∀ u, b ≤ u → u < z → u < 48 → u < b + w p q → σm.1 46 0 (48 * f + u) = σm.1 46 0 (48 * f + t)) ∧ (b = 0 ∨ σm.1 46 0 (48 * f + (b - 1)) ≠ σm.1 46 0 (48 * f + t)) ∧ ((48 ≤ b + w p q ∧ 48 ≤ z) ∨ (b + w p q < z ∧ σm.1 46 0 (48 * f + (b + w p q)) ≠ σm.1 46 0 (48 * f + t)) ∨ (b + w p q = z ∧ q = p0 ∧ w p q ≤ 9))) ∧ (z = 0 ∨ ∀ q, q < 12 → σm.1 46 0 (48 * f + (z - 1)) ≠ nI (200 + 12 * p0 + q)) ∧ (∀ t, N ≤ t → t < z → σm.1 46 0 (48 * f + t) = σm.1 46 0 (48 * f + (N - 1)) ∧ ∃ m, 200 ≤ m ∧ m < 400 ∧ σm.1 46 0 (48 * f + (N - 1)) = nI m) := by
        intro m q0 e1 hm112 hq0 hmq
        refine ⟨N, q0, by omega, by omega, hq0, fun z' hz' => ?_, Or.inr ⟨by omega, m, hcN.trans e1, ?_⟩, Or.inr (Or.inl ⟨by omega, rfl, m, e1, hmq⟩), fun t h1 h2 => ?_, Or.inr (fun q hq => ?_), fun t h1 h2 => by omega⟩
        · rcases hz' with ⟨_, h⟩ | ⟨_, ⟨m', j1, j2, j3⟩, _⟩
          · exact h
          · exfalso
            dsimp only at j3
            rw [hcN, e1, eq_nI (by omega) (by omega)] at j3
            omega
        · rcases hmq with h | h
          · exact Or.inl h
          · exact Or.inr (Or.inl h)
        · obtain ⟨w1, w2⟩ := well t h2
          refine ⟨w1, fun p q hp hq e => ?_⟩
          obtain ⟨b, b1, b2, b3, b4, b5⟩ := w2 p q hp hq e
          have hle : b + w p q ≤ N - 1 := by
            by_cases h : b + w p q ≤ N - 1
            · exact h
            · exfalso
              have := b3 (N - 1) (by omega) (by omega) (by omega)
              dsimp only at this
              rw [e1, e, eq_nI (by omega) (by omega)] at this
              omega
          exact ⟨b, b1, b2, fun u u1 u2 u3 u4 => b3 u u1 u3 u4, b4, Or.inr (Or.inl ⟨by omega, b5.resolve_left (by omega)⟩)⟩
        · rw [e1, ne_eq, eq_nI (by omega) (by omega)]
          omega
      rcases (gPl1 f (N - 1) hf20 (by omega)).1 with h | ⟨p, h1, h2⟩ | ⟨p, h1, h2⟩ | ⟨pp, q, h1, h2, h3, h4⟩
      · exact absurd h wn
      · exact noway p p h2 (by omega) h1 (Or.inl ⟨by omega, rfl⟩)
      · exact noway (100 + p) p h2 (by omega) h1 (Or.inr ⟨by omega, by omega, by omega⟩)
      · obtain ⟨b0, c1, c2, c3, c4, c5⟩ := wr pp q (by omega) (by omega) h4
        dsimp only at c3 c4 c5
        have w9 : w pp q ≤ 9 := by have := (hwX pp q (by omega) (by omega)).2.1; omega
        have hzrun : ∀ t, b0 ≤ t → t < min (b0 + w pp q) 48 → σm.1 46 0 (48 * f + t) = σm.1 46 0 (48 * f + (N - 1)) := fun t t1 t2 => c3 t t1 (by omega) (by omega)
        refine ⟨min (b0 + w pp q) 48, q, by omega, by omega, h2, fun z' hz' => ?_, Or.inr ⟨by omega, 200 + 12 * pp + q, ?_, Or.inr (Or.inr ⟨by omega, by omega, by omega⟩)⟩, Or.inr (Or.inr ⟨by omega, pp, b0, h1, w9, h4, c1, c2, rfl, fun u u1 u2 => c3 u u1 (by omega) (by omega), c4⟩), fun t t1 t2 => ?_, Or.inr (fun q' hq' => ?_), fun t t1 t2 => ⟨hzrun t (by omega) t2, 200 + 12 * pp + q, by omega, by omega, h4⟩⟩
        · rcases hz' with ⟨j1 | j1, _⟩ | ⟨_, _, j1, j2, j3, j4⟩
          · omega
          · exfalso
            exact j1 (200 + 12 * pp + q) (by omega) (by omega) (hcN.trans h4)
          · dsimp only at j3 j4
            rcases Nat.lt_trichotomy z' (min (b0 + w pp q) 48) with h | h | h
            · exfalso
              refine j4 (by omega) ?_
              rw [hco z' (by omega), hcN]
              exact hzrun z' (by omega) h
            · exact h
            · exfalso
              have h48 : b0 + w pp q < 48 := by omega
              have e := j3 (b0 + w pp q) (by omega) (by omega)
              rw [hco _ (by omega), hcN] at e
              exact c5.elim (fun h => by omega) (fun h => h e)
        · rw [hco _ (by omega), hzrun _ (by omega) (by omega)]
          exact h4
        · obtain ⟨w1, w2⟩ := well t t2
          refine ⟨w1, fun p q' hp hq' e => ?_⟩
          obtain ⟨b, b1, b2, b3, b4, b5⟩ := w2 p q' hp hq' e
          dsimp only at b3 b4 b5
          refine ⟨b, b1, b2, fun u u1 u2 u3 u4 => b3 u u1 u3 u4, b4, ?_⟩
          by_cases hcov : b + w p q' ≤ N - 1
          · exact Or.inr (Or.inl ⟨by omega, b5.resolve_left (by omega)⟩)
          · obtain ⟨e1, e2⟩ := runs_eq (co := fun t => σm.1 46 0 (48 * f + t)) (w := w) (N := N) (b0 := b0) (w0 := w pp q) (p := p) (q := q') (b := b) (t := t) (by omega) hN c1 c2 rfl c3 c4 t1 b1 b2 b3 b4 hcov
            rw [e, h4, eq_nI (by omega) (by omega)] at e1
            have ep : p = pp ∧ q' = q := by omega
            obtain ⟨ep1, ep2⟩ := ep
            subst ep1
            subst ep2
            subst e2
            by_cases h48 : 48 ≤ b + w p q'
            · exact Or.inl ⟨h48, by omega⟩
            · exact Or.inr (Or.inr ⟨by omega, rfl, w9⟩)
        · rw [hzrun _ (by omega) (by omega), h4, ne_eq, eq_nI (by omega) (by omega)]
          intro e
          have : pp = q := by omega
          subst this
          have := hwd pp (by omega)
          omega
  refine f_X7_replan (n := n) (G := G) (A := P) (N := N) (z := z) (p0 := p0) (hm := hm) (pb := pb) (ab := ab) (bb := bb) (on := on) (pD := pD) (aD := aD) (bD := bD) (pM := pM) (aM := aM) (bM := bM) (aH := aH) (bH := bH) (vD := vD) (vM := vM) (wh := wh) (lk := lk) (may := may) (w := w) (c := c) (s := s) hf20 hP hN hn hG (by omega) xP xN xG hcX x6 hdX hbX (fun g hgg => (hmX g hgg).1) ⟨hcdef, hsdef⟩ (fun p hp => (hlk2 p hp).1) x9 hwX (fun p hp => by obtain ⟨i1, i2, _, _, i3, i4, _⟩ := hH p hp; exact ⟨by omega, i2, i3, i4⟩) hmayX gRow hFF hNz hz48 hp0 hstX (fun ow L C hallX hrX => ?_)
  refine f_X8_planned (n := n) (G := G) (A := P) (N := N) (z := z) (p0 := p0) (hm := hm) (pb := pb) (ab := ab) (bb := bb) (on := on) (pD := pD) (aD := aD) (bD := bD) (pM := pM) (aM := aM) (bM := bM) (aH := aH) (bH := bH) (vD := vD) (vM := vM) (wh := wh) (lk := lk) (may := may) (w := w) (c := c) (s := s) (cn := fun t => (c t).toNatClampNeg) (sn := fun p t => (s p t).toNatClampNeg) (ln := fun p => (lk p).toNatClampNeg) hf20 hP hN hn hG (by omega) mP mN mG hcM m41 (fun k hk => (hdM k hk).1) hbM' (fun g hgg => (hmX g hgg).2.1) ⟨hcM2, hsM2⟩ hcn hsn (fun p hp => (hlk2 p hp).2.2) (fun p hp => (hlk2 p hp).2.1) x38 hwM (fun p hp => by obtain ⟨i1, i2, i3, i4, _⟩ := hH p hp; exact ⟨i1, i2, i3, i4⟩) (fun p t hp ht => hmayM p t) hNz hz48 hp0 hstM (fun L' C' hallM hrM => ?_)
  have hw1 : ∀ p q, p < 12 → q < 12 → 1 ≤ w p q := fun p q hp hq => (hwX p q hp hq).1
  have hL : ∀ t, z ≤ t → t ≤ 48 → ∀ p, p < P → L (12 * t + p) = L' (12 * t + p) := fun t h1 h2 => same_L hP hw1 hallX hallM hrX hrM 48 t h1 h2 (by omega)
  obtain ⟨ch, hchd⟩ : ∃ ch, ch = chL c s lk may hm w P L := ⟨_, rfl⟩
  have hch : ChOk ch w P z := by
    intro t p h1 h2 h3
    rw [hchd]
    rcases (chL_ok (c := c) (s := s) (lk := lk) (may := may) (hm := hm) (w := w) (L := L) (t := t) hP (by omega : p < 12)).2.2 with h | ⟨q, q1, q2, q3⟩
    · exact Or.inl h
    · have := hwX p q (by omega) (by omega)
      exact Or.inr ⟨q, q1, by omega, this.1, q3⟩
  have hche : ∀ t p, z ≤ t → t < 48 → p < P → chL c s lk may hm w P L' t p = ch t p := by
    intro t p h1 h2 h3
    rw [hchd]
    unfold chL
    have ev : v0P c s lk may hm L' t p = v0P c s lk may hm L t p := by
      unfold v0P
      rw [hL (t + 1) (by omega) (by omega) p h3]
    have eT : ∀ q, q < P → tF c w L' t p q = tF c w L t p q := by
      intro q hq
      unfold tF
      split
      · rw [hL (t + w p q) (by omega) (by omega) q hq]
      · rfl
    rw [ev, bWc_c eT]
  have hpc : ∀ t, z ≤ t → t < 48 → pcF (chL c s lk may hm w P L') w z p0 t = pcF ch w z p0 t := fun t h1 h2 => pcF_c hch hp0 hche h1 h2
  obtain ⟨T, hTd⟩ : ∃ T, T = wcF c N (z - N) + (if z < 48 then L (12 * z + p0) else nI 0) := ⟨_, rfl⟩
  have hT' : wcF c N (z - N) + (if z < 48 then L' (12 * z + p0) else nI 0) = T := by
    rw [hTd]
    by_cases h : z < 48
    · rw [if_pos h, if_pos h, hL z (by omega) (by omega) p0 hp0]
    · rw [if_neg h, if_neg h]
  rw [hT', ← hTd, ← hchd]
  refine ⟨rfl, ?_⟩
  have pcod : ∀ t, z ≤ t → t < 48 → pcF ch w z p0 t < 400 ∧ PCode P w (nI (pcF ch w z p0 t)) := fun t h1 h2 => pcF_code hP hch hp0 h1 h2
  obtain ⟨sx, hsx⟩ : ∃ sx, sx = fX6 σx f N z p0 c s ow L C ch w T := ⟨_, rfl⟩
  obtain ⟨sm, hsm⟩ : ∃ sm, sm = wI (wkM (mT (fM3 σm f N z c s) L' C') f z (pcF (chL c s lk may hm w P L') w z p0) 48) 47 0 f T := ⟨_, rfl⟩
  rw [← hsx, ← hsm]
  have xo : ∀ k, k ≠ 0 → k ≠ 9 → k ≠ 12 → k ≠ 16 → k ≠ 18 → k ≠ 19 → k ≠ 20 → k ≠ 21 → k ≠ 22 → sx.1 k = σx.1 k := by
    intro k h0 h9 h12 h16 h18 h19 h20 h21 h22
    funext i j
    rw [hsx]
    exact fX6_o (Or.inl h0) h12 h16 h18 h19 h20 h21 h22 (Or.inl h9)
  have x2 : sx.2 = σx.2 := by rw [hsx]; rfl
  have h9 : ∀ u j, j ≠ 10 → sx.1 9 u j = σx.1 9 u j := by
    intro u j hj
    rw [hsx]
    exact fX6_o (Or.inl (by omega)) (by omega) (by omega) (by omega) (by omega) (by omega) (by omega) (by omega) (Or.inr hj)
  have x0 : ∀ j, j ≠ 12 → sx.1 0 0 j = σx.1 0 0 j := by
    intro j hj
    rw [hsx]
    exact fX6_o (Or.inr hj) (by omega) (by omega) (by omega) (by omega) (by omega) (by omega) (by omega) (Or.inl (by omega))
  have x012 : sx.1 0 0 12 = σx.1 0 0 12 + nI 1 := by
    rw [hsx, fX6, sK_r, if_neg (by omega), fX5, wI_r, if_neg (by omega), sK_r, if_neg (by omega), mS_o ⟨by omega, by omega, by omega⟩, mX_o ⟨by omega, by omega⟩, fX1, sK_r, if_neg (by omega), wI_r, if_pos ⟨rfl, rfl, rfl⟩]
  have x910 : ∀ u, sx.1 9 u 10 = if u = f then T else σx.1 9 u 10 := by
    intro u
    rw [hsx, fX6, sK_r, if_neg (by omega), fX5, wI_r]
    by_cases h : u = f
    · rw [if_pos ⟨rfl, h, rfl⟩, if_pos h]
    · rw [if_neg (fun z => h z.2.1), if_neg h, sK_r, if_neg (by omega), mS_o ⟨by omega, by omega, by omega⟩, mX_o ⟨by omega, by omega⟩, fX1, sK_r, if_neg (by omega), wI_r, if_neg (by omega)]
  have x12 : ∀ u t, sx.1 12 u t = if u = f ∧ z ≤ t ∧ t < 48 then nI (pcF ch w z p0 t) else σx.1 12 u t := by
    intro u t
    rw [hsx, fX6, sK_r, if_neg (by omega), fX5, wI_r, if_neg (by omega), sK_r, if_pos rfl]
  have x16 : ∀ j, sx.1 16 0 j = if j < 576 ∧ N ≤ j % 48 ∧ (if z ≤ j % 48 then nI (pcF ch w z p0 (j % 48)) else σx.1 12 f (j % 48)) = nI (j / 48) then (fX1 σx f N).1 16 0 j + nI 1 else (fX1 σx f N).1 16 0 j := by
    intro j
    rw [hsx, fX6, sK_r, if_pos rfl]
    simp only [true_and]
  have x21 : ∀ j, sx.1 21 0 j = L j := by
    intro j
    rw [hsx, fX6, sK_r, if_neg (by omega), fX5, wI_r, if_neg (by omega), sK_r, if_neg (by omega), mS_21]
  have mo : ∀ k, k ≠ 30 → k ≠ 46 → k ≠ 47 → k ≠ 48 → k ≠ 61 → k ≠ 62 → k ≠ 63 → k ≠ 64 → sm.1 k = σm.1 k := by
    intro k h30 h46 h47 h48 h61 h62 h63 h64
    funext i j
    rw [hsm]
    exact sm_o h46 h48 (Or.inl h30) h61 h62 h63 h64 h47
  have m2 : sm.2 = σm.2 := by rw [hsm]; rfl
  have m30 : ∀ j, j ≠ 4 → sm.1 30 0 j = σm.1 30 0 j := by
    intro j hj
    rw [hsm]
    exact sm_o (by omega) (by omega) (Or.inr hj) (by omega) (by omega) (by omega) (by omega) (by omega)
  have m304 : sm.1 30 0 4 = σm.1 30 0 4 + nI 1 := by
    rw [hsm, wI_r, if_neg (by omega), wkM_o ⟨by omega, by omega⟩, mT_o ⟨by omega, by omega⟩, fM3, sK_r, if_neg (by omega), mM_o ⟨by omega, by omega⟩, fM1, sK_r, if_neg (by omega), sK_r, if_neg (by omega), wI_r, if_pos ⟨rfl, rfl, rfl⟩]
  have m47 : ∀ u, sm.1 47 0 u = if u = f then T else σm.1 47 0 u := by
    intro u
    rw [hsm, wI_r]
    by_cases h : u = f
    · rw [if_pos ⟨rfl, rfl, h⟩, if_pos h]
    · rw [if_neg (fun z => h z.2.2), if_neg h, wkM_o ⟨by omega, by omega⟩, mT_o ⟨by omega, by omega⟩, fM3_o (by omega) (by omega) (Or.inl (by omega)) (by omega) (by omega)]
  have m46 : ∀ u t, u < 20 → t < 48 → sm.1 46 0 (48 * u + t) = if u = f ∧ z ≤ t then nI (pcF ch w z p0 t) else σm.1 46 0 (48 * u + t) := by
    intro u t hu ht
    rw [hsm, wI_r, if_neg (by omega), wkM, sK_r, if_neg (by omega), sK_r, if_pos rfl]
    by_cases h : u = f ∧ z ≤ t
    · rw [if_pos (by omega), if_pos h, h.1, show 48 * f + t - 48 * f = t by omega, hpc t h.2 ht]
    · rw [if_neg (by omega), if_neg h, mT_o ⟨by omega, by omega⟩, fM3, sK_r, if_pos rfl]
      by_cases h2 : u = f ∧ N ≤ t
      · rw [if_pos (by omega), h2.1]
        exact (hrun t h2.2 (by omega)).1.symm
      · rw [if_neg (by omega), fM1, sK_r, if_neg (by omega), sK_r, if_pos rfl, if_neg (by omega)]
  have m48 : ∀ j, sm.1 48 0 j = if j < 576 ∧ z ≤ j % 48 ∧ pcF ch w z p0 (j % 48) = j / 48 then (fM1 σm f N).1 48 0 j + nI 1 else (fM1 σm f N).1 48 0 j := by
    intro j
    have e48 : (mT (fM3 σm f N z c s) L' C').1 48 0 j = (fM1 σm f N).1 48 0 j := by
      rw [mT_o ⟨by omega, by omega⟩, fM3, sK_r, if_neg (by omega), mM_o ⟨by omega, by omega⟩]
    rw [hsm, wI_r, if_neg (by omega), wkM, sK_r, if_pos rfl, e48]
    by_cases h : z ≤ j % 48
    · rw [hpc (j % 48) h (by omega)]
      by_cases h2 : j < 576 ∧ z ≤ j % 48 ∧ pcF ch w z p0 (j % 48) = j / 48
      · rw [if_pos ⟨rfl, h2.1, h2.2.1, by omega, h2.2.2⟩, if_pos h2]
      · rw [if_neg (fun q => h2 ⟨q.2.1, q.2.2.1, q.2.2.2.2⟩), if_neg h2]
    · rw [if_neg (fun q => h q.2.2.1), if_neg (fun q => h q.2.1)]
  have so : ∀ u t, u < 20 → t < 48 → sm.1 46 0 (48 * u + t) = σm.1 46 0 (48 * u + t) ∨ (u = f ∧ z ≤ t) := by
    intro u t hu ht
    rw [m46 u t hu ht]
    by_cases h : u = f ∧ z ≤ t
    · exact Or.inr h
    · exact Or.inl (if_neg h)
  refine ⟨⟨fun u => by rw [mo 43 (by omega) (by omega) (by omega) (by omega) (by omega) (by omega) (by omega) (by omega)], fun u t h => by rw [x12, if_neg (fun q => h ⟨q.1, by omega⟩)]⟩, ?_⟩
  refine ⟨?_, (by rw [xo 28 (by omega) (by omega) (by omega) (by omega) (by omega) (by omega) (by omega) (by omega) (by omega), mo 31 (by omega) (by omega) (by omega) (by omega) (by omega) (by omega) (by omega) (by omega)]; exact gRef), (by rw [xo 2 (by omega) (by omega) (by omega) (by omega) (by omega) (by omega) (by omega) (by omega) (by omega), xo 3 (by omega) (by omega) (by omega) (by omega) (by omega) (by omega) (by omega) (by omega) (by omega), xo 4 (by omega) (by omega) (by omega) (by omega) (by omega) (by omega) (by omega) (by omega) (by omega), mo 32 (by omega) (by omega) (by omega) (by omega) (by omega) (by omega) (by omega) (by omega), mo 33 (by omega) (by omega) (by omega) (by omega) (by omega) (by omega) (by omega) (by omega), mo 34 (by omega) (by omega) (by omega) (by omega) (by omega) (by omega) (by omega) (by omega)]; exact gHrs), (by rw [x0 _ (by omega), mo 35 (by omega) (by omega) (by omega) (by omega) (by omega) (by omega) (by omega) (by omega)]; exact gLck), (by rw [xo 5 (by omega) (by omega) (by omega) (by omega) (by omega) (by omega) (by omega) (by omega) (by omega), mo 36 (by omega) (by omega) (by omega) (by omega) (by omega) (by omega) (by omega) (by omega)]; exact gWay), (by rw [xo 6 (by omega) (by omega) (by omega) (by omega) (by omega) (by omega) (by omega) (by omega) (by omega), mo 37 (by omega) (by omega) (by omega) (by omega) (by omega) (by omega) (by omega) (by omega)]; exact gFar), gDist, (by rw [xo 7 (by omega) (by omega) (by omega) (by omega) (by omega) (by omega) (by omega) (by omega) (by omega), mo 57 (by omega) (by omega) (by omega) (by omega) (by omega) (by omega) (by omega) (by omega), mo 58 (by omega) (by omega) (by omega) (by omega) (by omega) (by omega) (by omega) (by omega)]; exact gShl), (by rw [x2, m2]; exact gCell), (GHome_c (fun _ => h9 _ _ (by omega)) (by rw [mo 38 (by omega) (by omega) (by omega) (by omega) (by omega) (by omega) (by omega) (by omega)]; exact gHome)), (GKeys_c (fun _ => h9 _ _ (by omega)) (by rw [mo 39 (by omega) (by omega) (by omega) (by omega) (by omega) (by omega) (by omega) (by omega)]; exact gKeys)), (by rw [xo 10 (by omega) (by omega) (by omega) (by omega) (by omega) (by omega) (by omega) (by omega) (by omega), mo 40 (by omega) (by omega) (by omega) (by omega) (by omega) (by omega) (by omega) (by omega)]; exact gLike), (GDuty_c (fun _ => h9 _ _ (by omega)) (by rw [xo 11 (by omega) (by omega) (by omega) (by omega) (by omega) (by omega) (by omega) (by omega) (by omega), mo 41 (by omega) (by omega) (by omega) (by omega) (by omega) (by omega) (by omega) (by omega), mo 42 (by omega) (by omega) (by omega) (by omega) (by omega) (by omega) (by omega) (by omega)]; exact gDuty)), (GGone_c (fun _ => h9 _ _ (by omega)) (by rw [mo 43 (by omega) (by omega) (by omega) (by omega) (by omega) (by omega) (by omega) (by omega)]; exact gGone)), (GBent_c (fun _ => h9 _ _ (by omega)) (fun _ => h9 _ _ (by omega)) (fun _ => h9 _ _ (by omega)) (fun _ => h9 _ _ (by omega)) (by rw [mo 44 (by omega) (by omega) (by omega) (by omega) (by omega) (by omega) (by omega) (by omega), mo 45 (by omega) (by omega) (by omega) (by omega) (by omega) (by omega) (by omega) (by omega)]; exact gBent)), ?_, ?_, ?_, (by rw [xo 14 (by omega) (by omega) (by omega) (by omega) (by omega) (by omega) (by omega) (by omega) (by omega), mo 49 (by omega) (by omega) (by omega) (by omega) (by omega) (by omega) (by omega) (by omega), mo 50 (by omega) (by omega) (by omega) (by omega) (by omega) (by omega) (by omega) (by omega)]; exact gMeet), (by rw [xo 14 (by omega) (by omega) (by omega) (by omega) (by omega) (by omega) (by omega) (by omega) (by omega), mo 51 (by omega) (by omega) (by omega) (by omega) (by omega) (by omega) (by omega) (by omega), mo 52 (by omega) (by omega) (by omega) (by omega) (by omega) (by omega) (by omega) (by omega), mo 53 (by omega) (by omega) (by omega) (by omega) (by omega) (by omega) (by omega) (by omega)]; exact gTly), (GKnow_c (fun _ => h9 _ _ (by omega)) (by rw [xo 13 (by omega) (by omega) (by omega) (by omega) (by omega) (by omega) (by omega) (by omega) (by omega), mo 54 (by omega) (by omega) (by omega) (by omega) (by omega) (by omega) (by omega) (by omega)]; exact gKnow)), (by rw [xo 23 (by omega) (by omega) (by omega) (by omega) (by omega) (by omega) (by omega) (by omega) (by omega)]; exact ⟨by rw [m30 _ (by omega)]; exact gFlt.1, by rw [m30 _ (by omega)]; exact gFlt.2⟩), ?_, ?_, ?_⟩
  · exact ⟨⟨by rw [xo 1 (by omega) (by omega) (by omega) (by omega) (by omega) (by omega) (by omega) (by omega) (by omega)]; exact xP, by rw [m30 _ (by omega)]; exact mP, hP⟩, ⟨by rw [xo 1 (by omega) (by omega) (by omega) (by omega) (by omega) (by omega) (by omega) (by omega) (by omega)]; exact xW, by rw [m30 _ (by omega)]; exact mW, hW⟩, ⟨by rw [x0 _ (by omega)]; exact xF, by rw [m30 _ (by omega)]; exact mF, hF⟩, ⟨by rw [x0 _ (by omega)]; exact xG, by rw [m30 _ (by omega)]; exact mG, hG⟩, ⟨by rw [x0 _ (by omega)]; exact xC, by rw [m30 _ (by omega)]; exact mC, hC⟩, ⟨by rw [x0 _ (by omega)]; exact xN, by rw [m30 _ (by omega)]; exact mN, hN⟩, ⟨by rw [x0 _ (by omega)]; exact xD, by rw [m30 _ (by omega)]; exact mD, hD⟩, ⟨by rw [x0 _ (by omega)]; exact xB, by rw [m30 _ (by omega)]; exact mB, hB⟩, by rw [x012, m304, hpl], hb0⟩
  · intro u t hu ht
    rw [x12, m46 u t hu ht]
    by_cases h : u = f ∧ z ≤ t
    · rw [if_pos ⟨h.1, h.2, ht⟩, if_pos h]
    · rw [if_neg (fun q => h ⟨q.1, q.2.1⟩), if_neg h]
      exact gPlan u t hu ht
  · intro u hu
    rw [x910, m47]
    by_cases h : u = f
    · rw [if_pos h, if_pos h]
    · rw [if_neg h, if_neg h]
      exact gCost u hu
  · intro j hj
    rw [x16, m48, hseat j hj]
    by_cases h : z ≤ j % 48
    · have := pcod (j % 48) h (by omega)
      rw [if_pos h]
      by_cases h2 : pcF ch w z p0 (j % 48) = j / 48
      · rw [if_pos ⟨hj, by omega, by rw [h2]⟩, if_pos ⟨hj, h, h2⟩]
      · rw [if_neg (fun q => h2 ((nI_eq (by omega) (by omega)).1 q.2.2)), if_neg (fun q => h2 q.2.2)]
    · have hX : ¬ (j < 576 ∧ N ≤ j % 48 ∧ σx.1 12 f (j % 48) = nI (j / 48)) := by
        intro q
        obtain ⟨e1, m, e2, e3, e4⟩ := hrun (j % 48) q.2.1 (by omega)
        have this := q.2.2
        rw [hco _ (by omega), e1, e4, eq_nI (by omega) (by omega)] at this
        omega
      rw [if_neg h, if_neg hX, if_neg (fun q => h q.2.1)]
  · intro p hp
    rw [x21]
    exact hrX p hp
  · intro u t hu ht
    rw [mo 43 (by omega) (by omega) (by omega) (by omega) (by omega) (by omega) (by omega) (by omega), m46 u t hu ht]
    obtain ⟨g1, g2⟩ := gPl1 u t hu ht
    by_cases h : u = f ∧ z ≤ t
    · rw [if_pos h]
      refine ⟨(pcod t h.2 ht).2, fun q => ?_⟩
      exfalso
      rcases q with q | q | ⟨q, _⟩
      · omega
      · omega
      · rw [h.1, hg] at q
        exact absurd q (by decide)
    · rw [if_neg h]
      exact ⟨g1, g2⟩
  · intro u hu hSu h43
    rw [mo 43 (by omega) (by omega) (by omega) (by omega) (by omega) (by omega) (by omega) (by omega)] at h43
    by_cases h : u = f
    · subst h
      have ee : ∀ t, t < z → t < 48 → sm.1 46 0 (48 * u + t) = σm.1 46 0 (48 * u + t) := by
        intro t h1 h2
        rw [m46 u t hf20 h2, if_neg (by omega)]
      refine PWell_new (ch := ch) (A := P) (t0 := z) (p0 := p0) hP hch hp0 hwd (fun t h1 h2 => ?_) (fun t h1 h2 => ?_) ?_
      · rw [m46 u t hf20 h2, if_pos ⟨rfl, h1⟩]
      · obtain ⟨w1, w2⟩ := hpre t h1 h2
        rw [ee t h1 h2]
        refine ⟨w1, fun p q hp hq e => ?_⟩
        obtain ⟨b, b1, b2, b3, b4, b5⟩ := w2 p q hp hq e
        refine ⟨b, b1, b2, fun v u1 u2 u3 u4 => ?_, ?_, ?_⟩
        · rw [ee v u2 u3]
          exact b3 v u1 u2 u3 u4
        · rcases b4 with b4 | b4
          · exact Or.inl b4
          · refine Or.inr ?_
            rw [ee _ (by omega) (by omega)]
            exact b4
        · rcases b5 with b5 | ⟨b5, b6⟩ | b5
          · exact Or.inl b5
          · refine Or.inr (Or.inl ⟨b5, ?_⟩)
            rw [ee _ b5 (by omega)]
            exact b6
          · exact Or.inr (Or.inr b5)
      · rcases hbd with h0 | h0
        · exact Or.inl h0
        · by_cases hz0 : z = 0
          · exact Or.inl hz0
          · refine Or.inr (fun q hq => ?_)
            rw [ee _ (by omega) (by omega)]
            exact h0 q hq
    · have hSu' : S u := hSu.resolve_right h
      have g := gWel u hu hSu' h43
      refine PWell_c (fun t ht => ?_) g
      rw [m46 u t (by omega) ht, if_neg (fun q => h q.1)]

