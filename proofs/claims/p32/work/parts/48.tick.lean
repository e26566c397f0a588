variable {κ : Nat → Nat → Nat → Prop}
/-- what the reference does in a tick, K behind it -/
def stM (dm : Nat) (σ : Mem) (K : Mem → Prop) : Prop := CalV IM (dm + 5) S_X8_tells [ar 30 0] σ (fun σ6 => CalV IM (dm + 5) S_X8_meets [ar 30 0] σ6 (fun σ7 => ((¬ ((σ7.1 30 0 2) + 1) = 48 → K (wI σ7 30 0 2 ((σ7.1 30 0 2) + 1))) ∧
  (((σ7.1 30 0 2) + 1) = 48 → CalV IM (dm + 5) S_X8_newDay [ar 30 0] (wI (wI σ7 30 0 2 ((σ7.1 30 0 2) + 1)) 30 0 3 ((σ7.1 30 0 3) + 1)) (fun σ9 => K σ9)))))
theorem R_tick1 {σx σm : Mem} {P W F G C N D : Nat} {w l : Nat → Nat → Nat} {dx dm : Nat} (R : RelAt κ σx σm P W F G C N D 1 w l) (hT : 48 * D + N + 1 < 1008) : Rv (fun K => CalV IX (dx + 6) S_X7_liveTick [ar 0 0] σx K) (fun sx => Rv (fun K => stM dm σm K) (fun sm => ∃ N' D', RelAt κ sx sm P W F G C N' D' 1 w l ∧ 48 * D' + N' = 48 * D + N + 1)) := by
  obtain ⟨gSc, gRef, gHrs, gLck, gWay, gFar, gDist, gShl, gCell, gHome, gKeys, gLike, gDuty, gGone, gBent, gPlan, gCost, gSeat, gMeet, gTly, gKnow, gFlt, gRow, gPln⟩ := R
  obtain ⟨⟨xP, mP, hP⟩, ⟨xW, mW, hW⟩, ⟨xF, mF, hF⟩, ⟨xG, mG, hG⟩, ⟨xC, mC, hC⟩, ⟨xN, mN, hN⟩, ⟨xD, mD, hD⟩, ⟨xB, mB, hB⟩, hpl, hb0⟩ := gSc
  -- what is told
  obtain ⟨tx, ⟨t2, tko, tk9, tk13, tkn⟩, kx⟩ := f_X7_tellFacts (d := dx + 3) hF hN hD xF xN xD (fun f hf => PC_x hP gPlan gPln hf N hN)
  obtain ⟨tm, ⟨s0, s0o, s02, tmo, tm2, tmn⟩, km⟩ := f_X8_tells (d := dm + 3) hF hC hN hD mF mC mN mD (fun f hf => PC_m hP gPln hf N hN)
  -- who meets
  obtain ⟨a, ha⟩ : ∃ a : Nat → Nat, a = fun g => (σm.1 50 0 (4 * g + 1)).toNatClampNeg := ⟨_, rfl⟩
  obtain ⟨b, hb⟩ : ∃ b : Nat → Nat, b = fun g => (σm.1 50 0 (4 * g + 2)).toNatClampNeg := ⟨_, rfl⟩
  obtain ⟨sn, hsn⟩ : ∃ sn : Nat → Int32, sn = fun g => seenF (σm.1 49 0 g) (σm.1 50 0 (4 * g)) (fun f => σm.1 46 0 (48 * f + N)) F := ⟨_, rfl⟩
  have hg : ∀ g, g < G → a g < b g ∧ b g ≤ 48 ∧ σm.1 50 0 (4 * g + 1) = nI (a g) ∧ σm.1 50 0 (4 * g + 2) = nI (b g) ∧ σx.1 14 g 2 = nI (a g) ∧ σx.1 14 g 3 = nI (b g) ∧ σx.1 14 g 0 = σm.1 49 0 g ∧ σx.1 14 g 1 = σm.1 50 0 (4 * g) ∧ sn g = seenF (σx.1 14 g 0) (σx.1 14 g 1) (fun f => σx.1 12 f N) 20 := by
    intro g hg
    obtain ⟨i0, if0, p, a', b', v, i1, i2, i3, i4, i5, j1, j2, j3, j4, k1, k2, k3, k4⟩ := gMeet g hg
    have e : sn g = seenF (σx.1 14 g 0) (σx.1 14 g 1) (fun f => σx.1 12 f N) 20 := by
      rw [hsn]
      dsimp only
      rw [seenF_c i0 (j1.trans k1.symm) 20 (fun f hf => gPlan f N (by omega) hN), show 20 = F + (20 - F) by omega, seenF_up if0]
    rw [ha, hb]
    dsimp only
    rw [k2, k3, nI_clamp (by omega), nI_clamp (by omega)]
    exact ⟨i2, i3, rfl, rfl, j2, j3, i0, j1.trans k1.symm, e⟩
  have e0 : tx.1 0 = σx.1 0 := tko 0 (by omega) (by omega) (by omega)
  have e14 : tx.1 14 = σx.1 14 := tko 14 (by omega) (by omega) (by omega)
  have e12 : tx.1 12 = σx.1 12 := tko 12 (by omega) (by omega) (by omega)
  have em : ∀ k, k ≠ 54 → k ≠ 55 → tm.1 k = σm.1 k := fun k h1 h2 => (tmo k h1).trans (s0o k h2)
  obtain ⟨um, hum, km2⟩ := f_X8_meets (d := dm + 3) (a := a) (b := b) (sn := sn) hN hF hG (by rw [em 30 (by omega) (by omega)]; exact mN) (by rw [em 30 (by omega) (by omega)]; exact mF) (by rw [em 30 (by omega) (by omega)]; exact mG) (fun g hgG => by
    obtain ⟨i1, i2, i3, i4, _⟩ := hg g hgG
    rw [em 50 (by omega) (by omega), em 49 (by omega) (by omega), em 46 (by omega) (by omega)]
    exact ⟨i1, i2, i3, i4, by rw [hsn]⟩)
  obtain ⟨ux, hux⟩ : ∃ ux, ux = tlX tx a b sn N G := ⟨_, rfl⟩
  have xo : ∀ k, k ≠ 27 → k ≠ 13 → k ≠ 9 → k ≠ 14 → ux.1 k = σx.1 k := by
    intro k h1 h2 h3 h4
    rw [← tko k h1 h2 h3]
    funext i j
    rw [hux, tlX, sK_r, if_neg h4]
  have mo : ∀ k, k ≠ 54 → k ≠ 55 → k ≠ 53 → k ≠ 51 → k ≠ 52 → um.1 k = σm.1 k := by
    intro k h1 h2 h3 h4 h5
    rw [← em k h1 h2]
    funext i j
    rw [hum, tlM, sK_r, if_neg h5, sK_r, if_neg h4, sK_r, if_neg h3]
  have x2 : ux.2 = σx.2 := by rw [hux]; exact t2
  have m2 : um.2 = σm.2 := by rw [hum]; exact tm2.trans s02
  have x9 : ∀ u j, j ≠ 11 → ux.1 9 u j = σx.1 9 u j := by
    intro u j hj
    rw [hux, tlX, sK_r, if_neg (by omega)]
    exact tk9 u j (Or.inl hj)
  have gKnow' : GKnow (ux.1 9) (ux.1 13) (um.1 54 0) C := by
    intro f k hf hk
    have q9 : ux.1 9 = tx.1 9 := by
      funext i j
      rw [hux, tlX, sK_r, if_neg (by omega)]
    have q13 : ux.1 13 = tx.1 13 := by
      funext i j
      rw [hux, tlX, sK_r, if_neg (by omega)]
    have q54 : um.1 54 = tm.1 54 := by
      funext i j
      rw [hum, tlM, sK_r, if_neg (by omega), sK_r, if_neg (by omega), sK_r, if_neg (by omega)]
    rw [q9, q13, q54]
    obtain ⟨g1, g2⟩ := gKnow f k hf hk
    by_cases hfF : f < F
    · obtain ⟨i1, i2, i3⟩ := tkn f k hfF hk
      obtain ⟨j1, j2⟩ := tmn f k hf hk
      have kn : ∀ u, u < 20 → (bt (σx.1 9 u 11) k = true ↔ σm.1 54 0 (12 * u + k) ≠ NN) := by
        intro u hu
        obtain ⟨q1, q2⟩ := gKnow u k hu hk
        cases hb : bt (σx.1 9 u 11) k with
        | true => exact ⟨fun _ => (q1 hb).2.2, fun _ => rfl⟩
        | false => exact ⟨fun z => (by cases z), fun z => absurd (q2 hb) z⟩
      cases hbt : bt (σx.1 9 f 11) k with
      | true =>
        obtain ⟨h1, h2, h3⟩ := g1 hbt
        have e1 := i3 (Or.inl hbt)
        have e2 := j2 (fun z => h3 z.1)
        have e3 := i1.2 (Or.inl hbt)
        rw [e1, e2, e3]
        exact ⟨fun _ => ⟨h1, h2, h3⟩, fun z => by cases z⟩
      | false =>
        have h0 := g2 hbt
        have same : TX σx F N f k → k < C ∧ ∃ u, u < F ∧ pr σm N u f k := by
          rintro ⟨p, u, z1, z2, z3, z4, z5⟩
          have zk := (kn u (by omega)).1 z5
          refine ⟨((gKnow u k (by omega) hk).1 z5).1, u, z2, ?_, p, z1, ?_, ?_, zk⟩
          · intro z
            rw [z, h0] at zk
            exact zk rfl
          · rw [← gPlan u N (by omega) hN]; exact z4
          · rw [← gPlan f N (by omega) hN]; exact z3
        have same' : (∃ u, u < F ∧ pr σm N u f k) → TX σx F N f k := by
          rintro ⟨u, z2, z0, p, z1, z4, z3, zk⟩
          exact ⟨p, u, z1, z2, by rw [gPlan f N (by omega) hN]; exact z3, by rw [gPlan u N (by omega) hN]; exact z4, (kn u (by omega)).2 zk⟩
        rcases Classical.em (TX σx F N f k) with h | h
        · obtain ⟨h1, h2⟩ := same h
          have e1 := i2 hbt h
          have e2 := j1 ⟨h0, hfF, h1, h2⟩
          have e3 := i1.2 (Or.inr h)
          rw [e1, e2, e3, Nat.mul_comm D 48]
          exact ⟨fun _ => ⟨h1, rfl, by rw [ne_eq, nI_NN (by omega)]; exact not_false⟩, fun z => by cases z⟩
        · have e2 := j2 (fun z => h (same' z.2.2.2))
          have e3 : bt (tx.1 9 f 11) k = false := by
            cases hb : bt (tx.1 9 f 11) k with
            | false => rfl
            | true =>
              rcases i1.1 hb with z | z
              · rw [hbt] at z; cases z
              · exact absurd z h
          rw [e2, e3]
          exact ⟨fun z => (by cases z), fun _ => h0⟩
    · obtain ⟨j1, j2⟩ := tmn f k hf hk
      rw [tk9 f 11 (Or.inr (by omega)), tk13 f k (by omega), j2 (fun z => hfF z.2.1)]
      exact ⟨g1, g2⟩
  have x14 : ∀ g j, ux.1 14 g j = if g < G ∧ a g ≤ N ∧ N < b g then (if j = 7 then σx.1 14 g 7 ||| sn g else if (j = 5 ∨ j = 6) ∧ sn g = σx.1 14 g 0 then σx.1 14 g j + nI 1 else σx.1 14 g j) else σx.1 14 g j := by
    intro g j
    rw [hux, tlX, sK_r, if_pos rfl, e14]
  have m53 : ∀ j, um.1 53 0 j = if j < G ∧ a j ≤ N ∧ N < b j then σm.1 53 0 j ||| sn j else σm.1 53 0 j := by
    intro j
    rw [hum, tlM, sK_r, if_neg (by omega), sK_r, if_neg (by omega), sK_r, if_pos rfl, em 53 (by omega) (by omega)]
    simp only [true_and]
  have m51 : ∀ j, um.1 51 0 j = if j < G ∧ (a j ≤ N ∧ N < b j) ∧ sn j = σm.1 49 0 j then σm.1 51 0 j + nI 1 else σm.1 51 0 j := by
    intro j
    rw [hum, tlM, sK_r, if_neg (by omega), sK_r, if_pos rfl, em 51 (by omega) (by omega), em 49 (by omega) (by omega)]
    simp only [true_and]
  have m52 : ∀ j, um.1 52 0 j = if j < G ∧ (a j ≤ N ∧ N < b j) ∧ sn j = σm.1 49 0 j then σm.1 52 0 j + nI 1 else σm.1 52 0 j := by
    intro j
    rw [hum, tlM, sK_r, if_pos rfl, em 52 (by omega) (by omega), em 49 (by omega) (by omega)]
    simp only [true_and]
  have gMeet' : GMeet (ux.1 14) (um.1 49 0) (um.1 50 0) P F G := by
    intro g hgG
    have q : ∀ j, j < 5 → ux.1 14 g j = σx.1 14 g j := by
      intro j hj
      have h7 : ¬ j = 7 := by omega
      have h5 : ¬ (j = 5 ∨ j = 6) := by omega
      rw [x14]
      simp [h7, h5]
    rw [q 0 (by omega), q 1 (by omega), q 2 (by omega), q 3 (by omega), q 4 (by omega), mo 49 (by omega) (by omega) (by omega) (by omega) (by omega), mo 50 (by omega) (by omega) (by omega) (by omega) (by omega)]
    exact gMeet g hgG
  have gTly' : GTly (ux.1 14) (um.1 51 0) (um.1 52 0) (um.1 53 0) := by
    intro g hg10
    obtain ⟨i1, i2, i3⟩ := gTly g hg10
    have y5 : ux.1 14 g 5 = if g < G ∧ (a g ≤ N ∧ N < b g) ∧ sn g = σx.1 14 g 0 then σx.1 14 g 5 + nI 1 else σx.1 14 g 5 := by
      rw [x14]
      grind
    have y6 : ux.1 14 g 6 = if g < G ∧ (a g ≤ N ∧ N < b g) ∧ sn g = σx.1 14 g 0 then σx.1 14 g 6 + nI 1 else σx.1 14 g 6 := by
      rw [x14]
      grind
    have y7 : ux.1 14 g 7 = if g < G ∧ a g ≤ N ∧ N < b g then σx.1 14 g 7 ||| sn g else σx.1 14 g 7 := by
      rw [x14]
      grind
    rw [y5, y6, y7, m51, m52, m53, i1, i2, i3]
    by_cases h : g < G
    · rw [(hg g h).2.2.2.2.2.2.1]
      exact ⟨rfl, rfl, rfl⟩
    · simp [h]
  have gPl1 : ∀ f t, f < 20 → t < 48 → PCode P w (um.1 46 0 (48 * f + t)) ∧ ((1 : Nat) = 0 ∨ F ≤ f ∨ (um.1 43 0 f = nI 1 ∧ N ≤ t) → um.1 46 0 (48 * f + t) = NN) := by
    rw [mo 46 (by omega) (by omega) (by omega) (by omega) (by omega), mo 43 (by omega) (by omega) (by omega) (by omega) (by omega)]
    exact gPln.1
  have gWel : ∀ f, f < F → (1 : Nat) = 1 → um.1 43 0 f = nI 0 → PWell w (fun t => um.1 46 0 (48 * f + t)) := by
    rw [mo 46 (by omega) (by omega) (by omega) (by omega) (by omega), mo 43 (by omega) (by omega) (by omega) (by omega) (by omega)]
    exact gPln.2
  have u0 : ∀ j, ux.1 0 0 j = σx.1 0 0 j := fun j => by rw [xo 0 (by omega) (by omega) (by omega) (by omega)]
  have u1 : ∀ j, ux.1 1 0 j = σx.1 1 0 j := fun j => by rw [xo 1 (by omega) (by omega) (by omega) (by omega)]
  have u30 : ∀ j, um.1 30 0 j = σm.1 30 0 j := fun j => by rw [mo 30 (by omega) (by omega) (by omega) (by omega) (by omega)]
  have gRef2 : GRef (ux.1 28 0) (um.1 31 0) := (by rw [xo 28 (by omega) (by omega) (by omega) (by omega), mo 31 (by omega) (by omega) (by omega) (by omega) (by omega)]; exact gRef)
  have gHrs2 : GHrs (ux.1 2 0) (ux.1 3 0) (ux.1 4 0) (um.1 32 0) (um.1 33 0) (um.1 34 0) P := (by rw [xo 2 (by omega) (by omega) (by omega) (by omega), xo 3 (by omega) (by omega) (by omega) (by omega), xo 4 (by omega) (by omega) (by omega) (by omega), mo 32 (by omega) (by omega) (by omega) (by omega) (by omega), mo 33 (by omega) (by omega) (by omega) (by omega) (by omega), mo 34 (by omega) (by omega) (by omega) (by omega) (by omega)]; exact gHrs)
  have gWay2 : GWay (ux.1 5 0) (um.1 36 0) P w := (by rw [xo 5 (by omega) (by omega) (by omega) (by omega), mo 36 (by omega) (by omega) (by omega) (by omega) (by omega)]; exact gWay)
  have gFar2 : GFar (ux.1 6 0) (um.1 37 0) P l := (by rw [xo 6 (by omega) (by omega) (by omega) (by omega), mo 37 (by omega) (by omega) (by omega) (by omega) (by omega)]; exact gFar)
  have gDist2 : GDist w l := gDist
  have gShl2 : GShl (ux.1 7) (um.1 57 0) (um.1 58 0) F := (by rw [xo 7 (by omega) (by omega) (by omega) (by omega), mo 57 (by omega) (by omega) (by omega) (by omega) (by omega), mo 58 (by omega) (by omega) (by omega) (by omega) (by omega)]; exact gShl)
  have gCell2 : GCell (ux.2 8) (um.2 59 0) := (by rw [x2, m2]; exact gCell)
  have gHome2 : GHome (ux.1 9) (um.1 38 0) P F := (by rw [mo 38 (by omega) (by omega) (by omega) (by omega) (by omega)]; exact GHome_c (fun f => x9 f _ (by omega)) gHome)
  have gKeys2 : GKeys (ux.1 9) (um.1 39 0) := (by rw [mo 39 (by omega) (by omega) (by omega) (by omega) (by omega)]; exact GKeys_c (fun f => x9 f _ (by omega)) gKeys)
  have gLike2 : GLike (ux.1 10) (um.1 40 0) F := (by rw [xo 10 (by omega) (by omega) (by omega) (by omega), mo 40 (by omega) (by omega) (by omega) (by omega) (by omega)]; exact gLike)
  have gDuty2 : GDuty (ux.1 9) (ux.1 11) (um.1 41 0) (um.1 42 0) P := (by rw [xo 11 (by omega) (by omega) (by omega) (by omega), mo 41 (by omega) (by omega) (by omega) (by omega) (by omega), mo 42 (by omega) (by omega) (by omega) (by omega) (by omega)]; exact GDuty_c (fun f => x9 f _ (by omega)) gDuty)
  have gGone2 : GGone (ux.1 9) (um.1 43 0) := (by rw [mo 43 (by omega) (by omega) (by omega) (by omega) (by omega)]; exact GGone_c (fun f => x9 f _ (by omega)) gGone)
  have gBent2 : GBent (ux.1 9) (um.1 44 0) (um.1 45 0) P := (by rw [mo 44 (by omega) (by omega) (by omega) (by omega) (by omega), mo 45 (by omega) (by omega) (by omega) (by omega) (by omega)]; exact GBent_c (fun f => x9 f _ (by omega)) (fun f => x9 f _ (by omega)) (fun f => x9 f _ (by omega)) (fun f => x9 f _ (by omega)) gBent)
  have gPlan2 : GPlan (ux.1 12) (um.1 46 0) := (by rw [xo 12 (by omega) (by omega) (by omega) (by omega), mo 46 (by omega) (by omega) (by omega) (by omega) (by omega)]; exact gPlan)
  have gCost2 : GCost (ux.1 9) (um.1 47 0) := (by rw [mo 47 (by omega) (by omega) (by omega) (by omega) (by omega)]; exact GCost_c (fun f => x9 f _ (by omega)) gCost)
  have gSeat2 : GSeat (ux.1 16 0) (um.1 48 0) := (by rw [xo 16 (by omega) (by omega) (by omega) (by omega), mo 48 (by omega) (by omega) (by omega) (by omega) (by omega)]; exact gSeat)
  have gMeet2 : GMeet (ux.1 14) (um.1 49 0) (um.1 50 0) P F G := gMeet'
  have gTly2 : GTly (ux.1 14) (um.1 51 0) (um.1 52 0) (um.1 53 0) := gTly'
  have gKnow2 : GKnow (ux.1 9) (ux.1 13) (um.1 54 0) C := gKnow'
  have gFlt2 : GFlt (ux.1 23 0) (um.1 30 0) := (by rw [xo 23 (by omega) (by omega) (by omega) (by omega), mo 30 (by omega) (by omega) (by omega) (by omega) (by omega)]; exact gFlt)
  have gRow2 : GRow (ux.1 21 0) := (by rw [xo 21 (by omega) (by omega) (by omega) (by omega)]; exact gRow)
  have gLck2 : GLck (ux.1 0 0 13) (um.1 35 0) P := by rw [u0, mo 35 (by omega) (by omega) (by omega) (by omega) (by omega)]; exact gLck
  have tail : ∀ {Pz : Mem → Prop}, Rv (fun K => (¬ N + 1 = 48 → K (wI um 30 0 2 (nI (N + 1)))) ∧ (N + 1 = 48 → CalV IM (dm + 5) S_X8_newDay [ar 30 0] (wI (wI um 30 0 2 (nI (N + 1))) 30 0 3 (nI (D + 1))) (fun s => K s))) Pz → Rv (fun K => stM dm σm K) Pz := by
    intro Pz hz
    refine Rv_map (fun K z => km _ ?_) hz
    refine km2 _ ?_
    rw [u30 2, u30 3, mN, mD]
    simp (disch := omega) only [lit_0, lit_1, lit_2, lit_3, lit_4, lit_5, lit_6, lit_7, lit_8, lit_9, lit_10, lit_11, lit_12, lit_17, lit_20, lit_30, lit_31, lit_32, lit_47, lit_48, lit_60, lit_99, lit_100, lit_144, lit_200, lit_240, lit_300, lit_576, lit_960, lit_1008, lit_1000000, lit_100000000, true_implies, not_true_eq_false, false_implies, not_false_eq_true, true_and, and_true, neg_1, nI_add, pk_mul, nI_clamp, le_nI, lt_nI, eq_nI, vp_nI, nI_NN, NN_nI, NN_lt, NN_le, lt_NN, le_NN, nI_add]
    exact z
  refine Rv_map (fun K => x_X7_liveTick) ?_
  refine Rv_cV ⟨tx, ?_, kx⟩
  refine Rv_KV ?_
  have e0' : tx.1 0 0 15 = nI D := by rw [e0]; exact xD
  refine f_X7_liveloop (a := a) (b := b) (sn := sn) hN hG (by rw [e0]; exact xN) (by rw [e0]; exact xG) (fun g hgG => by
    obtain ⟨i1, i2, _, _, i5, i6, _, _, i9⟩ := hg g hgG
    rw [e14, e12]
    exact ⟨by omega, i2, i5, i6, i9⟩) ?_
  rw [← hux, e0', nI_add]
  by_cases h48 : N + 1 = 48
  · refine Rn_map (fun K q => ⟨fun z => absurd h48 z, fun _ => q⟩) ?_
    have RD : RelD (wI (wI ux 0 0 14 (nI (N + 1))) 0 0 15 (nI (D + 1))) (wI (wI um 30 0 2 (nI (N + 1))) 30 0 3 (nI (D + 1))) P F G C w l := ⟨gRef2, gHrs2, gWay2, gFar2, gDist2, gShl2, gCell2, gHome2, gKeys2, gLike2, gDuty2, gGone2, gBent2, gPlan2, gCost2, gSeat2, gMeet2, gTly2, gKnow2, gFlt2, gRow2, fun f t hf hf2 ht => (gPl1 f t hf2 ht).2 (Or.inr (Or.inl hf))⟩
    have hd := R_day (dx := dx) (dm := dm) (W := W) (D := D + 1) (σx := wI (wI ux 0 0 14 (nI (N + 1))) 0 0 15 (nI (D + 1))) (σm := wI (wI um 30 0 2 (nI (N + 1))) 30 0 3 (nI (D + 1))) ⟨⟨(u1 5).trans xP, (u30 5).trans mP, hP⟩, ⟨(u1 6).trans xW, (u30 10).trans mW, hW⟩, ⟨(u0 9).trans xF, (u30 13).trans mF, hF⟩, ⟨(u0 10).trans xG, (u30 25).trans mG, hG⟩, ⟨(u0 11).trans xC, (u30 31).trans mC, hC⟩, ⟨rfl, rfl, by omega⟩, ⟨rfl, rfl, by omega⟩, ⟨(u0 16).trans xB, (u30 1).trans mB, hB⟩, ((u0 12).trans hpl).trans (u30 4).symm, ⟨fun h => by omega, hb0.2⟩⟩ RD
    refine Rn_cI (Rn_mono hd ?_)
    rintro rx sx hm
    refine Rn_ret ⟨rfl, ?_⟩
    refine tail ?_
    refine Rv_map (fun K q => ⟨fun z => absurd h48 z, fun _ => q⟩) ?_
    refine Rv_cV (Rv_mono hm ?_)
    rintro sm ⟨_, R1⟩
    exact Rv_ret ⟨0, D + 1, R1, by omega⟩
  · refine Rn_map (fun K q => ⟨fun _ => q, fun z => absurd z h48⟩) ?_
    refine Rn_ret ⟨rfl, ?_⟩
    refine tail ?_
    refine Rv_map (fun K q => ⟨fun _ => q, fun z => absurd z h48⟩) ?_
    refine Rv_ret ⟨N + 1, D, ?_, by omega⟩
    refine ⟨⟨⟨(u1 5).trans xP, (u30 5).trans mP, hP⟩, ⟨(u1 6).trans xW, (u30 10).trans mW, hW⟩, ⟨(u0 9).trans xF, (u30 13).trans mF, hF⟩, ⟨(u0 10).trans xG, (u30 25).trans mG, hG⟩, ⟨(u0 11).trans xC, (u30 31).trans mC, hC⟩, ⟨rfl, rfl, by omega⟩, ⟨(u0 15).trans xD, (u30 3).trans mD, hD⟩, ⟨(u0 16).trans xB, (u30 1).trans mB, hB⟩, ((u0 12).trans hpl).trans (u30 4).symm, ⟨fun h => by omega, hb0.2⟩⟩, gRef2, gHrs2, gLck2, gWay2, gFar2, gDist2, gShl2, gCell2, gHome2, gKeys2, gLike2, gDuty2, gGone2, gBent2, gPlan2, gCost2, gSeat2, gMeet2, gTly2, gKnow2, gFlt2, gRow2, fun f t hf ht => ⟨(gPl1 f t hf ht).1, fun z => (gPl1 f t hf ht).2 (z.imp_right (fun z => z.imp_right (fun z => ⟨z.1, by omega⟩)))⟩, gWel⟩
theorem R_tickloop {P W F G C T : Nat} {w l : Nat → Nat → Nat} {dx dm : Nat} (hT48 : T ≤ 48) : ∀ n k N D σx σm, n + k = T → 48 * D + N + n < 1008 → RelAt κ σx σm P W F G C N D 1 w l → Rn (fun Q => J IX M_X7_tick (dx + 7) 46 [(0, ar 0 0), (1, ai (nI T)), (2, ai (nI k))] [] σx Q) (fun rx sx => Rn (fun Q => J IM M_X8_tick (dm + 6) 52 [(0, ar 30 0), (1, ai (nI T)), (2, ai (nI k))] [] σm Q) (fun rm sm => ∃ y, rx = some (ai y) ∧ rm = some (ai y) ∧ Rel κ sx sm)) := by
  intro n
  induction n with
  | zero =>
    intro k N D σx σm hk hT R
    have R0 := R
    obtain ⟨gSc, _⟩ := R
    obtain ⟨_, _, _, _, _, ⟨xN, mN, _⟩, _⟩ := gSc
    refine Rn_map (fun Q => x_X7_tick_46) ?_
    simp (disch := omega) only [lit_0, lit_1, lit_2, lit_3, lit_4, lit_5, lit_6, lit_7, lit_8, lit_9, lit_10, lit_11, lit_12, lit_17, lit_20, lit_30, lit_31, lit_32, lit_47, lit_48, lit_60, lit_99, lit_100, lit_144, lit_200, lit_240, lit_300, lit_576, lit_960, lit_1008, lit_1000000, lit_100000000, true_implies, not_true_eq_false, false_implies, not_false_eq_true, true_and, and_true, neg_1, nI_add, pk_mul, nI_clamp, le_nI, lt_nI, eq_nI, vp_nI, nI_NN, NN_nI, NN_lt, NN_le, lt_NN, le_NN, xN]
    repeat' (first | refine Rn_and (by first | omega | assumption) ?_ | refine Rn_pos (by first | omega | assumption) ?_ | refine Rn_neg (by first | omega | assumption) ?_ | refine Rn_pos' (by first | omega | assumption) ?_ | refine Rn_neg' (by first | omega | assumption) ?_ | fail)
    refine Rn_ret ?_
    refine Rn_map (fun Q => x_X8_tick_52) ?_
    refine Rn_map (fun Q q => ⟨fun _ => q, fun z => absurd (by rw [le_nI (by omega) (by omega)]; omega) z⟩) ?_
    rw [mN]
    exact Rn_ret ⟨_, rfl, rfl, _, _, _, _, _, _, _, _, _, _, R0⟩
  | succ n ih =>
    intro k N D σx σm hk hT R
    refine Rn_map (fun Q => x_X7_tick_46) ?_
    simp (disch := omega) only [lit_0, lit_1, lit_2, lit_3, lit_4, lit_5, lit_6, lit_7, lit_8, lit_9, lit_10, lit_11, lit_12, lit_17, lit_20, lit_30, lit_31, lit_32, lit_47, lit_48, lit_60, lit_99, lit_100, lit_144, lit_200, lit_240, lit_300, lit_576, lit_960, lit_1008, lit_1000000, lit_100000000, true_implies, not_true_eq_false, false_implies, not_false_eq_true, true_and, and_true, neg_1, nI_add, pk_mul, nI_clamp, le_nI, lt_nI, eq_nI, vp_nI, nI_NN, NN_nI, NN_lt, NN_le, lt_NN, le_NN]
    repeat' (first | refine Rn_and (by first | omega | assumption) ?_ | refine Rn_pos (by first | omega | assumption) ?_ | refine Rn_neg (by first | omega | assumption) ?_ | refine Rn_pos' (by first | omega | assumption) ?_ | refine Rn_neg' (by first | omega | assumption) ?_ | fail)
    refine Rn_cV (Rv_mono (R_tick1 (dm := dm) R (by omega)) ?_)
    rintro sx1 ⟨sm1, ⟨N', D', R1, e⟩, hkm⟩
    refine Rn_mono (ih (k + 1) N' D' sx1 sm1 (by omega) (by omega) R1) ?_
    rintro rx sx ⟨rm, sm, hp, hk2⟩
    refine Rn_map (fun Q => x_X8_tick_52) ?_
    refine Rn_map (fun Q q => ⟨fun z => absurd z (by rw [le_nI (by omega) (by omega)]; omega), fun _ => q⟩) ?_
    refine ⟨rm, sm, hp, fun Q q => ?_⟩
    refine hkm (fun s => J IM M_X8_tick (dm + 6) 52 [(0, ar 30 0), (1, ai (nI T)), (2, ai (nI k + 1))] [] s Q) ?_
    show J IM M_X8_tick (dm + 6) 52 [(0, ar 30 0), (1, ai (nI T)), (2, ai (nI k + nI 1))] [] sm1 Q
    rw [nI_add]
    exact hk2 Q q
theorem div48 {a : Nat} (h : a < 2 ^ 20) : nI a / nI 48 = nI (a / 48) := (Int32.ofNat_div (by omega) (by omega)).symm
theorem R_tick {σx σm : Mem} {dx dm : Nat} {p0 : Int32} (R : Rel κ σx σm) : Rn (fun K => CalI IX (dx + 7) S_X7_tick [ar 0 0, ai p0] σx K) (fun r sx => Rn (fun K => CalI IM (dm + 6) S_X8_tick [ar 30 0, ai p0] σm K) (fun r' sm => Agree κ r r' sx sm)) := by
  have R0 := R
  obtain ⟨P, W, F, G, C, N, D, B, w, l, gSc, gRef, gHrs, gLck, gWay, gFar, gDist, gShl, gCell, gHome, gKeys, gLike, gDuty, gGone, gBent, gPlan, gCost, gSeat, gMeet, gTly, gKnow, gFlt, gRow, gPln⟩ := R
  have hSc0 := gSc
  obtain ⟨⟨xP, mP, hP⟩, ⟨xW, mW, hW⟩, ⟨xF, mF, hF⟩, ⟨xG, mG, hG⟩, ⟨xC, mC, hC⟩, ⟨xN, mN, hN⟩, ⟨xD, mD, hD⟩, ⟨xB, mB, hB⟩, hpl, hb0⟩ := hSc0
  by_cases h1 : p0.toInt < 1
  · refine Rn_map (fun K => x_X7_tick) ?_
    try simp (disch := omega) only [lit_0, lit_1, lit_2, lit_3, lit_4, lit_5, lit_6, lit_7, lit_8, lit_9, lit_10, lit_11, lit_12, lit_17, lit_20, lit_30, lit_31, lit_32, lit_47, lit_48, lit_60, lit_99, lit_100, lit_144, lit_200, lit_240, lit_300, lit_576, lit_960, lit_1008, lit_1000000, lit_100000000, true_implies, not_true_eq_false, false_implies, not_false_eq_true, true_and, and_true, neg_1, nI_add, pk_mul, nI_clamp, vp_nI, tI_lt, tI_le, tI_eq, tI_nI, tI_NN, tI_pred, xP, xW, xF, xG, xC, xN, xD, xB, pk_sub, tI_sub, Nat.add_sub_cancel_left, Nat.add_sub_cancel, wI_same]
    repeat' (first | refine Rn_and (by first | omega | assumption) ?_ | refine Rn_pos (by first | omega | assumption) ?_ | refine Rn_neg (by first | omega | assumption) ?_ | refine Rn_pos' (by first | omega | assumption) ?_ | refine Rn_neg' (by first | omega | assumption) ?_ | refine Rn_if (fun _ => ?_) (fun _ => ?_) | refine Rn_if' (fun _ => ?_) (fun _ => ?_) | fail)
    all_goals (refine Rn_ret ?_; refine Rn_map (fun K => x_X8_tick) ?_)
    all_goals try simp (disch := omega) only [lit_0, lit_1, lit_2, lit_3, lit_4, lit_5, lit_6, lit_7, lit_8, lit_9, lit_10, lit_11, lit_12, lit_17, lit_20, lit_30, lit_31, lit_32, lit_47, lit_48, lit_60, lit_99, lit_100, lit_144, lit_200, lit_240, lit_300, lit_576, lit_960, lit_1008, lit_1000000, lit_100000000, true_implies, not_true_eq_false, false_implies, not_false_eq_true, true_and, and_true, neg_1, nI_add, pk_mul, nI_clamp, vp_nI, tI_lt, tI_le, tI_eq, tI_nI, tI_NN, tI_pred, mP, mW, mF, mG, mC, mN, mD, mB, pk_sub, tI_sub, Nat.add_sub_cancel_left, Nat.add_sub_cancel, wI_same]
    all_goals repeat' (first | refine Rn_and (by first | omega | assumption) ?_ | refine Rn_pos (by first | omega | assumption) ?_ | refine Rn_neg (by first | omega | assumption) ?_ | refine Rn_pos' (by first | omega | assumption) ?_ | refine Rn_neg' (by first | omega | assumption) ?_ | refine Rn_if (fun _ => ?_) (fun _ => ?_) | refine Rn_if' (fun _ => ?_) (fun _ => ?_) | fail)
    all_goals first
      | exact Rn_ret (Agr rfl R0)
      | exact Rn_ret (Agr rfl (Rel_ref R0 1)) | exact Rn_ret (Agr rfl (Rel_ref R0 2)) | exact Rn_ret (Agr rfl (Rel_ref R0 3)) | exact Rn_ret (Agr rfl (Rel_ref R0 4)) | exact Rn_ret (Agr rfl (Rel_ref R0 5)) | exact Rn_ret (Agr rfl (Rel_ref R0 6)) | exact Rn_ret (Agr rfl (Rel_ref R0 7))
      | (exfalso; omega)
  by_cases h2 : 48 < p0.toInt
  · refine Rn_map (fun K => x_X7_tick) ?_
    try simp (disch := omega) only [lit_0, lit_1, lit_2, lit_3, lit_4, lit_5, lit_6, lit_7, lit_8, lit_9, lit_10, lit_11, lit_12, lit_17, lit_20, lit_30, lit_31, lit_32, lit_47, lit_48, lit_60, lit_99, lit_100, lit_144, lit_200, lit_240, lit_300, lit_576, lit_960, lit_1008, lit_1000000, lit_100000000, true_implies, not_true_eq_false, false_implies, not_false_eq_true, true_and, and_true, neg_1, nI_add, pk_mul, nI_clamp, vp_nI, tI_lt, tI_le, tI_eq, tI_nI, tI_NN, tI_pred, xP, xW, xF, xG, xC, xN, xD, xB, pk_sub, tI_sub, Nat.add_sub_cancel_left, Nat.add_sub_cancel, wI_same]
    repeat' (first | refine Rn_and (by first | omega | assumption) ?_ | refine Rn_pos (by first | omega | assumption) ?_ | refine Rn_neg (by first | omega | assumption) ?_ | refine Rn_pos' (by first | omega | assumption) ?_ | refine Rn_neg' (by first | omega | assumption) ?_ | refine Rn_if (fun _ => ?_) (fun _ => ?_) | refine Rn_if' (fun _ => ?_) (fun _ => ?_) | fail)
    all_goals (refine Rn_ret ?_; refine Rn_map (fun K => x_X8_tick) ?_)
    all_goals try simp (disch := omega) only [lit_0, lit_1, lit_2, lit_3, lit_4, lit_5, lit_6, lit_7, lit_8, lit_9, lit_10, lit_11, lit_12, lit_17, lit_20, lit_30, lit_31, lit_32, lit_47, lit_48, lit_60, lit_99, lit_100, lit_144, lit_200, lit_240, lit_300, lit_576, lit_960, lit_1008, lit_1000000, lit_100000000, true_implies, not_true_eq_false, false_implies, not_false_eq_true, true_and, and_true, neg_1, nI_add, pk_mul, nI_clamp, vp_nI, tI_lt, tI_le, tI_eq, tI_nI, tI_NN, tI_pred, mP, mW, mF, mG, mC, mN, mD, mB, pk_sub, tI_sub, Nat.add_sub_cancel_left, Nat.add_sub_cancel, wI_same]
    all_goals repeat' (first | refine Rn_and (by first | omega | assumption) ?_ | refine Rn_pos (by first | omega | assumption) ?_ | refine Rn_neg (by first | omega | assumption) ?_ | refine Rn_pos' (by first | omega | assumption) ?_ | refine Rn_neg' (by first | omega | assumption) ?_ | refine Rn_if (fun _ => ?_) (fun _ => ?_) | refine Rn_if' (fun _ => ?_) (fun _ => ?_) | fail)
    all_goals first
      | exact Rn_ret (Agr rfl R0)
      | exact Rn_ret (Agr rfl (Rel_ref R0 1)) | exact Rn_ret (Agr rfl (Rel_ref R0 2)) | exact Rn_ret (Agr rfl (Rel_ref R0 3)) | exact Rn_ret (Agr rfl (Rel_ref R0 4)) | exact Rn_ret (Agr rfl (Rel_ref R0 5)) | exact Rn_ret (Agr rfl (Rel_ref R0 6)) | exact Rn_ret (Agr rfl (Rel_ref R0 7))
      | (exfalso; omega)
  obtain ⟨n, hn, rfl⟩ := of_tI (x := p0) (n := 49) (by omega) (by omega)
  rw [nI_toInt (by omega)] at h1 h2
  by_cases hB0 : B = 0
  · refine Rn_map (fun K => x_X7_tick) ?_
    simp (disch := omega) only [lit_0, lit_1, lit_2, lit_3, lit_4, lit_5, lit_6, lit_7, lit_8, lit_9, lit_10, lit_11, lit_12, lit_17, lit_20, lit_30, lit_31, lit_32, lit_47, lit_48, lit_60, lit_99, lit_100, lit_144, lit_200, lit_240, lit_300, lit_576, lit_960, lit_1008, lit_1000000, lit_100000000, true_implies, not_true_eq_false, false_implies, not_false_eq_true, true_and, and_true, neg_1, nI_add, pk_mul, nI_clamp, le_nI, lt_nI, eq_nI, vp_nI, nI_NN, NN_nI, NN_lt, NN_le, lt_NN, le_NN, xP, xW, xF, xG, xC, xN, xD, xB]
    repeat' (first | refine Rn_and (by first | omega | assumption) ?_ | refine Rn_pos (by first | omega | assumption) ?_ | refine Rn_neg (by first | omega | assumption) ?_ | refine Rn_pos' (by first | omega | assumption) ?_ | refine Rn_neg' (by first | omega | assumption) ?_ | fail)
    refine Rn_ret ?_
    refine Rn_map (fun K => x_X8_tick) ?_
    simp (disch := omega) only [lit_0, lit_1, lit_2, lit_3, lit_4, lit_5, lit_6, lit_7, lit_8, lit_9, lit_10, lit_11, lit_12, lit_17, lit_20, lit_30, lit_31, lit_32, lit_47, lit_48, lit_60, lit_99, lit_100, lit_144, lit_200, lit_240, lit_300, lit_576, lit_960, lit_1008, lit_1000000, lit_100000000, true_implies, not_true_eq_false, false_implies, not_false_eq_true, true_and, and_true, neg_1, nI_add, pk_mul, nI_clamp, le_nI, lt_nI, eq_nI, vp_nI, nI_NN, NN_nI, NN_lt, NN_le, lt_NN, le_NN, mP, mW, mF, mG, mC, mN, mD, mB, div48]
    repeat' (first | refine Rn_and (by first | omega | assumption) ?_ | refine Rn_pos (by first | omega | assumption) ?_ | refine Rn_neg (by first | omega | assumption) ?_ | refine Rn_pos' (by first | omega | assumption) ?_ | refine Rn_neg' (by first | omega | assumption) ?_ | fail)
    exact Rn_ret (Agr rfl (Rel_ref R0 6))
  · have eB : B = 1 := by omega
    subst eB
    by_cases hr : 48 * D + N + n < 1008
    · refine Rn_map (fun K => x_X7_tick) ?_
      simp (disch := omega) only [lit_0, lit_1, lit_2, lit_3, lit_4, lit_5, lit_6, lit_7, lit_8, lit_9, lit_10, lit_11, lit_12, lit_17, lit_20, lit_30, lit_31, lit_32, lit_47, lit_48, lit_60, lit_99, lit_100, lit_144, lit_200, lit_240, lit_300, lit_576, lit_960, lit_1008, lit_1000000, lit_100000000, true_implies, not_true_eq_false, false_implies, not_false_eq_true, true_and, and_true, neg_1, nI_add, pk_mul, nI_clamp, le_nI, lt_nI, eq_nI, vp_nI, nI_NN, NN_nI, NN_lt, NN_le, lt_NN, le_NN, xP, xW, xF, xG, xC, xN, xD, xB]
      repeat' (first | refine Rn_and (by first | omega | assumption) ?_ | refine Rn_pos (by first | omega | assumption) ?_ | refine Rn_neg (by first | omega | assumption) ?_ | refine Rn_pos' (by first | omega | assumption) ?_ | refine Rn_neg' (by first | omega | assumption) ?_ | fail)
      refine Rn_KQ ?_
      refine Rn_mono (R_tickloop (dm := dm) (T := n) (by omega) n 0 N D σx σm (by omega) (by omega) ⟨gSc, gRef, gHrs, gLck, gWay, gFar, gDist, gShl, gCell, gHome, gKeys, gLike, gDuty, gGone, gBent, gPlan, gCost, gSeat, gMeet, gTly, gKnow, gFlt, gRow, gPln⟩) ?_
      rintro rx sx ⟨rm, sm, ⟨y, e1, e2, R1⟩, hk⟩
      refine ⟨y, e1, ?_⟩
      refine Rn_map (fun K => x_X8_tick) ?_
      simp (disch := omega) only [lit_0, lit_1, lit_2, lit_3, lit_4, lit_5, lit_6, lit_7, lit_8, lit_9, lit_10, lit_11, lit_12, lit_17, lit_20, lit_30, lit_31, lit_32, lit_47, lit_48, lit_60, lit_99, lit_100, lit_144, lit_200, lit_240, lit_300, lit_576, lit_960, lit_1008, lit_1000000, lit_100000000, true_implies, not_true_eq_false, false_implies, not_false_eq_true, true_and, and_true, neg_1, nI_add, pk_mul, nI_clamp, le_nI, lt_nI, eq_nI, vp_nI, nI_NN, NN_nI, NN_lt, NN_le, lt_NN, le_NN, mP, mW, mF, mG, mC, mN, mD, mB, div48]
      repeat' (first | refine Rn_and (by first | omega | assumption) ?_ | refine Rn_pos (by first | omega | assumption) ?_ | refine Rn_neg (by first | omega | assumption) ?_ | refine Rn_pos' (by first | omega | assumption) ?_ | refine Rn_neg' (by first | omega | assumption) ?_ | fail)
      refine Rn_KQ ?_
      exact ⟨rm, sm, ⟨y, e2, Agr rfl R1⟩, hk⟩
    · refine Rn_map (fun K => x_X7_tick) ?_
      simp (disch := omega) only [lit_0, lit_1, lit_2, lit_3, lit_4, lit_5, lit_6, lit_7, lit_8, lit_9, lit_10, lit_11, lit_12, lit_17, lit_20, lit_30, lit_31, lit_32, lit_47, lit_48, lit_60, lit_99, lit_100, lit_144, lit_200, lit_240, lit_300, lit_576, lit_960, lit_1008, lit_1000000, lit_100000000, true_implies, not_true_eq_false, false_implies, not_false_eq_true, true_and, and_true, neg_1, nI_add, pk_mul, nI_clamp, le_nI, lt_nI, eq_nI, vp_nI, nI_NN, NN_nI, NN_lt, NN_le, lt_NN, le_NN, xP, xW, xF, xG, xC, xN, xD, xB]
      repeat' (first | refine Rn_and (by first | omega | assumption) ?_ | refine Rn_pos (by first | omega | assumption) ?_ | refine Rn_neg (by first | omega | assumption) ?_ | refine Rn_pos' (by first | omega | assumption) ?_ | refine Rn_neg' (by first | omega | assumption) ?_ | fail)
      refine Rn_ret ?_
      refine Rn_map (fun K => x_X8_tick) ?_
      simp (disch := omega) only [lit_0, lit_1, lit_2, lit_3, lit_4, lit_5, lit_6, lit_7, lit_8, lit_9, lit_10, lit_11, lit_12, lit_17, lit_20, lit_30, lit_31, lit_32, lit_47, lit_48, lit_60, lit_99, lit_100, lit_144, lit_200, lit_240, lit_300, lit_576, lit_960, lit_1008, lit_1000000, lit_100000000, true_implies, not_true_eq_false, false_implies, not_false_eq_true, true_and, and_true, neg_1, nI_add, pk_mul, nI_clamp, le_nI, lt_nI, eq_nI, vp_nI, nI_NN, NN_nI, NN_lt, NN_le, lt_NN, le_NN, mP, mW, mF, mG, mC, mN, mD, mB, div48]
      repeat' (first | refine Rn_and (by first | omega | assumption) ?_ | refine Rn_pos (by first | omega | assumption) ?_ | refine Rn_neg (by first | omega | assumption) ?_ | refine Rn_pos' (by first | omega | assumption) ?_ | refine Rn_neg' (by first | omega | assumption) ?_ | fail)
      exact Rn_ret (Agr rfl (Rel_ref R0 7))


