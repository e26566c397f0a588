/-! ===== the law's loops ===== -/
/-- what the law answers -/
def Q1 (v : Option AV) (_ : Mem) : Prop := v = some (ai 1)
/-- the row holds what where() answered in σ0, up to the tick t of the folk g -/
def Fl (F0 : Nat) (σ0 σ : Mem) (g t : Nat) : Prop := σ.1 = σ0.1 ∧ (∀ k, k ≠ 62 → σ.2 k = σ0.2 k) ∧ ∀ a b, b < 48 → (a < g ∨ (a = g ∧ b < t)) → σ.2 62 0 (48 * a + b) = (Wh F0 σ0 a b).toInt64
theorem Wh_c {F0 g t : Nat} {σ σ' : Mem} (h : σ.1 = σ'.1) : Wh F0 σ g t = Wh F0 σ' g t := by
  unfold Wh
  rw [h]
theorem ok_ai2 {a b : Int32} : okS IX [ar 0 0, ai a, ai b] := by
  intro v hv
  rcases List.mem_cons.mp hv with rfl | hv
  · exact Or.inl (by decide)
  · rcases List.mem_cons.mp hv with rfl | hv
    · trivial
    · rcases List.mem_cons.mp hv with rfl | hv
      · trivial
      · cases hv
theorem ok_ai1 {a : Int32} : okS IX [ar 0 0, ai a] := by
  intro v hv
  rcases List.mem_cons.mp hv with rfl | hv
  · exact Or.inl (by decide)
  · rcases List.mem_cons.mp hv with rfl | hv
    · trivial
    · cases hv
theorem ix_48 {g t : Nat} (hg : g < 4) (ht : t < 48) : (48 : Int32) * nI g + nI t = nI (48 * g + t) := by
  have e : (48 : Int32) * nI g = nI (48 * g) := pk_mul 48 g
  rw [e, nI_add]
theorem or_01 (x : Int32) : x ||| 0 = x := or_0 x
theorem or_11 (x : Int32) : ¬ x ||| 1 = 0 := by
  intro h
  have := congrArg (fun y => bt y 0) h
  simp only [b_or, b_0] at this
  rw [show bt 1 0 = true by decide] at this
  simp at this
section Loops
variable {Q : Option AV → Mem → Prop} {v2 v4 v5 v6 v7 v8 v9 v11 : Int32} {F0 N : Nat} {σ0 τ : Mem}
theorem l_93 {g : Nat} (hg : g < 4) (xF : σ0.1 0 0 9 = nI F0) (hF : F0 ≤ 4) (cont : ∀ σ, Fl F0 σ0 σ (g + 1) 0 → J IY M_L_law 9 84 [(0, ar 29 0), (1, ar 0 0), (2, ai v2), (3, ar 62 0), (4, ai v4), (5, ai v5), (6, ai v6), (7, ai v7), (8, ai v8), (9, ai (nI (g + 1)))] [] σ Q) : ∀ k t σ, t + k = 48 → Fl F0 σ0 σ g t → J IY M_L_law 9 93 [(0, ar 29 0), (1, ar 0 0), (2, ai v2), (3, ar 62 0), (4, ai v4), (5, ai v5), (6, ai v6), (7, ai v7), (8, ai v8), (9, ai (nI g)), (10, ai (nI t))] [] σ Q := by
  intro k
  induction k with
  | zero =>
    intro t σ ht hl
    have et : t = 48 := by omega
    subst et
    refine r_L_law_93 (d := 8) ⟨fun _ => ?_, fun z => absurd (by rw [lit_48]; exact Int32.le_refl _) z⟩
    have e : nI g + 1 = nI (g + 1) := nI_add g 1
    rw [e]
    refine cont σ ⟨hl.1, hl.2.1, fun a b hb h => hl.2.2 a b hb ?_⟩
    omega
  | succ k ih =>
    intro t σ ht hl
    have e : nI t + 1 = nI (t + 1) := nI_add t 1
    refine r_L_law_93 (d := 8) ⟨fun z => absurd z (by rw [lit_48, le_nI (by omega) (by omega)]; omega), fun _ => ?_⟩
    refine CalI_ext ok_ai2 (c_where (d := 6) (F := F0) (by rw [hl.1]; exact xF) (by omega) (by omega) (by omega) ⟨rfl, rfl⟩) ?_
    rw [ix_48 hg (by omega), e, nI_clamp (by omega), Wh_c hl.1]
    refine ⟨by rw [vp_nI (by omega)]; omega, ih (t + 1) _ (by omega) ⟨hl.1, fun k hk => ?_, fun a b hb h => ?_⟩⟩
    · rw [← hl.2.1 k hk]
      funext i j
      rw [wL_r, if_neg (fun z => hk z.1)]
    · rw [wL_r]
      by_cases h2 : 48 * a + b = 48 * g + t
      · have ea : a = g := by omega
        have eb : b = t := by omega
        rw [if_pos ⟨rfl, rfl, h2⟩, ea, eb]
      · rw [if_neg (fun z => h2 z.2.2)]
        exact hl.2.2 a b hb (by omega)
theorem l_84 (xF : σ0.1 0 0 9 = nI F0) (hF : F0 ≤ 4) (cont : ∀ σ, Fl F0 σ0 σ 4 0 → J IY M_L_law 9 84 [(0, ar 29 0), (1, ar 0 0), (2, ai v2), (3, ar 62 0), (4, ai v4), (5, ai v5), (6, ai v6), (7, ai v7), (8, ai v8), (9, ai (nI 4))] [] σ Q) : ∀ k g σ, g + k = 4 → Fl F0 σ0 σ g 0 → J IY M_L_law 9 84 [(0, ar 29 0), (1, ar 0 0), (2, ai v2), (3, ar 62 0), (4, ai v4), (5, ai v5), (6, ai v6), (7, ai v7), (8, ai v8), (9, ai (nI g))] [] σ Q := by
  intro k
  induction k with
  | zero =>
    intro g σ hg hl
    have eg : g = 4 := by omega
    subst eg
    exact cont σ hl
  | succ k ih =>
    intro g σ hg hl
    refine r_L_law_84 (d := 8) ⟨fun z => absurd z (by rw [lit_4, le_nI (by omega) (by omega)]; omega), fun _ => ?_⟩
    exact l_93 (by omega) xF hF (fun σ' hl' => ih (g + 1) σ' (by omega) hl') 48 0 σ (by omega) hl
/-- the row's entries, whose plan they are, and what may differ -/
theorem l_249 {g : Nat} {W : Nat → Nat → Int32} (hg : g < F0) (hF : F0 ≤ 4) (xF : τ.1 0 0 9 = nI F0) (hN : N < 48) (hW : ∀ a b, a < 4 → b < 48 → τ.2 62 0 (48 * a + b) = (W a b).toInt64) (hm : ∀ t, t < 48 → W g t ≠ τ.1 12 g t → N ≤ t ∧ ¬ v11 = 0)
    (cont : J IY M_L_law 9 162 [(0, ar 29 0), (1, ar 0 0), (2, ai v2), (3, ar 62 0), (4, ai v4), (6, ai v6), (7, ai v7), (8, ai (nI N)), (9, ai v9), (10, ai (nI (g + 1)))] [] τ Q) : ∀ k t, t + k = 48 → J IY M_L_law 9 249 [(0, ar 29 0), (1, ar 0 0), (2, ai v2), (3, ar 62 0), (4, ai v4), (6, ai v6), (7, ai v7), (8, ai (nI N)), (9, ai v9), (10, ai (nI g)), (11, ai v11), (12, ai (nI t))] [] τ Q := by
  intro k
  induction k with
  | zero =>
    intro t ht
    have et : t = 48 := by omega
    subst et
    refine r_L_law_249 (d := 8) ⟨fun _ => ?_, fun z => absurd (by rw [lit_48]; exact Int32.le_refl _) z⟩
    have e : nI g + 1 = nI (g + 1) := nI_add g 1
    rw [e]
    exact cont
  | succ k ih =>
    intro t ht
    have e : nI t + 1 = nI (t + 1) := nI_add t 1
    refine r_L_law_249 (d := 8) ⟨fun z => absurd z (by rw [lit_48, le_nI (by omega) (by omega)]; omega), fun _ => ?_⟩
    rw [ix_48 (by omega) (by omega)]
    refine ⟨by rw [vp_nI (by omega)]; omega, CalI_ext ok_ai2 (c_where (d := 6) (F := F0) xF (by omega) (by omega) (by omega) ⟨rfl, rfl⟩) ?_⟩
    rw [nI_clamp (by omega), hW g t (by omega) (by omega), cmp_0, e]
    rw [show Wh F0 τ g t = τ.1 12 g t from if_pos hg]
    refine ⟨fun _ => ih (t + 1) (by omega), fun hne => ?_⟩
    obtain ⟨h1, h2⟩ := hm t (by omega) (fun z => hne (by rw [z]))
    exact ⟨fun z => absurd z (by rw [lt_nI (by omega) (by omega)]; omega), fun _ => ⟨fun _ => ih (t + 1) (by omega), fun z => absurd z h2⟩⟩
/-- a lock: whether one was due in the place -/
theorem l_200 {g : Nat} {W : Nat → Nat → Int32} (hg : g < 4) (hN : N < 48) (h9 : v9 = 4) (hW : ∀ a b, a < 4 → b < 48 → τ.2 62 0 (48 * a + b) = (W a b).toInt64)
    (cont : ∀ m, ((∃ u, N ≤ u ∧ u < 48 ∧ W g u = v7) → ¬ m = 0) → J IY M_L_law 9 249 [(0, ar 29 0), (1, ar 0 0), (2, ai v2), (3, ar 62 0), (4, ai v4), (6, ai v6), (7, ai v7), (8, ai (nI N)), (9, ai v9), (10, ai (nI g)), (11, ai m), (12, ai 0)] [] τ Q) : ∀ k t m, t + k = 48 → N ≤ t → ((∃ u, N ≤ u ∧ u < t ∧ W g u = v7) → ¬ m = 0) → J IY M_L_law 9 200 [(0, ar 29 0), (1, ar 0 0), (2, ai v2), (3, ar 62 0), (4, ai v4), (6, ai v6), (7, ai v7), (8, ai (nI N)), (9, ai v9), (10, ai (nI g)), (11, ai m), (12, ai (nI t))] [] τ Q := by
  intro k
  induction k with
  | zero =>
    intro t m ht hNt hm
    have et : t = 48 := by omega
    subst et
    exact r_L_law_200 (d := 8) ⟨fun _ => cont m hm, fun z => absurd (by rw [lit_48]; exact Int32.le_refl _) z⟩
  | succ k ih =>
    intro t m ht hNt hm
    have e : nI t + 1 = nI (t + 1) := nI_add t 1
    refine r_L_law_200 (d := 8) ⟨fun z => absurd z (by rw [lit_48, le_nI (by omega) (by omega)]; omega), fun _ => ⟨fun z => absurd h9 z, fun _ => ?_⟩⟩
    rw [ix_48 hg (by omega), nI_clamp (by omega), hW g t hg (by omega), cmp_0, e]
    refine ⟨by rw [vp_nI (by omega)]; omega, fun hne => ?_, fun heq => ?_⟩
    · rw [or_01]
      refine ih (t + 1) m (by omega) (by omega) (fun ⟨u, u1, u2, u3⟩ => ?_)
      by_cases h : u < t
      · exact hm ⟨u, u1, h, u3⟩
      · have eu : u = t := by omega
        subst eu
        exact absurd (by rw [u3]) hne
    · exact ih (t + 1) _ (by omega) (by omega) (fun _ => or_11 m)
/-- each one's plan against what it was -/
theorem l_162 {W : Nat → Nat → Int32} (hF : F0 ≤ 4) (xF : τ.1 0 0 9 = nI F0) (hN : N < 48) (hW : ∀ a b, a < 4 → b < 48 → τ.2 62 0 (48 * a + b) = (W a b).toInt64)
    (h4 : v9 = 4 → ∀ g t, g < F0 → t < 48 → W g t ≠ τ.1 12 g t → N ≤ t ∧ ∃ u, N ≤ u ∧ u < 48 ∧ W g u = v7) (h5 : ¬ v9 = 4 → ∀ g t, g < F0 → t < 48 → W g t ≠ τ.1 12 g t → N ≤ t ∧ v6 = nI g)
    (cont : J IY M_L_law 9 20 [(0, ar 29 0), (1, ar 0 0), (2, ai v2), (3, ar 62 0), (4, ai (v4 + 1))] [] τ Q) : ∀ k g, g + k = F0 → J IY M_L_law 9 162 [(0, ar 29 0), (1, ar 0 0), (2, ai v2), (3, ar 62 0), (4, ai v4), (6, ai v6), (7, ai v7), (8, ai (nI N)), (9, ai v9), (10, ai (nI g))] [] τ Q := by
  intro k
  induction k with
  | zero =>
    intro g hg
    refine r_L_law_162 (d := 8) (CalI_ext ok_ai1 (c_st2 (d := 6) ⟨rfl, rfl⟩) ?_)
    rw [xF]
    exact ⟨fun _ => cont, fun z => absurd (by rw [le_nI (by omega) (by omega)]; omega) z⟩
  | succ k ih =>
    intro g hg
    refine r_L_law_162 (d := 8) (CalI_ext ok_ai1 (c_st2 (d := 6) ⟨rfl, rfl⟩) ?_)
    rw [xF]
    refine ⟨fun z => absurd z (by rw [le_nI (by omega) (by omega)]; omega), fun _ => ⟨fun h9 => ?_, fun h9 => ?_⟩⟩
    · have out : ∀ m : Int32, (nI g = v6 → ¬ m = 0) → J IY M_L_law 9 200 [(0, ar 29 0), (1, ar 0 0), (2, ai v2), (3, ar 62 0), (4, ai v4), (6, ai v6), (7, ai v7), (8, ai (nI N)), (9, ai v9), (10, ai (nI g)), (11, ai m), (12, ai (nI N))] [] τ Q := by
        intro m hm
        have E : J IY M_L_law 9 249 [(0, ar 29 0), (1, ar 0 0), (2, ai v2), (3, ar 62 0), (4, ai v4), (6, ai v6), (7, ai v7), (8, ai (nI N)), (9, ai v9), (10, ai (nI g)), (11, ai m), (12, ai 0)] [] τ Q :=
          l_249 (by omega) hF xF hN hW (fun t ht hne => ⟨(h5 h9 g t (by omega) ht hne).1, hm (h5 h9 g t (by omega) ht hne).2.symm⟩) (ih (g + 1) (by omega)) 48 0 (by omega)
        exact r_L_law_200 (d := 8) ⟨fun z => absurd z (by rw [lit_48, le_nI (by omega) (by omega)]; omega), fun _ => ⟨fun _ => E, fun z => absurd z h9⟩⟩
      exact ⟨fun z => out 0 (fun y => absurd y z), fun z => out 1 (fun _ => by decide)⟩
    · exact l_200 (by omega) hN h9 hW (fun m hm => l_249 (by omega) hF xF hN hW (fun t ht hne => ⟨(h4 h9 g t (by omega) ht hne).1, hm (h4 h9 g t (by omega) ht hne).2⟩) (ih (g + 1) (by omega)) 48 0 (by omega)) (48 - N) N 0 (by omega) (Nat.le_refl _) (fun ⟨u, u1, u2, _⟩ => by omega)
end Loops
theorem k_7 (q : Int32) : ∃ m, m ≤ 7 ∧ q &&& 7 = nI m := and_le q (k := 7) (by omega)
theorem ix_11 {i : Nat} (hi : i < 24) : ¬ 11 + (nI i - nI i / 40 * 40) < 0 := by
  have e : nI i - nI i / 40 * 40 = nI (i % 40) := irem_nI (b := 40) (by omega) (by omega)
  have e2 : (11 : Int32) + nI (i % 40) = nI (11 + i % 40) := nI_add 11 _
  rw [e, e2]
  exact nI_nlt0 (by omega)
/-- one act and its looks -/
theorem l_step {P0 F0 i : Nat} (hP : 0 < P0) (hF1 : 0 < F0) (hF : F0 ≤ 4) (hi : i < 24) (cont : ∀ σ, Inv (kA P0 F0) σ → J IY M_L_law 9 20 [(0, ar 29 0), (1, ar 0 0), (2, ai (nI P0)), (3, ar 62 0), (4, ai (nI (i + 1)))] [] σ Q1) {σ : Mem} (H : Inv (kA P0 F0) σ) : J IY M_L_law 9 20 [(0, ar 29 0), (1, ar 0 0), (2, ai (nI P0)), (3, ar 62 0), (4, ai (nI i))] [] σ Q1 := by
  obtain ⟨P, F, N, B, ⟨e1, e2⟩, xP, hP12, xF, hF20, xN, hN⟩ := Inv_num H
  subst e1 e2
  have ei : nI i + 1 = nI (i + 1) := nI_add i 1
  refine r_L_law_20 (d := 8) ⟨fun z => absurd z (by rw [show (24 : Int32) = nI 24 from rfl, le_nI (by omega) (by omega)]; omega), fun _ => ⟨by decide, ix_11 hi, fun r1 => ?_⟩⟩
  generalize r1 + (77 * nI i) = q
  refine CalI_ext ok_ai1 (c_st2 (d := 6) ⟨rfl, rfl⟩) ?_
  rw [xF]
  refine ⟨nI_n0 hF1 (by omega), nI_n0 hP (by omega), CalI_ext ok_ai1 (c_st5 (d := 6) ⟨rfl, rfl⟩) ?_⟩
  rw [xN]
  refine l_84 (σ0 := σ) xF hF (fun σ1 hl => ?_) 4 0 σ (by omega) ⟨rfl, fun _ _ => rfl, fun a b _ h => by omega⟩
  have H1 : Inv (kA P F) σ1 := Inv_c hl.1 (hl.2.1 8 (by omega)) H
  refine r_L_law_84 (d := 8) ⟨fun _ => ?_, fun z => absurd (by rw [lit_4]; exact Int32.le_refl _) z⟩
  refine CalV_ext ok_ai1 (c_acts hP hF1 H1 (K := fun s => Inv (kA P F) s ∧ Fr q P F σ1 s) (fun s h1 h2 => ⟨h1, h2⟩)) ?_
  rintro s ⟨Hs, hFr⟩
  have Hm : Inv (kA P F) (mY σ1 s) := Inv_c (σ := s) rfl (funext fun i => funext fun j => (if_neg (by decide) : (if 8 = 62 then σ1.2 62 i j else s.2 8 i j) = s.2 8 i j)) Hs
  rw [ei]
  refine ⟨fun _ => cont _ Hm, fun n2 => ⟨fun n5 => ?_, fun _ => cont _ Hm⟩⟩
  obtain ⟨P', F', N', B', ⟨e1, e2⟩, _, _, xF', _, _, _⟩ := Inv_num Hm
  subst e1 e2
  obtain ⟨m, hm, em⟩ := k_7 q
  have n2 : ¬ m < 2 := by
    rw [em, show (2 : Int32) = nI 2 from rfl, lt_nI (by omega) (by omega)] at n2
    exact n2
  have n5 : m ≤ 5 := by
    rw [em, show (5 : Int32) = nI 5 from rfl, le_nI (by omega) (by omega)] at n5
    exact n5
  have q7 : (q &&& 7).toInt = m := by rw [em, nI_toInt (by omega)]
  have e12 : ∀ g t, Wh F' σ g t ≠ (mY σ1 s).1 12 g t → g < F' → s.1 12 g t ≠ σ1.1 12 g t := by
    intro g t h hg z
    refine h ?_
    rw [Wh, if_pos hg]
    show σ.1 12 g t = s.1 12 g t
    rw [z, hl.1]
  have xN1 : (σ1.1 0 0 14).toInt = N := by rw [hl.1, xN, nI_toInt (by omega)]
  have hrow : ∀ a b, a < 4 → b < 48 → (mY σ1 s).2 62 0 (48 * a + b) = (Wh F' σ a b).toInt64 := by
    intro a b ha hb
    show (if 62 = 62 then σ1.2 62 0 (48 * a + b) else s.2 62 0 (48 * a + b)) = _
    rw [if_pos rfl]
    exact hl.2.2 a b hb (Or.inl ha)
  have h44 : q &&& 7 = 4 → m = 4 := fun z => by
    rw [em, lit_4, eq_nI (by omega) (by omega)] at z
    exact z
  have fin := l_162 (v2 := nI P') (v4 := nI i) (v6 := ff q F') (v7 := pp q P') (v9 := q &&& 7) (Q := Q1) hF xF' hN hrow
    (fun z g t hg ht hne => by
      have h := (hFr.2 (by rw [q7, h44 z]; rfl)) g t ht (e12 g t hne hg)
      rw [xN1] at h
      obtain ⟨h1, u, h2, h3, h4⟩ := h
      refine ⟨by omega, u, by omega, h3, ?_⟩
      rw [Wh, if_pos hg, ← hl.1]
      exact h4)
    (fun z g t hg ht hne => by
      have hm4 : m ≠ 4 := fun y => z (by rw [em, y]; rfl)
      have h := (hFr.1 (by rw [q7]; omega)) g t ht (e12 g t hne hg)
      rw [xN1] at h
      exact ⟨by omega, h.1⟩)
    (by rw [ei]; exact cont _ Hm) F' 0 (by omega)
  exact fin
theorem l_20 {P0 F0 : Nat} (hP : 0 < P0) (hF1 : 0 < F0) (hF : F0 ≤ 4) : ∀ k i σ, i + k = 24 → Inv (kA P0 F0) σ → J IY M_L_law 9 20 [(0, ar 29 0), (1, ar 0 0), (2, ai (nI P0)), (3, ar 62 0), (4, ai (nI i))] [] σ Q1 := by
  intro k
  induction k with
  | zero =>
    intro i σ hi H
    have e : i = 24 := by omega
    subst e
    exact r_L_law_20 (d := 8) ⟨fun _ => ⟨Or.inr rfl, rfl⟩, fun z => absurd (by rw [show (24 : Int32) = nI 24 from rfl]; exact Int32.le_refl _) z⟩
  | succ k ih =>
    intro i σ hi H
    exact l_step hP hF1 hF (by omega) (fun σ' H' => ih (i + 1) σ' (by omega) H') H
theorem l_all {P0 F0 : Nat} (hP : 0 < P0) (hF1 : 0 < F0) (hF : F0 ≤ 4) {σ : Mem} (H : Inv (kA P0 F0) σ) : J IY M_L_law 9 17 [(0, ar 29 0), (1, ar 0 0), (2, ai (nI P0)), (3, ar 62 0)] [] σ Q1 :=
  r_L_law_17 (d := 8) (l_20 hP hF1 hF 24 0 σ (by omega) H)
