variable {κ : Nat → Nat → Nat → Prop}
theorem wI_j {σ : Mem} {k i j k' i' j' : Nat} {v : Int32} (h : j' ≠ j) : (wI σ k i j v).1 k' i' j' = σ.1 k' i' j' := by
  rw [wI_r, if_neg (fun z => h z.2.2)]
section Congr
variable {x y x11 : Nat → Nat → Int32} {m m' : Nat → Int32} {P P' F F' G C N B : Nat} {w l : Nat → Nat → Nat}
theorem GHome_c (h : ∀ f, y f 4 = x f 4) (g : GHome x m P F) : GHome y m P F := by
  intro f hf
  rw [h]
  exact g f hf
theorem GKeys_c (h : ∀ f, y f 5 = x f 5) (g : GKeys x m) : GKeys y m := by
  intro f hf
  rw [h]
  exact g f hf
theorem GDuty_c (h : ∀ f, y f 6 = x f 6) (g : GDuty x x11 m m' P) : GDuty y x11 m m' P := by
  intro f hf
  rw [h]
  exact g f hf
theorem GGone_c (h : ∀ f, y f 13 = x f 13) (g : GGone x m) : GGone y m := by
  intro f hf
  rw [h]
  exact g f hf
theorem GBent_c (h12 : ∀ f, y f 12 = x f 12) (h7 : ∀ f, y f 7 = x f 7) (h8 : ∀ f, y f 8 = x f 8) (h9 : ∀ f, y f 9 = x f 9) (g : GBent x m m' P) : GBent y m m' P := by
  intro f hf
  rw [h12, h7, h8, h9]
  exact g f hf
theorem GCost_c (h : ∀ f, y f 10 = x f 10) (g : GCost x m) : GCost y m := by
  intro f hf
  rw [h]
  exact g f hf
theorem GKnow_c {x13 : Nat → Nat → Int32} (h : ∀ f, y f 11 = x f 11) (g : GKnow x x13 m C) : GKnow y x13 m C := by
  intro f k hf hk
  rw [h]
  exact g f k hf hk
theorem GHome_p (hp : P ≤ P') (g : GHome x m P F) : GHome x m P' F := by
  intro f hf
  obtain ⟨h, h1, h2, h3⟩ := g f hf
  exact ⟨h, by omega, h2, h3⟩
theorem GDuty_p (hp : P ≤ P') (g : GDuty x x11 m m' P) : GDuty x x11 m m' P' := by
  intro f hf
  obtain ⟨n, h1, h2, h3, h4, h5⟩ := g f hf
  refine ⟨n, h1, h2, h3, h4, fun k hk => ?_⟩
  obtain ⟨p, a, b, v, i1, i2⟩ := h5 k hk
  exact ⟨p, a, b, v, by omega, i2⟩
theorem GBent_p (hp : P ≤ P') (g : GBent x m m' P) : GBent x m m' P' := by
  intro f hf
  obtain ⟨h1, h2 | ⟨h2, p, a, b, h3, h4⟩⟩ := g f hf
  · exact ⟨h1, Or.inl h2⟩
  · exact ⟨h1, Or.inr ⟨h2, p, a, b, by omega, h4⟩⟩
theorem GMeet_p (hp : P ≤ P') (hf : F ≤ F') (g : GMeet x m m' P F G) : GMeet x m m' P' F' G := by
  intro z hz
  obtain ⟨h1, h2, p, a, b, v, h3, h4⟩ := g z hz
  exact ⟨h1, fun f hf' => h2 f (by omega), p, a, b, v, by omega, h4⟩
theorem GWay_p {x5 : Nat → Int32} (hp : P ≤ P') (g : GWay x5 m P w) : GWay x5 m P' w := by
  intro a b ha hb
  obtain ⟨h1, h2, h3, h4⟩ := g a b ha hb
  refine ⟨h1, h2, ?_, h4⟩
  rcases h3 with h3 | h3
  · exact Or.inl h3
  · exact Or.inr ⟨h3.1, h3.2.1, by omega, by omega, h3.2.2.2.2⟩
theorem GLck_p {L : Int32} (hp : P ≤ P') (g : GLck L m P) : GLck L m P' := ⟨g.1, fun p h => g.2 p (by omega)⟩
theorem GShl_f (hf : F ≤ F') (g : GShl x m m' F) : GShl x m m' F' := by
  intro s hs
  rcases g s hs with h | ⟨f, h1, h2⟩ | h
  · exact Or.inl h
  · exact Or.inr (Or.inl ⟨f, by omega, h2⟩)
  · exact Or.inr (Or.inr h)
theorem PCode_p {c : Int32} (hp : P ≤ P') (g : PCode P w c) : PCode P' w c := by
  rcases g with h | ⟨p, h1, h2⟩ | ⟨p, h1, h2⟩ | ⟨p, q, h1, h2, h3⟩
  · exact Or.inl h
  · exact Or.inr (Or.inl ⟨p, by omega, h2⟩)
  · exact Or.inr (Or.inr (Or.inl ⟨p, by omega, h2⟩))
  · exact Or.inr (Or.inr (Or.inr ⟨p, q, by omega, by omega, h3⟩))
theorem GPln_p (hp : P ≤ P') (g : GPln m m' P F N B w) : GPln m m' P' F N B w := ⟨fun f t hf ht => ⟨PCode_p hp (g.1 f t hf ht).1, (g.1 f t hf ht).2⟩, g.2⟩
/-- a code of a plan in numbers -/
theorem PCode_n {c : Int32} (hP : P ≤ 12) (g : PCode P w c) : c = NN ∨ ∃ n, n < 400 ∧ c = nI n := by
  rcases g with h | ⟨p, h1, h2⟩ | ⟨p, h1, h2⟩ | ⟨p, q, h1, h2, h3, h4⟩
  · exact Or.inl h
  · exact Or.inr ⟨_, by omega, h2⟩
  · exact Or.inr ⟨_, by omega, h2⟩
  · exact Or.inr ⟨_, by omega, h4⟩
end Congr
theorem f_X6_addPlace {d A : Nat} {p0 p1 p2 : Int32} {σ : Mem} {P : Int32 → Mem → Prop} (hA : A < 12) (xA : σ.1 1 0 5 = nI A) (hP : P (nI A) (sK (wI (wI (wI (wI σ 1 0 5 (nI (A + 1))) 2 0 A p0) 3 0 A p1) 4 0 A p2) 6 (fun i j => if i = 0 ∧ j < 144 ∧ ((j / 12 = A ∧ j % 12 ≤ A) ∨ (j % 12 = A ∧ j / 12 ≤ A)) then (if j = 13 * A then nI 0 else NN) else σ.1 6 i j))) : Rn (fun K => CalI IX (d + 1) S_X6_addPlace [ar 1 0, ai p0, ai p1, ai p2] σ K) P := by
  refine Rn_map (fun K => x_X6_addPlace) ?_
  simp (disch := omega) only [lit_0, lit_1, lit_2, lit_3, lit_4, lit_5, lit_6, lit_7, lit_8, lit_9, lit_10, lit_11, lit_12, lit_17, lit_20, lit_30, lit_31, lit_32, lit_47, lit_48, lit_60, lit_99, lit_100, lit_144, lit_200, lit_240, lit_300, lit_576, lit_960, lit_1008, lit_1000000, lit_100000000, true_implies, not_true_eq_false, false_implies, not_false_eq_true, true_and, and_true, neg_1, nI_add, pk_mul, nI_clamp, le_nI, lt_nI, eq_nI, vp_nI, nI_NN, NN_nI, NN_lt, NN_le, lt_NN, le_NN, xA]
  repeat' (first | refine Rn_and (by first | omega | assumption) ?_ | refine Rn_pos (by first | omega | assumption) ?_ | refine Rn_neg (by first | omega | assumption) ?_ | refine Rn_pos' (by first | omega | assumption) ?_ | refine Rn_neg' (by first | omega | assumption) ?_ | fail)
  refine Rn_KQ ?_
  refine loopU (C := fun i s Q => J IX M_X6_addPlace (d + 1) 43 [(0, ar 1 0), (4, ai (nI A)), (5, ai (nI i))] [] s Q) (Inv := fun n s => s = sK (wI (wI (wI (wI σ 1 0 5 (nI (A + 1))) 2 0 A p0) 3 0 A p1) 4 0 A p2) 6 (fun i j => if i = 0 ∧ j < 144 ∧ ((j / 12 = A ∧ j % 12 < n) ∨ (j % 12 = A ∧ j / 12 < n)) then NN else σ.1 6 i j)) (n := A + 1) ?_ ?_ (by omega) ?_
  · rintro i s hi hs ih
    refine Rn_map (fun Q => x_X6_addPlace_43) ?_
    simp (disch := omega) only [lit_0, lit_1, lit_2, lit_3, lit_4, lit_5, lit_6, lit_7, lit_8, lit_9, lit_10, lit_11, lit_12, lit_17, lit_20, lit_30, lit_31, lit_32, lit_47, lit_48, lit_60, lit_99, lit_100, lit_144, lit_200, lit_240, lit_300, lit_576, lit_960, lit_1008, lit_1000000, lit_100000000, true_implies, not_true_eq_false, false_implies, not_false_eq_true, true_and, and_true, neg_1, nI_add, pk_mul, nI_clamp, le_nI, lt_nI, eq_nI, vp_nI, nI_NN, NN_nI, NN_lt, NN_le, lt_NN, le_NN]
    repeat' (first | refine Rn_and (by first | omega | assumption) ?_ | refine Rn_pos (by first | omega | assumption) ?_ | refine Rn_neg (by first | omega | assumption) ?_ | refine Rn_pos' (by first | omega | assumption) ?_ | refine Rn_neg' (by first | omega | assumption) ?_ | fail)
    subst hs
    refine ih _ (Mem_ext (fun k a b => ?_) rfl)
    have h1 : b = A * 12 + i ↔ (b / 12 = A ∧ b % 12 = i) := by omega
    have h2 : b = i * 12 + A ↔ (b / 12 = i ∧ b % 12 = A) := by omega
    simp only [wI_r, sK_r]
    grind
  · rintro s hs
    refine Rn_map (fun Q => x_X6_addPlace_43) ?_
    simp (disch := omega) only [lit_0, lit_1, lit_2, lit_3, lit_4, lit_5, lit_6, lit_7, lit_8, lit_9, lit_10, lit_11, lit_12, lit_17, lit_20, lit_30, lit_31, lit_32, lit_47, lit_48, lit_60, lit_99, lit_100, lit_144, lit_200, lit_240, lit_300, lit_576, lit_960, lit_1008, lit_1000000, lit_100000000, true_implies, not_true_eq_false, false_implies, not_false_eq_true, true_and, and_true, neg_1, nI_add, pk_mul, nI_clamp, le_nI, lt_nI, eq_nI, vp_nI, nI_NN, NN_nI, NN_lt, NN_le, lt_NN, le_NN]
    repeat' (first | refine Rn_and (by first | omega | assumption) ?_ | refine Rn_pos (by first | omega | assumption) ?_ | refine Rn_neg (by first | omega | assumption) ?_ | refine Rn_pos' (by first | omega | assumption) ?_ | refine Rn_neg' (by first | omega | assumption) ?_ | fail)
    refine Rn_ret ⟨_, rfl, ?_⟩
    have e : wI s 6 0 (A * 12 + A) (nI 0) = sK (wI (wI (wI (wI σ 1 0 5 (nI (A + 1))) 2 0 A p0) 3 0 A p1) 4 0 A p2) 6 (fun i j => if i = 0 ∧ j < 144 ∧ ((j / 12 = A ∧ j % 12 ≤ A) ∨ (j % 12 = A ∧ j / 12 ≤ A)) then (if j = 13 * A then nI 0 else NN) else σ.1 6 i j) := by
      subst hs
      refine Mem_ext (fun k a b => ?_) rfl
      have h1 : b = A * 12 + A ↔ b = 13 * A := by omega
      have h2 : b = 13 * A → b < 144 ∧ b / 12 = A ∧ b % 12 ≤ A := by omega
      simp only [wI_r, sK_r]
      grind
    rw [e]
    exact hP
  · refine Mem_ext (fun k a b => ?_) rfl
    simp only [wI_r, sK_r]
    grind
theorem f_X8_folk_56 {d A : Nat} {σ : Mem} {P : Int32 → Mem → Prop} (hA : A < 20) (xA : σ.1 30 0 13 = nI A) (hP : P (nI A) (wI (sK σ 40 (fun i j => if i = 0 ∧ 12 * A ≤ j ∧ j < 12 * A + 12 then nI 5 else σ.1 40 i j)) 30 0 13 (nI (A + 1)))) : Rn (fun K => J IM M_X8_folk (d + 3) 56 [(0, ar 30 0), (2, ai (nI 0))] [] σ (KQ K)) P := by
  refine Rn_KQ ?_
  refine loopU (C := fun i s Q => J IM M_X8_folk (d + 3) 56 [(0, ar 30 0), (2, ai (nI i))] [] s Q) (Inv := fun n s => s = sK σ 40 (fun i j => if i = 0 ∧ 12 * A ≤ j ∧ j < 12 * A + n then nI 5 else σ.1 40 i j)) (n := 12) ?_ ?_ (by omega) ?_
  · rintro i s hi hs ih
    have es : s.1 30 0 13 = nI A := by rw [hs]; exact xA
    refine Rn_map (fun Q => x_X8_folk_56) ?_
    simp (disch := omega) only [lit_0, lit_1, lit_2, lit_3, lit_4, lit_5, lit_6, lit_7, lit_8, lit_9, lit_10, lit_11, lit_12, lit_17, lit_20, lit_30, lit_31, lit_32, lit_47, lit_48, lit_60, lit_99, lit_100, lit_144, lit_200, lit_240, lit_300, lit_576, lit_960, lit_1008, lit_1000000, lit_100000000, true_implies, not_true_eq_false, false_implies, not_false_eq_true, true_and, and_true, neg_1, nI_add, pk_mul, nI_clamp, le_nI, lt_nI, eq_nI, vp_nI, nI_NN, NN_nI, NN_lt, NN_le, lt_NN, le_NN, es]
    repeat' (first | refine Rn_and (by first | omega | assumption) ?_ | refine Rn_pos (by first | omega | assumption) ?_ | refine Rn_neg (by first | omega | assumption) ?_ | refine Rn_pos' (by first | omega | assumption) ?_ | refine Rn_neg' (by first | omega | assumption) ?_ | fail)
    subst hs
    refine ih _ (Mem_ext (fun k a b => ?_) rfl)
    simp only [wI_r, sK_r]
    grind
  · rintro s hs
    have es : s.1 30 0 13 = nI A := by rw [hs]; exact xA
    refine Rn_map (fun Q => x_X8_folk_56) ?_
    simp (disch := omega) only [lit_0, lit_1, lit_2, lit_3, lit_4, lit_5, lit_6, lit_7, lit_8, lit_9, lit_10, lit_11, lit_12, lit_17, lit_20, lit_30, lit_31, lit_32, lit_47, lit_48, lit_60, lit_99, lit_100, lit_144, lit_200, lit_240, lit_300, lit_576, lit_960, lit_1008, lit_1000000, lit_100000000, true_implies, not_true_eq_false, false_implies, not_false_eq_true, true_and, and_true, neg_1, nI_add, pk_mul, nI_clamp, le_nI, lt_nI, eq_nI, vp_nI, nI_NN, NN_nI, NN_lt, NN_le, lt_NN, le_NN, es]
    repeat' (first | refine Rn_and (by first | omega | assumption) ?_ | refine Rn_pos (by first | omega | assumption) ?_ | refine Rn_neg (by first | omega | assumption) ?_ | refine Rn_pos' (by first | omega | assumption) ?_ | refine Rn_neg' (by first | omega | assumption) ?_ | fail)
    refine Rn_ret ⟨_, rfl, ?_⟩
    have e : nI (A + 1) - nI 1 = nI A := pk_sub (by omega)
    rw [e]
    subst hs
    exact hP
  · refine Mem_ext (fun k a b => ?_) rfl
    simp only [sK_r]
    grind

