variable {κ : Nat → Nat → Nat → Prop}
/-! ===== a tick: what is told, who meets ===== -/
def orF (g : Nat → Bool) (b : Nat → Int32) : Nat → Int32
  | 0 => nI 0
  | n + 1 => if g n = true then orF g b n ||| b n else orF g b n
theorem orF_t {g : Nat → Bool} {b : Nat → Int32} {n : Nat} (h : g n = true) : orF g b (n + 1) = orF g b n ||| b n := by rw [orF, if_pos h]
theorem orF_f {g : Nat → Bool} {b : Nat → Int32} {n : Nat} (h : ¬ g n = true) : orF g b (n + 1) = orF g b n := by rw [orF, if_neg h]
theorem orF_bt {g : Nat → Bool} {b : Nat → Int32} {k : Nat} : ∀ n, (bt (orF g b n) k = true) ↔ ∃ f, f < n ∧ g f = true ∧ bt (b f) k = true := by
  intro n
  induction n with
  | zero => rw [orF, bt_nI0]; exact ⟨fun h => (by cases h), fun ⟨f, h, _⟩ => absurd h (Nat.not_lt_zero _)⟩
  | succ n ih =>
    by_cases h : g n = true
    · rw [orF_t h, b_or, Bool.or_eq_true, ih]
      constructor
      · rintro (⟨f, h1, h2⟩ | h1)
        · exact ⟨f, by omega, h2⟩
        · exact ⟨n, by omega, h, h1⟩
      · rintro ⟨f, h1, h2, h3⟩
        by_cases e : f = n
        · subst e; exact Or.inr h3
        · exact Or.inl ⟨f, by omega, h2, h3⟩
    · rw [orF_f h, ih]
      constructor
      · rintro ⟨f, h1, h2⟩
        exact ⟨f, by omega, h2⟩
      · rintro ⟨f, h1, h2, h3⟩
        by_cases e : f = n
        · subst e; exact absurd h2 h
        · exact ⟨f, by omega, h2, h3⟩
/-- f is told k: someone IN the same place knows it -/
def TX (σ : Mem) (F N u k : Nat) : Prop := ∃ p f, p < 12 ∧ f < F ∧ σ.1 12 u N = nI p ∧ σ.1 12 f N = nI p ∧ bt (σ.1 9 f 11) k = true
def PX (σ : Mem) (F N : Nat) (mo : Int32) (n : Nat) (s : Mem) : Prop := (∀ u j, j ≠ 11 ∨ n ≤ u → s.1 9 u j = σ.1 9 u j) ∧ (∀ u k, n ≤ u → s.1 13 u k = σ.1 13 u k) ∧ ∀ u k, u < n → k < 12 → ((bt (s.1 9 u 11) k = true) ↔ (bt (σ.1 9 u 11) k = true ∨ TX σ F N u k)) ∧ (bt (σ.1 9 u 11) k = false → TX σ F N u k → s.1 13 u k = mo) ∧ (bt (σ.1 9 u 11) k = true ∨ ¬ TX σ F N u k → s.1 13 u k = σ.1 13 u k)
theorem f_X7_tellFacts {d F N D : Nat} {σ : Mem} (hF : F ≤ 20) (hN : N < 48) (hD : D ≤ 20) (xF : σ.1 0 0 9 = nI F) (xN : σ.1 0 0 14 = nI N) (xD : σ.1 0 0 15 = nI D) (hc : ∀ f, f < 20 → σ.1 12 f N = NN ∨ ∃ n, n < 400 ∧ σ.1 12 f N = nI n) : Rv (fun K => CalV IX (d + 2) S_X7_tellFacts [ar 0 0] σ K) (fun s => s.2 = σ.2 ∧ (∀ k, k ≠ 27 → k ≠ 13 → k ≠ 9 → s.1 k = σ.1 k) ∧ PX σ F N (nI (D * 48 + N)) F s) := by
  refine Rv_map (fun K => x_X7_tellFacts) ?_
  simp (disch := omega) only [lit_0, lit_1, lit_2, lit_3, lit_4, lit_5, lit_6, lit_7, lit_8, lit_9, lit_10, lit_11, lit_12, lit_17, lit_20, lit_30, lit_31, lit_32, lit_47, lit_48, lit_60, lit_99, lit_100, lit_144, lit_200, lit_240, lit_300, lit_576, lit_960, lit_1008, lit_1000000, lit_100000000, true_implies, not_true_eq_false, false_implies, not_false_eq_true, true_and, and_true, neg_1, nI_add, pk_mul, nI_clamp, le_nI, lt_nI, eq_nI, vp_nI, nI_NN, NN_nI, NN_lt, NN_le, lt_NN, le_NN]
  refine Rv_cV (Rv_mono f_fill27 (fun s0 hs0 => ?_))
  refine Rv_KV ?_
  obtain ⟨T, hT⟩ : ∃ T : Nat → Nat → Int32, ∀ j n, T j n = orF (fun f => decide (σ.1 12 f N = nI j)) (fun f => σ.1 9 f 11) n := ⟨_, fun _ _ => rfl⟩
  have hT0 : ∀ j, T j 0 = nI 0 := fun j => by rw [hT]; rfl
  refine loopU (C := fun i s Q => J IX M_X7_tellFacts (d + 2) 10 [(0, ar 0 0), (1, ai (nI i))] [] s Q) (Inv := fun n s => s = sK σ 27 (fun i j => if i = 0 ∧ j < 12 then T j n else σ.1 27 i j)) (n := F) ?_ ?_ (by omega) ?_
  · rintro i s hi hs ih
    have xF' : s.1 0 0 9 = nI F := by rw [hs]; exact xF
    have xN' : s.1 0 0 14 = nI N := by rw [hs]; exact xN
    have e12 : s.1 12 = σ.1 12 := by rw [hs]; rfl
    refine Rn_map (fun Q => x_X7_tellFacts_10) ?_
    have out : (∀ p, p < 12 → σ.1 12 i N ≠ nI p) → s = sK σ 27 (fun a j => if a = 0 ∧ j < 12 then T j (i + 1) else σ.1 27 a j) := by
      intro h
      have eT : ∀ j, j < 12 → T j (i + 1) = T j i := fun j hj => by rw [hT, hT, orF_f (by simpa using h j hj)]
      rw [hs]
      refine Mem_ext (fun k a b => ?_) rfl
      simp only [sK_r]
      grind
    rcases hc i (by omega) with e | ⟨n, hn, e⟩
    · simp (disch := omega) only [lit_0, lit_1, lit_2, lit_3, lit_4, lit_5, lit_6, lit_7, lit_8, lit_9, lit_10, lit_11, lit_12, lit_17, lit_20, lit_30, lit_31, lit_32, lit_47, lit_48, lit_60, lit_99, lit_100, lit_144, lit_200, lit_240, lit_300, lit_576, lit_960, lit_1008, lit_1000000, lit_100000000, true_implies, not_true_eq_false, false_implies, not_false_eq_true, true_and, and_true, neg_1, nI_add, pk_mul, nI_clamp, le_nI, lt_nI, eq_nI, vp_nI, nI_NN, NN_nI, NN_lt, NN_le, lt_NN, le_NN, xF', xN', e12, e]
      repeat' (first | refine Rn_and (by first | omega | assumption) ?_ | refine Rn_pos (by first | omega | assumption) ?_ | refine Rn_neg (by first | omega | assumption) ?_ | refine Rn_pos' (by first | omega | assumption) ?_ | refine Rn_neg' (by first | omega | assumption) ?_ | fail)
      exact ih _ (out (fun p hp => by rw [e, ne_eq, NN_nI (by omega)]; exact not_false))
    · by_cases hp : n < 12
      · simp (disch := omega) only [lit_0, lit_1, lit_2, lit_3, lit_4, lit_5, lit_6, lit_7, lit_8, lit_9, lit_10, lit_11, lit_12, lit_17, lit_20, lit_30, lit_31, lit_32, lit_47, lit_48, lit_60, lit_99, lit_100, lit_144, lit_200, lit_240, lit_300, lit_576, lit_960, lit_1008, lit_1000000, lit_100000000, true_implies, not_true_eq_false, false_implies, not_false_eq_true, true_and, and_true, neg_1, nI_add, pk_mul, nI_clamp, le_nI, lt_nI, eq_nI, vp_nI, nI_NN, NN_nI, NN_lt, NN_le, lt_NN, le_NN, xF', xN', e12, e]
        repeat' (first | refine Rn_and (by first | omega | assumption) ?_ | refine Rn_pos (by first | omega | assumption) ?_ | refine Rn_neg (by first | omega | assumption) ?_ | refine Rn_pos' (by first | omega | assumption) ?_ | refine Rn_neg' (by first | omega | assumption) ?_ | fail)
        refine ih _ ?_
        have eT : ∀ j, j < 12 → T j (i + 1) = if j = n then T j i ||| σ.1 9 i 11 else T j i := by
          intro j hj
          rw [hT, hT]
          by_cases h : j = n
          · rw [if_pos h, orF_t (by rw [h]; simpa using e)]
          · rw [if_neg h, orF_f]
            simp only [decide_eq_true_eq]
            rw [e, eq_nI (by omega) (by omega)]
            omega
        subst hs
        refine Mem_ext (fun k a b => ?_) rfl
        simp only [wI_r, sK_r]
        grind
      · simp (disch := omega) only [lit_0, lit_1, lit_2, lit_3, lit_4, lit_5, lit_6, lit_7, lit_8, lit_9, lit_10, lit_11, lit_12, lit_17, lit_20, lit_30, lit_31, lit_32, lit_47, lit_48, lit_60, lit_99, lit_100, lit_144, lit_200, lit_240, lit_300, lit_576, lit_960, lit_1008, lit_1000000, lit_100000000, true_implies, not_true_eq_false, false_implies, not_false_eq_true, true_and, and_true, neg_1, nI_add, pk_mul, nI_clamp, le_nI, lt_nI, eq_nI, vp_nI, nI_NN, NN_nI, NN_lt, NN_le, lt_NN, le_NN, xF', xN', e12, e]
        repeat' (first | refine Rn_and (by first | omega | assumption) ?_ | refine Rn_pos (by first | omega | assumption) ?_ | refine Rn_neg (by first | omega | assumption) ?_ | refine Rn_pos' (by first | omega | assumption) ?_ | refine Rn_neg' (by first | omega | assumption) ?_ | fail)
        exact ih _ (out (fun p hp => by rw [e, ne_eq, eq_nI (by omega) (by omega)]; omega))
  · rintro s1 hs1
    have xF' : s1.1 0 0 9 = nI F := by rw [hs1]; exact xF
    have e27 : ∀ j, j < 12 → s1.1 27 0 j = T j F := fun j hj => by rw [hs1, sK_r, if_pos rfl, if_pos ⟨rfl, hj⟩]
    have o1 : ∀ k, k ≠ 27 → s1.1 k = σ.1 k := by
      intro k hk
      funext i j
      rw [hs1, sK_r, if_neg hk]
    have e2 : s1.2 = σ.2 := by rw [hs1]; rfl
    clear hs1
    refine Rn_map (fun Q => x_X7_tellFacts_10) ?_
    simp (disch := omega) only [lit_0, lit_1, lit_2, lit_3, lit_4, lit_5, lit_6, lit_7, lit_8, lit_9, lit_10, lit_11, lit_12, lit_17, lit_20, lit_30, lit_31, lit_32, lit_47, lit_48, lit_60, lit_99, lit_100, lit_144, lit_200, lit_240, lit_300, lit_576, lit_960, lit_1008, lit_1000000, lit_100000000, true_implies, not_true_eq_false, false_implies, not_false_eq_true, true_and, and_true, neg_1, nI_add, pk_mul, nI_clamp, le_nI, lt_nI, eq_nI, vp_nI, nI_NN, NN_nI, NN_lt, NN_le, lt_NN, le_NN, xF']
    repeat' (first | refine Rn_and (by first | omega | assumption) ?_ | refine Rn_pos (by first | omega | assumption) ?_ | refine Rn_neg (by first | omega | assumption) ?_ | refine Rn_pos' (by first | omega | assumption) ?_ | refine Rn_neg' (by first | omega | assumption) ?_ | fail)
    refine loopU (C := fun i s Q => J IX M_X7_tellFacts (d + 2) 66 [(0, ar 0 0), (1, ai (nI i))] [] s Q) (Inv := fun n s => s.2 = σ.2 ∧ (∀ k, k ≠ 13 → k ≠ 9 → s.1 k = s1.1 k) ∧ PX σ F N (nI (D * 48 + N)) n s) (n := F) ?_ ?_ (by omega) ⟨e2, fun k _ _ => rfl, fun u j _ => by rw [o1 9 (by omega)], fun u k _ => by rw [o1 13 (by omega)], fun u k hu => absurd hu (Nat.not_lt_zero _)⟩
    · rintro i s hi ⟨hs2, hso, h9, h13, hk⟩ ih
      have xF' : s.1 0 0 9 = nI F := by rw [hso 0 (by omega) (by omega), o1 0 (by omega)]; exact xF
      have xN' : s.1 0 0 14 = nI N := by rw [hso 0 (by omega) (by omega), o1 0 (by omega)]; exact xN
      have xD' : s.1 0 0 15 = nI D := by rw [hso 0 (by omega) (by omega), o1 0 (by omega)]; exact xD
      have e12 : s.1 12 = σ.1 12 := by rw [hso 12 (by omega) (by omega), o1 12 (by omega)]
      have o27 : s.1 27 = s1.1 27 := hso 27 (by omega) (by omega)
      refine Rn_map (fun Q => x_X7_tellFacts_66) ?_
      have out : (∀ p, p < 12 → σ.1 12 i N ≠ nI p) → PX σ F N (nI (D * 48 + N)) (i + 1) s := by
        intro h
        refine ⟨fun u j hj => h9 u j (by omega), fun u k hu => h13 u k (by omega), fun u k hu hk12 => ?_⟩
        by_cases e : u = i
        · subst e
          have nt : ¬ TX σ F N u k := by
            rintro ⟨p, f, h1, h2, h3, _⟩
            exact h p h1 h3
          rw [h9 u 11 (Or.inr (by omega)), h13 u k (by omega)]
          exact ⟨⟨Or.inl, fun z => z.resolve_right nt⟩, fun _ z => absurd z nt, fun _ => rfl⟩
        · exact hk u k (by omega) hk12
      rcases hc i (by omega) with e | ⟨n, hn, e⟩
      · simp (disch := omega) only [lit_0, lit_1, lit_2, lit_3, lit_4, lit_5, lit_6, lit_7, lit_8, lit_9, lit_10, lit_11, lit_12, lit_17, lit_20, lit_30, lit_31, lit_32, lit_47, lit_48, lit_60, lit_99, lit_100, lit_144, lit_200, lit_240, lit_300, lit_576, lit_960, lit_1008, lit_1000000, lit_100000000, true_implies, not_true_eq_false, false_implies, not_false_eq_true, true_and, and_true, neg_1, nI_add, pk_mul, nI_clamp, le_nI, lt_nI, eq_nI, vp_nI, nI_NN, NN_nI, NN_lt, NN_le, lt_NN, le_NN, xF', xN', e12, e]
        repeat' (first | refine Rn_and (by first | omega | assumption) ?_ | refine Rn_pos (by first | omega | assumption) ?_ | refine Rn_neg (by first | omega | assumption) ?_ | refine Rn_pos' (by first | omega | assumption) ?_ | refine Rn_neg' (by first | omega | assumption) ?_ | fail)
        exact ih _ ⟨hs2, hso, out (fun p hp => by rw [e, ne_eq, NN_nI (by omega)]; exact not_false)⟩
      · by_cases hp : n < 12
        · have e27' : s.1 27 0 n = T n F := by rw [o27]; exact e27 n hp
          simp (disch := omega) only [lit_0, lit_1, lit_2, lit_3, lit_4, lit_5, lit_6, lit_7, lit_8, lit_9, lit_10, lit_11, lit_12, lit_17, lit_20, lit_30, lit_31, lit_32, lit_47, lit_48, lit_60, lit_99, lit_100, lit_144, lit_200, lit_240, lit_300, lit_576, lit_960, lit_1008, lit_1000000, lit_100000000, true_implies, not_true_eq_false, false_implies, not_false_eq_true, true_and, and_true, neg_1, nI_add, pk_mul, nI_clamp, le_nI, lt_nI, eq_nI, vp_nI, nI_NN, NN_nI, NN_lt, NN_le, lt_NN, le_NN, xF', xN', xD', e12, e, e27']
          repeat' (first | refine Rn_and (by first | omega | assumption) ?_ | refine Rn_pos (by first | omega | assumption) ?_ | refine Rn_neg (by first | omega | assumption) ?_ | refine Rn_pos' (by first | omega | assumption) ?_ | refine Rn_neg' (by first | omega | assumption) ?_ | fail)
          refine Rn_cV (Rv_mono f_X3_learn ?_)
          rintro s' hs'
          have e9i : s.1 9 i 11 = σ.1 9 i 11 := h9 i 11 (Or.inr (by omega))
          have q9 : ∀ u j, s'.1 9 u j = if u = i ∧ j = 11 then σ.1 9 i 11 ||| T n F else s.1 9 u j := by
            intro u j
            rw [hs', wI_r]
            by_cases h : u = i ∧ j = 11
            · rw [if_pos ⟨rfl, h.1, h.2⟩, if_pos h, e9i]
            · rw [if_neg (fun z => h z.2), if_neg h, sK_r, if_neg (by omega)]
          have q13 : ∀ u k, s'.1 13 u k = if u = i ∧ k < 12 ∧ bt (T n F) k = true ∧ bt (σ.1 9 i 11) k = false then nI (D * 48 + N) else s.1 13 u k := by
            intro u k
            rw [hs', wI_r, if_neg (by omega), sK_r, if_pos rfl, e9i]
          have tx : ∀ k, TX σ F N i k ↔ bt (T n F) k = true := by
            intro k
            rw [hT, orF_bt]
            constructor
            · rintro ⟨p, f, h1, h2, h3, h4, h5⟩
              have ep : n = p := by
                rw [e, eq_nI (by omega) (by omega)] at h3
                exact h3
              exact ⟨f, h2, by rw [ep]; simpa using h4, h5⟩
            · rintro ⟨f, h1, h2, h3⟩
              exact ⟨n, f, hp, h1, e, by simpa using h2, h3⟩
          refine ih _ ⟨by rw [hs']; exact hs2, fun k k13 k9 => ?_, fun u j hj => ?_, fun u k hu => ?_, fun u k hu hk12 => ?_⟩
          · rw [← hso k k13 k9]
            funext a b
            rw [hs', wI_r, if_neg (fun z => k9 z.1), sK_r, if_neg k13]
          · rw [q9, if_neg (by omega)]
            exact h9 u j (by omega)
          · rw [q13, if_neg (by omega)]
            exact h13 u k (by omega)
          · by_cases eu : u = i
            · subst eu
              rw [q9, if_pos ⟨rfl, rfl⟩, q13, b_or, Bool.or_eq_true, tx]
              refine ⟨Iff.rfl, fun h1 h2 => if_pos ⟨rfl, hk12, h2, h1⟩, fun h => ?_⟩
              rw [if_neg, h13 u k (by omega)]
              rintro ⟨_, _, h1, h2⟩
              rcases h with h | h
              · rw [h] at h2; cases h2
              · exact h h1
            · rw [q9, if_neg (fun z => eu z.1), q13, if_neg (fun z => eu z.1)]
              exact hk u k (by omega) hk12
        · simp (disch := omega) only [lit_0, lit_1, lit_2, lit_3, lit_4, lit_5, lit_6, lit_7, lit_8, lit_9, lit_10, lit_11, lit_12, lit_17, lit_20, lit_30, lit_31, lit_32, lit_47, lit_48, lit_60, lit_99, lit_100, lit_144, lit_200, lit_240, lit_300, lit_576, lit_960, lit_1008, lit_1000000, lit_100000000, true_implies, not_true_eq_false, false_implies, not_false_eq_true, true_and, and_true, neg_1, nI_add, pk_mul, nI_clamp, le_nI, lt_nI, eq_nI, vp_nI, nI_NN, NN_nI, NN_lt, NN_le, lt_NN, le_NN, xF', xN', e12, e]
          repeat' (first | refine Rn_and (by first | omega | assumption) ?_ | refine Rn_pos (by first | omega | assumption) ?_ | refine Rn_neg (by first | omega | assumption) ?_ | refine Rn_pos' (by first | omega | assumption) ?_ | refine Rn_neg' (by first | omega | assumption) ?_ | fail)
          exact ih _ ⟨hs2, hso, out (fun p hp => by rw [e, ne_eq, eq_nI (by omega) (by omega)]; omega)⟩
    · rintro s ⟨hs2, hso, hs⟩
      have xF' : s.1 0 0 9 = nI F := by rw [hso 0 (by omega) (by omega), o1 0 (by omega)]; exact xF
      refine Rn_map (fun Q => x_X7_tellFacts_66) ?_
      simp (disch := omega) only [lit_0, lit_1, lit_2, lit_3, lit_4, lit_5, lit_6, lit_7, lit_8, lit_9, lit_10, lit_11, lit_12, lit_17, lit_20, lit_30, lit_31, lit_32, lit_47, lit_48, lit_60, lit_99, lit_100, lit_144, lit_200, lit_240, lit_300, lit_576, lit_960, lit_1008, lit_1000000, lit_100000000, true_implies, not_true_eq_false, false_implies, not_false_eq_true, true_and, and_true, neg_1, nI_add, pk_mul, nI_clamp, le_nI, lt_nI, eq_nI, vp_nI, nI_NN, NN_nI, NN_lt, NN_le, lt_NN, le_NN, xF']
      repeat' (first | refine Rn_and (by first | omega | assumption) ?_ | refine Rn_pos (by first | omega | assumption) ?_ | refine Rn_neg (by first | omega | assumption) ?_ | refine Rn_pos' (by first | omega | assumption) ?_ | refine Rn_neg' (by first | omega | assumption) ?_ | fail)
      exact Rn_ret ⟨rfl, hs2, fun k k27 k13 k9 => by rw [hso k k13 k9, o1 k k27], hs⟩
  · rw [hs0]
    refine Mem_ext (fun k a b => ?_) rfl
    simp only [sK_r, hT0]

