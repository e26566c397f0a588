variable {κ : Nat → Nat → Nat → Prop}
/-! ===== what is told, by the reference ===== -/
def pr (σ : Mem) (N f u k : Nat) : Prop := f ≠ u ∧ ∃ p, p < 12 ∧ σ.1 46 0 (48 * f + N) = nI p ∧ σ.1 46 0 (48 * u + N) = nI p ∧ σ.1 54 0 (12 * f + k) ≠ NN
def TI (σ s0 : Mem) (F C : Nat) (mo : Int32) (Z : Nat → Nat → Prop) (s : Mem) : Prop := (∀ k, k ≠ 54 → s.1 k = s0.1 k) ∧ s.2 = s0.2 ∧ ∀ u k, u < 20 → k < 12 → ((σ.1 54 0 (12 * u + k) = NN ∧ u < F ∧ k < C ∧ Z u k) → s.1 54 0 (12 * u + k) = mo) ∧ (¬ (σ.1 54 0 (12 * u + k) = NN ∧ u < F ∧ k < C ∧ Z u k) → s.1 54 0 (12 * u + k) = σ.1 54 0 (12 * u + k))
theorem TI_c {σ s0 s : Mem} {F C : Nat} {mo : Int32} {Z Z' : Nat → Nat → Prop} (h : TI σ s0 F C mo Z s) (e : ∀ u k, u < F → k < C → u < 20 → k < 12 → σ.1 54 0 (12 * u + k) = NN → (Z u k ↔ Z' u k)) : TI σ s0 F C mo Z' s := by
  obtain ⟨h1, h2, h3⟩ := h
  refine ⟨h1, h2, fun u k hu hk => ?_⟩
  obtain ⟨i1, i2⟩ := h3 u k hu hk
  have ee : (σ.1 54 0 (12 * u + k) = NN ∧ u < F ∧ k < C ∧ Z u k) ↔ (σ.1 54 0 (12 * u + k) = NN ∧ u < F ∧ k < C ∧ Z' u k) := ⟨fun ⟨a, b, c, z⟩ => ⟨a, b, c, (e u k b c hu hk a).1 z⟩, fun ⟨a, b, c, z⟩ => ⟨a, b, c, (e u k b c hu hk a).2 z⟩⟩
  exact ⟨fun z => i1 (ee.2 z), fun z => i2 (fun q => z (ee.1 q))⟩
theorem TI_w {σ s0 s : Mem} {F C : Nat} {mo : Int32} {Z : Nat → Nat → Prop} {a b : Nat} (hb : b < 12) (h : TI σ s0 F C mo Z s) (hF : a < F) (hC : b < C) (h0 : σ.1 54 0 (12 * a + b) = NN) : TI σ s0 F C mo (fun u k => Z u k ∨ (u = a ∧ k = b)) (wI s 54 0 (12 * a + b) mo) := by
  obtain ⟨h1, h2, h3⟩ := h
  refine ⟨fun k hk => ?_, h2, fun u k hu hk => ?_⟩
  · rw [← h1 k hk]
    funext i j
    rw [wI_r, if_neg (fun z => hk z.1)]
  · rw [wI_r]
    obtain ⟨i1, i2⟩ := h3 u k hu hk
    by_cases e : u = a ∧ k = b
    · rw [if_pos ⟨rfl, rfl, by rw [e.1, e.2]⟩]
      refine ⟨fun _ => rfl, fun z => absurd ⟨by rw [e.1, e.2]; exact h0, by omega, by omega, Or.inr e⟩ z⟩
    · rw [if_neg (fun z => e (by omega))]
      exact ⟨fun ⟨z1, z2, z3, z4⟩ => i1 ⟨z1, z2, z3, z4.resolve_right e⟩, fun z => i2 (fun ⟨z1, z2, z3, z4⟩ => z ⟨z1, z2, z3, Or.inl z4⟩)⟩
theorem TI_n {σ s0 s : Mem} {F C : Nat} {mo : Int32} {Z : Nat → Nat → Prop} {u k : Nat} (h : TI σ s0 F C mo Z s) (hu : u < 20) (hk : k < 12) (hmo : mo ≠ NN) : (s.1 54 0 (12 * u + k) = NN) ↔ (σ.1 54 0 (12 * u + k) = NN ∧ ¬ (u < F ∧ k < C ∧ Z u k)) := by
  obtain ⟨i1, i2⟩ := h.2.2 u k hu hk
  by_cases e : σ.1 54 0 (12 * u + k) = NN ∧ u < F ∧ k < C ∧ Z u k
  · rw [i1 e]
    exact ⟨fun z => absurd z hmo, fun z => absurd e.2 z.2⟩
  · rw [i2 e]
    exact ⟨fun z => ⟨z, fun q => e ⟨z, q⟩⟩, fun z => z.1⟩
theorem f_X8_tells {d F C N D : Nat} {σ : Mem} (hF : F ≤ 20) (hC : C ≤ 12) (hN : N < 48) (hD : D ≤ 20) (mF : σ.1 30 0 13 = nI F) (mC : σ.1 30 0 31 = nI C) (mN : σ.1 30 0 2 = nI N) (mD : σ.1 30 0 3 = nI D) (hc : ∀ f, f < 20 → σ.1 46 0 (48 * f + N) = NN ∨ ∃ n, n < 400 ∧ σ.1 46 0 (48 * f + N) = nI n) : Rv (fun K => CalV IM (d + 2) S_X8_tells [ar 30 0] σ K) (fun s => ∃ s0 : Mem, (∀ k, k ≠ 55 → s0.1 k = σ.1 k) ∧ s0.2 = σ.2 ∧ TI σ s0 F C (nI (48 * D + N)) (fun u k => ∃ f, f < F ∧ pr σ N f u k) s) := by
  refine Rv_map (fun K => x_X8_tells) (Rv_KV ?_)
  simp (disch := omega) only [lit_0, lit_1, lit_2, lit_3, lit_4, lit_5, lit_6, lit_7, lit_8, lit_9, lit_10, lit_11, lit_12, lit_17, lit_20, lit_30, lit_31, lit_32, lit_47, lit_48, lit_60, lit_99, lit_100, lit_144, lit_200, lit_240, lit_300, lit_576, lit_960, lit_1008, lit_1000000, lit_100000000, true_implies, not_true_eq_false, false_implies, not_false_eq_true, true_and, and_true, neg_1, nI_add, pk_mul, nI_clamp, le_nI, lt_nI, eq_nI, vp_nI, nI_NN, NN_nI, NN_lt, NN_le, lt_NN, le_NN]
  refine loopU (C := fun i s Q => J IM M_X8_tells (d + 2) 2 [(0, ar 30 0), (1, ai (nI i))] [] s Q) (Inv := fun n s => s = sK σ 55 (fun i j => if i = 0 ∧ j < n then (if σ.1 54 0 j = NN then nI 0 else nI 1) else σ.1 55 i j)) (n := 240) ?_ ?_ (by omega) ?_
  · rintro i s hi hs ih
    have e54 : s.1 54 = σ.1 54 := by rw [hs]; rfl
    refine Rn_map (fun Q => x_X8_tells_2) ?_
    by_cases e : σ.1 54 0 i = NN
    · simp (disch := omega) only [lit_0, lit_1, lit_2, lit_3, lit_4, lit_5, lit_6, lit_7, lit_8, lit_9, lit_10, lit_11, lit_12, lit_17, lit_20, lit_30, lit_31, lit_32, lit_47, lit_48, lit_60, lit_99, lit_100, lit_144, lit_200, lit_240, lit_300, lit_576, lit_960, lit_1008, lit_1000000, lit_100000000, true_implies, not_true_eq_false, false_implies, not_false_eq_true, true_and, and_true, neg_1, nI_add, pk_mul, nI_clamp, le_nI, lt_nI, eq_nI, vp_nI, nI_NN, NN_nI, NN_lt, NN_le, lt_NN, le_NN, e54, e]
      repeat' (first | refine Rn_and (by first | omega | assumption) ?_ | refine Rn_pos (by first | omega | assumption) ?_ | refine Rn_neg (by first | omega | assumption) ?_ | refine Rn_pos' (by first | omega | assumption) ?_ | refine Rn_neg' (by first | omega | assumption) ?_ | fail)
      subst hs
      refine ih _ (Mem_ext (fun k a b => ?_) rfl)
      simp only [wI_r, sK_r]
      grind
    · simp (disch := omega) only [lit_0, lit_1, lit_2, lit_3, lit_4, lit_5, lit_6, lit_7, lit_8, lit_9, lit_10, lit_11, lit_12, lit_17, lit_20, lit_30, lit_31, lit_32, lit_47, lit_48, lit_60, lit_99, lit_100, lit_144, lit_200, lit_240, lit_300, lit_576, lit_960, lit_1008, lit_1000000, lit_100000000, true_implies, not_true_eq_false, false_implies, not_false_eq_true, true_and, and_true, neg_1, nI_add, pk_mul, nI_clamp, le_nI, lt_nI, eq_nI, vp_nI, nI_NN, NN_nI, NN_lt, NN_le, lt_NN, le_NN, e54]
      refine Rn_neg (by omega) (Rn_and (by omega) ?_)
      refine Rn_neg e ?_
      repeat' (first | refine Rn_and (by first | omega | assumption) ?_ | refine Rn_pos (by first | omega | assumption) ?_ | refine Rn_neg (by first | omega | assumption) ?_ | refine Rn_pos' (by first | omega | assumption) ?_ | refine Rn_neg' (by first | omega | assumption) ?_ | fail)
      subst hs
      refine ih _ (Mem_ext (fun k a b => ?_) rfl)
      simp only [wI_r, sK_r]
      grind
  rotate_left
  · refine Mem_ext (fun k a b => ?_) rfl
    simp only [sK_r]
    grind
  rintro s0 hs0
  have o0 : ∀ k, k ≠ 55 → s0.1 k = σ.1 k := by
    intro k hk
    funext i j
    rw [hs0, sK_r, if_neg hk]
  have e55 : ∀ j, j < 240 → s0.1 55 0 j = if σ.1 54 0 j = NN then nI 0 else nI 1 := fun j hj => by rw [hs0, sK_r, if_pos rfl, if_pos ⟨rfl, hj⟩]
  have e2 : s0.2 = σ.2 := by rw [hs0]; rfl
  clear hs0
  have hmo : nI (48 * D + N) ≠ NN := by rw [ne_eq, nI_NN (by omega)]; exact not_false
  -- reads in the loops
  have rd : ∀ {Z : Nat → Nat → Prop} {s : Mem}, TI σ s0 F C (nI (48 * D + N)) Z s → s.1 30 0 13 = nI F ∧ s.1 30 0 31 = nI C ∧ s.1 30 0 2 = nI N ∧ s.1 30 0 3 = nI D ∧ s.1 46 = σ.1 46 ∧ s.1 55 = s0.1 55 := by
    intro Z s h
    have q := h.1
    exact ⟨by rw [q 30 (by omega), o0 30 (by omega)]; exact mF, by rw [q 30 (by omega), o0 30 (by omega)]; exact mC, by rw [q 30 (by omega), o0 30 (by omega)]; exact mN, by rw [q 30 (by omega), o0 30 (by omega)]; exact mD, by rw [q 46 (by omega), o0 46 (by omega)], q 55 (by omega)⟩
  refine Rn_map (fun Q => x_X8_tells_2) ?_
  simp (disch := omega) only [lit_0, lit_1, lit_2, lit_3, lit_4, lit_5, lit_6, lit_7, lit_8, lit_9, lit_10, lit_11, lit_12, lit_17, lit_20, lit_30, lit_31, lit_32, lit_47, lit_48, lit_60, lit_99, lit_100, lit_144, lit_200, lit_240, lit_300, lit_576, lit_960, lit_1008, lit_1000000, lit_100000000, true_implies, not_true_eq_false, false_implies, not_false_eq_true, true_and, and_true, neg_1, nI_add, pk_mul, nI_clamp, le_nI, lt_nI, eq_nI, vp_nI, nI_NN, NN_nI, NN_lt, NN_le, lt_NN, le_NN]
  repeat' (first | refine Rn_and (by first | omega | assumption) ?_ | refine Rn_pos (by first | omega | assumption) ?_ | refine Rn_neg (by first | omega | assumption) ?_ | refine Rn_pos' (by first | omega | assumption) ?_ | refine Rn_neg' (by first | omega | assumption) ?_ | fail)
  refine loopU (C := fun i s Q => J IM M_X8_tells (d + 2) 38 [(0, ar 30 0), (1, ai (nI i))] [] s Q) (Inv := fun n s => TI σ s0 F C (nI (48 * D + N)) (fun u k => ∃ f, f < n ∧ pr σ N f u k) s) (n := F) ?_ ?_ (by omega) ⟨fun k _ => rfl, rfl, fun u k hu hk => ⟨fun ⟨_, _, _, f, hf, _⟩ => absurd hf (Nat.not_lt_zero _), fun _ => by rw [o0 54 (by omega)]⟩⟩
  · rintro i s hi hs ih
    obtain ⟨r13, r31, r2, r3, r46, r55⟩ := rd hs
    refine Rn_map (fun Q => x_X8_tells_38) ?_
    simp (disch := omega) only [lit_0, lit_1, lit_2, lit_3, lit_4, lit_5, lit_6, lit_7, lit_8, lit_9, lit_10, lit_11, lit_12, lit_17, lit_20, lit_30, lit_31, lit_32, lit_47, lit_48, lit_60, lit_99, lit_100, lit_144, lit_200, lit_240, lit_300, lit_576, lit_960, lit_1008, lit_1000000, lit_100000000, true_implies, not_true_eq_false, false_implies, not_false_eq_true, true_and, and_true, neg_1, nI_add, pk_mul, nI_clamp, le_nI, lt_nI, eq_nI, vp_nI, nI_NN, NN_nI, NN_lt, NN_le, lt_NN, le_NN, r13]
    repeat' (first | refine Rn_and (by first | omega | assumption) ?_ | refine Rn_pos (by first | omega | assumption) ?_ | refine Rn_neg (by first | omega | assumption) ?_ | refine Rn_pos' (by first | omega | assumption) ?_ | refine Rn_neg' (by first | omega | assumption) ?_ | fail)
    refine loopU (C := fun j s Q => J IM M_X8_tells (d + 2) 48 [(0, ar 30 0), (1, ai (nI i)), (2, ai (nI j))] [] s Q) (Inv := fun m s => TI σ s0 F C (nI (48 * D + N)) (fun u k => (∃ f, f < i ∧ pr σ N f u k) ∨ (u < m ∧ pr σ N i u k)) s) (n := F) ?_ ?_ (by omega) (TI_c hs (fun u k _ _ _ _ _ => ⟨Or.inl, fun z => z.resolve_right (fun q => absurd q.1 (Nat.not_lt_zero _))⟩))
    · rintro j s hj hs ih2
      obtain ⟨r13, r31, r2, r3, r46, r55⟩ := rd hs
      have skip : (∀ k, k < 12 → σ.1 54 0 (12 * j + k) = NN → ¬ pr σ N i j k) → TI σ s0 F C (nI (48 * D + N)) (fun u k => (∃ f, f < i ∧ pr σ N f u k) ∨ (u < j + 1 ∧ pr σ N i u k)) s := by
        intro h
        refine TI_c hs (fun u k _ _ _ hk h54 => ⟨fun z => z.imp_right (fun q => ⟨by omega, q.2⟩), fun z => z.imp_right (fun q => ⟨?_, q.2⟩)⟩)
        by_cases e : u = j
        · subst e
          exact absurd q.2 (h k hk h54)
        · omega
      refine Rn_map (fun Q => x_X8_tells_48) ?_
      by_cases eij : i = j
      · simp (disch := omega) only [lit_0, lit_1, lit_2, lit_3, lit_4, lit_5, lit_6, lit_7, lit_8, lit_9, lit_10, lit_11, lit_12, lit_17, lit_20, lit_30, lit_31, lit_32, lit_47, lit_48, lit_60, lit_99, lit_100, lit_144, lit_200, lit_240, lit_300, lit_576, lit_960, lit_1008, lit_1000000, lit_100000000, true_implies, not_true_eq_false, false_implies, not_false_eq_true, true_and, and_true, neg_1, nI_add, pk_mul, nI_clamp, le_nI, lt_nI, eq_nI, vp_nI, nI_NN, NN_nI, NN_lt, NN_le, lt_NN, le_NN, r13, r2, r46]
        repeat' (first | refine Rn_and (by first | omega | assumption) ?_ | refine Rn_pos (by first | omega | assumption) ?_ | refine Rn_neg (by first | omega | assumption) ?_ | refine Rn_pos' (by first | omega | assumption) ?_ | refine Rn_neg' (by first | omega | assumption) ?_ | fail)
        exact ih2 _ (skip (fun k _ _ z => z.1 eij))
      · rcases hc i (by omega) with e | ⟨n, hn, e⟩
        · simp (disch := omega) only [lit_0, lit_1, lit_2, lit_3, lit_4, lit_5, lit_6, lit_7, lit_8, lit_9, lit_10, lit_11, lit_12, lit_17, lit_20, lit_30, lit_31, lit_32, lit_47, lit_48, lit_60, lit_99, lit_100, lit_144, lit_200, lit_240, lit_300, lit_576, lit_960, lit_1008, lit_1000000, lit_100000000, true_implies, not_true_eq_false, false_implies, not_false_eq_true, true_and, and_true, neg_1, nI_add, pk_mul, nI_clamp, le_nI, lt_nI, eq_nI, vp_nI, nI_NN, NN_nI, NN_lt, NN_le, lt_NN, le_NN, r13, r2, r46, e]
          repeat' (first | refine Rn_and (by first | omega | assumption) ?_ | refine Rn_pos (by first | omega | assumption) ?_ | refine Rn_neg (by first | omega | assumption) ?_ | refine Rn_pos' (by first | omega | assumption) ?_ | refine Rn_neg' (by first | omega | assumption) ?_ | fail)
          exact ih2 _ (skip (fun k _ _ ⟨_, p, hp, z, _⟩ => by rw [e, NN_nI (by omega)] at z; exact z))
        · by_cases hp : n < 12
          · by_cases ej : σ.1 46 0 (48 * j + N) = nI n
            · simp (disch := omega) only [lit_0, lit_1, lit_2, lit_3, lit_4, lit_5, lit_6, lit_7, lit_8, lit_9, lit_10, lit_11, lit_12, lit_17, lit_20, lit_30, lit_31, lit_32, lit_47, lit_48, lit_60, lit_99, lit_100, lit_144, lit_200, lit_240, lit_300, lit_576, lit_960, lit_1008, lit_1000000, lit_100000000, true_implies, not_true_eq_false, false_implies, not_false_eq_true, true_and, and_true, neg_1, nI_add, pk_mul, nI_clamp, le_nI, lt_nI, eq_nI, vp_nI, nI_NN, NN_nI, NN_lt, NN_le, lt_NN, le_NN, r13, r2, r46, e, ej]
              repeat' (first | refine Rn_and (by first | omega | assumption) ?_ | refine Rn_pos (by first | omega | assumption) ?_ | refine Rn_neg (by first | omega | assumption) ?_ | refine Rn_pos' (by first | omega | assumption) ?_ | refine Rn_neg' (by first | omega | assumption) ?_ | fail)
              refine loopU (C := fun kk s Q => J IM M_X8_tells (d + 2) 107 [(0, ar 30 0), (1, ai (nI i)), (2, ai (nI j)), (4, ai (nI kk))] [] s Q) (Inv := fun m s => TI σ s0 F C (nI (48 * D + N)) (fun u k => ((∃ f, f < i ∧ pr σ N f u k) ∨ (u < j ∧ pr σ N i u k)) ∨ (u = j ∧ k < m ∧ pr σ N i j k)) s) (n := C) ?_ ?_ (by omega) (TI_c hs (fun u k _ _ _ _ _ => ⟨Or.inl, fun z => z.resolve_right (fun q => absurd q.2.1 (Nat.not_lt_zero _))⟩))
              · rintro kk s hk hs ih3
                obtain ⟨r13, r31, r2, r3, r46, r55⟩ := rd hs
                have e5 := e55 (12 * i + kk) (by omega)
                rw [← r55] at e5
                have prk : pr σ N i j kk ↔ σ.1 54 0 (12 * i + kk) ≠ NN := ⟨fun ⟨_, p, _, _, _, z⟩ => z, fun z => ⟨eij, n, hp, e, ej, z⟩⟩
                have same : (σ.1 54 0 (12 * j + kk) = NN → pr σ N i j kk → ((∃ f, f < i ∧ pr σ N f j kk) ∨ (j < j ∧ pr σ N i j kk)) ∨ (j = j ∧ kk < kk ∧ pr σ N i j kk)) → TI σ s0 F C (nI (48 * D + N)) (fun u k => ((∃ f, f < i ∧ pr σ N f u k) ∨ (u < j ∧ pr σ N i u k)) ∨ (u = j ∧ k < kk + 1 ∧ pr σ N i j k)) s := by
                  intro h
                  refine TI_c hs (fun u k _ _ _ _ h54 => ⟨fun z => z.imp_right (fun q => ⟨q.1, by omega, q.2.2⟩), fun z => ?_⟩)
                  rcases z with z | ⟨z1, z2, z3⟩
                  · exact Or.inl z
                  · by_cases ek : k = kk
                    · subst ek
                      subst z1
                      exact h h54 z3
                    · exact Or.inr ⟨z1, by omega, z3⟩
                refine Rn_map (fun Q => x_X8_tells_107) ?_
                by_cases e54 : σ.1 54 0 (12 * i + kk) = NN
                · rw [if_pos e54] at e5
                  simp (disch := omega) only [lit_0, lit_1, lit_2, lit_3, lit_4, lit_5, lit_6, lit_7, lit_8, lit_9, lit_10, lit_11, lit_12, lit_17, lit_20, lit_30, lit_31, lit_32, lit_47, lit_48, lit_60, lit_99, lit_100, lit_144, lit_200, lit_240, lit_300, lit_576, lit_960, lit_1008, lit_1000000, lit_100000000, true_implies, not_true_eq_false, false_implies, not_false_eq_true, true_and, and_true, neg_1, nI_add, pk_mul, nI_clamp, le_nI, lt_nI, eq_nI, vp_nI, nI_NN, NN_nI, NN_lt, NN_le, lt_NN, le_NN, r31, e5]
                  repeat' (first | refine Rn_and (by first | omega | assumption) ?_ | refine Rn_pos (by first | omega | assumption) ?_ | refine Rn_neg (by first | omega | assumption) ?_ | refine Rn_pos' (by first | omega | assumption) ?_ | refine Rn_neg' (by first | omega | assumption) ?_ | fail)
                  exact ih3 _ (same (fun _ z => absurd e54 (prk.1 z)))
                · rw [if_neg e54] at e5
                  have tn := TI_n hs (u := j) (k := kk) (by omega) (by omega) hmo
                  by_cases ejk : s.1 54 0 (12 * j + kk) = NN
                  · simp (disch := omega) only [lit_0, lit_1, lit_2, lit_3, lit_4, lit_5, lit_6, lit_7, lit_8, lit_9, lit_10, lit_11, lit_12, lit_17, lit_20, lit_30, lit_31, lit_32, lit_47, lit_48, lit_60, lit_99, lit_100, lit_144, lit_200, lit_240, lit_300, lit_576, lit_960, lit_1008, lit_1000000, lit_100000000, true_implies, not_true_eq_false, false_implies, not_false_eq_true, true_and, and_true, neg_1, nI_add, pk_mul, nI_clamp, le_nI, lt_nI, eq_nI, vp_nI, nI_NN, NN_nI, NN_lt, NN_le, lt_NN, le_NN, r31, e5, ejk, r3, r2]
                    repeat' (first | refine Rn_and (by first | omega | assumption) ?_ | refine Rn_pos (by first | omega | assumption) ?_ | refine Rn_neg (by first | omega | assumption) ?_ | refine Rn_pos' (by first | omega | assumption) ?_ | refine Rn_neg' (by first | omega | assumption) ?_ | fail)
                    refine ih3 _ (TI_c (TI_w (by omega) hs hj hk (tn.1 ejk).1) (fun u k _ _ _ _ h54 => ⟨fun z => ?_, fun z => ?_⟩))
                    · rcases z with z | ⟨z1, z2⟩
                      · exact z.imp_right (fun q => ⟨q.1, by omega, q.2.2⟩)
                      · exact Or.inr ⟨z1, by omega, by rw [z2]; exact prk.2 e54⟩
                    · rcases z with z | ⟨z1, z2, z3⟩
                      · exact Or.inl (Or.inl z)
                      · by_cases ek : k = kk
                        · exact Or.inr ⟨z1, ek⟩
                        · exact Or.inl (Or.inr ⟨z1, by omega, z3⟩)
                  · simp (disch := omega) only [lit_0, lit_1, lit_2, lit_3, lit_4, lit_5, lit_6, lit_7, lit_8, lit_9, lit_10, lit_11, lit_12, lit_17, lit_20, lit_30, lit_31, lit_32, lit_47, lit_48, lit_60, lit_99, lit_100, lit_144, lit_200, lit_240, lit_300, lit_576, lit_960, lit_1008, lit_1000000, lit_100000000, true_implies, not_true_eq_false, false_implies, not_false_eq_true, true_and, and_true, neg_1, nI_add, pk_mul, nI_clamp, le_nI, lt_nI, eq_nI, vp_nI, nI_NN, NN_nI, NN_lt, NN_le, lt_NN, le_NN, r31, e5]
                    repeat' (first | refine Rn_and (by first | omega | assumption) ?_ | refine Rn_pos (by first | omega | assumption) ?_ | refine Rn_neg (by first | omega | assumption) ?_ | refine Rn_pos' (by first | omega | assumption) ?_ | refine Rn_neg' (by first | omega | assumption) ?_ | fail)
                    try refine Rn_neg' ejk ?_
                    refine ih3 _ (same (fun h54 _ => ?_))
                    exact Classical.byContradiction (fun q => ejk (tn.2 ⟨h54, fun z => q z.2.2⟩))
              · rintro s hs
                obtain ⟨r13, r31, r2, r3, r46, r55⟩ := rd hs
                refine Rn_map (fun Q => x_X8_tells_107) ?_
                simp (disch := omega) only [lit_0, lit_1, lit_2, lit_3, lit_4, lit_5, lit_6, lit_7, lit_8, lit_9, lit_10, lit_11, lit_12, lit_17, lit_20, lit_30, lit_31, lit_32, lit_47, lit_48, lit_60, lit_99, lit_100, lit_144, lit_200, lit_240, lit_300, lit_576, lit_960, lit_1008, lit_1000000, lit_100000000, true_implies, not_true_eq_false, false_implies, not_false_eq_true, true_and, and_true, neg_1, nI_add, pk_mul, nI_clamp, le_nI, lt_nI, eq_nI, vp_nI, nI_NN, NN_nI, NN_lt, NN_le, lt_NN, le_NN, r31]
                repeat' (first | refine Rn_and (by first | omega | assumption) ?_ | refine Rn_pos (by first | omega | assumption) ?_ | refine Rn_neg (by first | omega | assumption) ?_ | refine Rn_pos' (by first | omega | assumption) ?_ | refine Rn_neg' (by first | omega | assumption) ?_ | fail)
                refine ih2 _ (TI_c hs (fun u k _ hkC _ _ _ => ⟨fun z => ?_, fun z => ?_⟩))
                · rcases z with (z | ⟨z1, z2⟩) | ⟨z1, z2, z3⟩
                  · exact Or.inl z
                  · exact Or.inr ⟨by omega, z2⟩
                  · exact Or.inr ⟨by omega, by rw [z1]; exact z3⟩
                · rcases z with z | ⟨z1, z2⟩
                  · exact Or.inl (Or.inl z)
                  · by_cases eu : u = j
                    · exact Or.inr ⟨eu, hkC, by rw [← eu]; exact z2⟩
                    · exact Or.inl (Or.inr ⟨by omega, z2⟩)
            · simp (disch := omega) only [lit_0, lit_1, lit_2, lit_3, lit_4, lit_5, lit_6, lit_7, lit_8, lit_9, lit_10, lit_11, lit_12, lit_17, lit_20, lit_30, lit_31, lit_32, lit_47, lit_48, lit_60, lit_99, lit_100, lit_144, lit_200, lit_240, lit_300, lit_576, lit_960, lit_1008, lit_1000000, lit_100000000, true_implies, not_true_eq_false, false_implies, not_false_eq_true, true_and, and_true, neg_1, nI_add, pk_mul, nI_clamp, le_nI, lt_nI, eq_nI, vp_nI, nI_NN, NN_nI, NN_lt, NN_le, lt_NN, le_NN, r13, r2, r46, e]
              repeat' (first | refine Rn_and (by first | omega | assumption) ?_ | refine Rn_pos (by first | omega | assumption) ?_ | refine Rn_neg (by first | omega | assumption) ?_ | refine Rn_pos' (by first | omega | assumption) ?_ | refine Rn_neg' (by first | omega | assumption) ?_ | fail)
              try refine Rn_neg' ej ?_
              exact ih2 _ (skip (fun k _ _ ⟨_, p, hp, z, z2, _⟩ => by
                rw [e] at z
                rw [← z] at z2
                exact ej z2))
          · simp (disch := omega) only [lit_0, lit_1, lit_2, lit_3, lit_4, lit_5, lit_6, lit_7, lit_8, lit_9, lit_10, lit_11, lit_12, lit_17, lit_20, lit_30, lit_31, lit_32, lit_47, lit_48, lit_60, lit_99, lit_100, lit_144, lit_200, lit_240, lit_300, lit_576, lit_960, lit_1008, lit_1000000, lit_100000000, true_implies, not_true_eq_false, false_implies, not_false_eq_true, true_and, and_true, neg_1, nI_add, pk_mul, nI_clamp, le_nI, lt_nI, eq_nI, vp_nI, nI_NN, NN_nI, NN_lt, NN_le, lt_NN, le_NN, r13, r2, r46, e]
            repeat' (first | refine Rn_and (by first | omega | assumption) ?_ | refine Rn_pos (by first | omega | assumption) ?_ | refine Rn_neg (by first | omega | assumption) ?_ | refine Rn_pos' (by first | omega | assumption) ?_ | refine Rn_neg' (by first | omega | assumption) ?_ | fail)
            exact ih2 _ (skip (fun k _ _ ⟨_, p, hp, z, _⟩ => by rw [e, eq_nI (by omega) (by omega)] at z; omega))
    · rintro s hs
      obtain ⟨r13, r31, r2, r3, r46, r55⟩ := rd hs
      refine Rn_map (fun Q => x_X8_tells_48) ?_
      simp (disch := omega) only [lit_0, lit_1, lit_2, lit_3, lit_4, lit_5, lit_6, lit_7, lit_8, lit_9, lit_10, lit_11, lit_12, lit_17, lit_20, lit_30, lit_31, lit_32, lit_47, lit_48, lit_60, lit_99, lit_100, lit_144, lit_200, lit_240, lit_300, lit_576, lit_960, lit_1008, lit_1000000, lit_100000000, true_implies, not_true_eq_false, false_implies, not_false_eq_true, true_and, and_true, neg_1, nI_add, pk_mul, nI_clamp, le_nI, lt_nI, eq_nI, vp_nI, nI_NN, NN_nI, NN_lt, NN_le, lt_NN, le_NN, r13]
      repeat' (first | refine Rn_and (by first | omega | assumption) ?_ | refine Rn_pos (by first | omega | assumption) ?_ | refine Rn_neg (by first | omega | assumption) ?_ | refine Rn_pos' (by first | omega | assumption) ?_ | refine Rn_neg' (by first | omega | assumption) ?_ | fail)
      refine ih _ (TI_c hs (fun u k hu _ _ _ _ => ⟨fun z => ?_, fun z => ?_⟩))
      · rcases z with ⟨f, z1, z2⟩ | ⟨z1, z2⟩
        · exact ⟨f, by omega, z2⟩
        · exact ⟨i, by omega, z2⟩
      · obtain ⟨f, z1, z2⟩ := z
        by_cases ef : f = i
        · exact Or.inr ⟨hu, by rw [← ef]; exact z2⟩
        · exact Or.inl ⟨f, by omega, z2⟩
  · rintro s hs
    obtain ⟨r13, r31, r2, r3, r46, r55⟩ := rd hs
    refine Rn_map (fun Q => x_X8_tells_38) ?_
    simp (disch := omega) only [lit_0, lit_1, lit_2, lit_3, lit_4, lit_5, lit_6, lit_7, lit_8, lit_9, lit_10, lit_11, lit_12, lit_17, lit_20, lit_30, lit_31, lit_32, lit_47, lit_48, lit_60, lit_99, lit_100, lit_144, lit_200, lit_240, lit_300, lit_576, lit_960, lit_1008, lit_1000000, lit_100000000, true_implies, not_true_eq_false, false_implies, not_false_eq_true, true_and, and_true, neg_1, nI_add, pk_mul, nI_clamp, le_nI, lt_nI, eq_nI, vp_nI, nI_NN, NN_nI, NN_lt, NN_le, lt_NN, le_NN, r13]
    repeat' (first | refine Rn_and (by first | omega | assumption) ?_ | refine Rn_pos (by first | omega | assumption) ?_ | refine Rn_neg (by first | omega | assumption) ?_ | refine Rn_pos' (by first | omega | assumption) ?_ | refine Rn_neg' (by first | omega | assumption) ?_ | fail)
    exact Rn_ret ⟨rfl, s0, o0, e2, hs⟩

