variable {κ : Nat → Nat → Nat → Prop}
/-! ===== who meets ===== -/
/-- the bits of those of a meeting that are in its place -/
def seenF (me pl : Int32) (co : Nat → Int32) : Nat → Int32
  | 0 => nI 0
  | n + 1 => if bt me n = true ∧ co n = pl then seenF me pl co n ||| (nI 1 <<< (nI n &&& nI 31)) else seenF me pl co n
theorem seenF_c {me me' pl pl' : Int32} {co co' : Nat → Int32} (hm : me = me') (hp : pl = pl') : ∀ n, (∀ i, i < n → co i = co' i) → seenF me pl co n = seenF me' pl' co' n := by
  subst hm
  subst hp
  intro n
  induction n with
  | zero => intro _; rfl
  | succ n ih => intro h; rw [seenF, seenF, ih (fun i hi => h i (by omega)), h n (by omega)]
theorem seenF_up {me pl : Int32} {co : Nat → Int32} {F : Nat} (h : ∀ f, F ≤ f → bt me f = false) : ∀ k, seenF me pl co (F + k) = seenF me pl co F := by
  intro k
  induction k with
  | zero => rfl
  | succ k ih => rw [← Nat.add_assoc, seenF, if_neg (by rw [h (F + k) (by omega)]; exact fun z => by cases z.1), ih]
def liveF (σ : Mem) (g : Nat) (v : Int32) : Mem := if v = σ.1 14 g 0 then wI (wI (wI σ 14 g 7 (σ.1 14 g 7 ||| v)) 14 g 5 (σ.1 14 g 5 + nI 1)) 14 g 6 (σ.1 14 g 6 + nI 1) else wI σ 14 g 7 (σ.1 14 g 7 ||| v)
theorem f_X1_live {d g N a b : Nat} {σ : Mem} {P : Mem → Prop} (hN : N < 48) (ha : a < 2 ^ 20) (hb : b < 2 ^ 20) (x2 : σ.1 14 g 2 = nI a) (x3 : σ.1 14 g 3 = nI b) (hP : P (if a ≤ N ∧ N < b then liveF σ g (seenF (σ.1 14 g 0) (σ.1 14 g 1) (fun f => σ.1 12 f N) 20) else σ)) : Rv (fun K => CalV IX (d + 2) S_X1_live [ar 14 g, ar 25 0, ai (nI N)] σ K) P := by
  refine Rv_map (fun K => x_X1_live) ?_
  simp (disch := omega) only [lit_0, lit_1, lit_2, lit_3, lit_4, lit_5, lit_6, lit_7, lit_8, lit_9, lit_10, lit_11, lit_12, lit_17, lit_20, lit_30, lit_31, lit_32, lit_47, lit_48, lit_60, lit_99, lit_100, lit_144, lit_200, lit_240, lit_300, lit_576, lit_960, lit_1008, lit_1000000, lit_100000000, true_implies, not_true_eq_false, false_implies, not_false_eq_true, true_and, and_true, neg_1, nI_add, pk_mul, nI_clamp, le_nI, lt_nI, eq_nI, vp_nI, nI_NN, NN_nI, NN_lt, NN_le, lt_NN, le_NN, x2, x3]
  by_cases h1 : N < a
  · repeat' (first | refine Rv_and (by first | omega | assumption) ?_ | refine Rv_pos (by first | omega | assumption) ?_ | refine Rv_neg (by first | omega | assumption) ?_ | refine Rv_pos' (by first | omega | assumption) ?_ | refine Rv_neg' (by first | omega | assumption) ?_ | fail)
    rw [if_neg (by omega)] at hP
    exact Rv_ret hP
  · by_cases h2 : N < b
    · rw [if_pos (by omega)] at hP
      repeat' (first | refine Rv_and (by first | omega | assumption) ?_ | refine Rv_pos (by first | omega | assumption) ?_ | refine Rv_neg (by first | omega | assumption) ?_ | refine Rv_pos' (by first | omega | assumption) ?_ | refine Rv_neg' (by first | omega | assumption) ?_ | fail)
      refine Rv_KV ?_
      refine loopU (C := fun i v Q => J IX M_X1_live (d + 2) 22 [(0, ar 14 g), (1, ar 25 0), (2, ai (nI N)), (3, ai v), (4, ai (nI i))] [] σ Q) (Inv := fun n v => v = seenF (σ.1 14 g 0) (σ.1 14 g 1) (fun f => σ.1 12 f N) n) (n := 20) ?_ ?_ (by omega) rfl
      · rintro i v hi hv ih
        refine Rn_map (fun Q => x_X1_live_22) ?_
        simp (disch := omega) only [lit_0, lit_1, lit_2, lit_3, lit_4, lit_5, lit_6, lit_7, lit_8, lit_9, lit_10, lit_11, lit_12, lit_17, lit_20, lit_30, lit_31, lit_32, lit_47, lit_48, lit_60, lit_99, lit_100, lit_144, lit_200, lit_240, lit_300, lit_576, lit_960, lit_1008, lit_1000000, lit_100000000, true_implies, not_true_eq_false, false_implies, not_false_eq_true, true_and, and_true, neg_1, nI_add, pk_mul, nI_clamp, le_nI, lt_nI, eq_nI, vp_nI, nI_NN, NN_nI, NN_lt, NN_le, lt_NN, le_NN, bz_u]
        refine Rn_neg (by omega) ?_
        refine Rn_if (fun c => ?_) (fun c => ?_)
        · refine ih _ ?_
          rw [hv, seenF, if_neg (by rw [c]; exact fun z => by cases z.1)]
        · have c' : bt (σ.1 14 g 0) i = true := by simpa using c
          refine Rn_and (by omega) (Rn_and (by omega) ?_)
          refine Rn_if' (fun c2 => ?_) (fun c2 => ?_)
          · refine ih _ ?_
            rw [hv, seenF, if_neg (fun z => c2 z.2)]
          · refine ih _ ?_
            rw [hv, seenF, if_pos ⟨c', c2⟩]
      · rintro v hv
        refine Rn_map (fun Q => x_X1_live_22) ?_
        rw [← hv] at hP
        simp (disch := omega) only [lit_0, lit_1, lit_2, lit_3, lit_4, lit_5, lit_6, lit_7, lit_8, lit_9, lit_10, lit_11, lit_12, lit_17, lit_20, lit_30, lit_31, lit_32, lit_47, lit_48, lit_60, lit_99, lit_100, lit_144, lit_200, lit_240, lit_300, lit_576, lit_960, lit_1008, lit_1000000, lit_100000000, true_implies, not_true_eq_false, false_implies, not_false_eq_true, true_and, and_true, neg_1, nI_add, pk_mul, nI_clamp, le_nI, lt_nI, eq_nI, vp_nI, nI_NN, NN_nI, NN_lt, NN_le, lt_NN, le_NN, wI_j]
        refine Rn_pos (by omega) ?_
        refine Rn_if' (fun c => ?_) (fun c => ?_)
        · rw [liveF, if_neg c] at hP
          exact Rn_ret ⟨rfl, hP⟩
        · rw [liveF, if_pos c] at hP
          exact Rn_ret ⟨rfl, hP⟩
    · repeat' (first | refine Rv_and (by first | omega | assumption) ?_ | refine Rv_pos (by first | omega | assumption) ?_ | refine Rv_neg (by first | omega | assumption) ?_ | refine Rv_pos' (by first | omega | assumption) ?_ | refine Rv_neg' (by first | omega | assumption) ?_ | fail)
      rw [if_neg (by omega)] at hP
      exact Rv_ret hP
/-- all meetings' counts behind a tick -/
def tlX (σ : Mem) (a b : Nat → Nat) (sn : Nat → Int32) (N n : Nat) : Mem := sK σ 14 (fun g j => if g < n ∧ a g ≤ N ∧ N < b g then (if j = 7 then σ.1 14 g 7 ||| sn g else if (j = 5 ∨ j = 6) ∧ sn g = σ.1 14 g 0 then σ.1 14 g j + nI 1 else σ.1 14 g j) else σ.1 14 g j)
theorem f_X7_liveloop {d N G : Nat} {a b : Nat → Nat} {sn : Nat → Int32} {σ : Mem} {P : Option AV → Mem → Prop} (hN : N < 48) (hG : G ≤ 10) (xN : σ.1 0 0 14 = nI N) (xG : σ.1 0 0 10 = nI G) (hg : ∀ g, g < G → a g ≤ 48 ∧ b g ≤ 48 ∧ σ.1 14 g 2 = nI (a g) ∧ σ.1 14 g 3 = nI (b g) ∧ sn g = seenF (σ.1 14 g 0) (σ.1 14 g 1) (fun f => σ.1 12 f N) 20)
    (hP : Rn (fun Q => (¬ N + 1 = 48 → Q none (wI (tlX σ a b sn N G) 0 0 14 (nI (N + 1)))) ∧ (N + 1 = 48 → CalI IX (d + 5) S_X7_beginDay [ar 0 0] (wI (wI (tlX σ a b sn N G) 0 0 14 (nI (N + 1))) 0 0 15 (σ.1 0 0 15 + nI 1)) (fun _ s => Q none s))) P) : Rn (fun Q => J IX M_X7_liveTick (d + 6) 6 [(0, ar 0 0), (1, ai (nI 0))] [] σ Q) P := by
  refine loopU (C := fun i s Q => J IX M_X7_liveTick (d + 6) 6 [(0, ar 0 0), (1, ai (nI i))] [] s Q) (Inv := fun n s => s = tlX σ a b sn N n) (n := G) ?_ ?_ (by omega) ?_
  · rintro i s hi hs ih
    obtain ⟨h1, h2, h3, h4, h5⟩ := hg i hi
    have xN' : s.1 0 0 14 = nI N := by rw [hs]; exact xN
    have xG' : s.1 0 0 10 = nI G := by rw [hs]; exact xG
    have e14 : ∀ j, s.1 14 i j = σ.1 14 i j := by
      intro j
      rw [hs, tlX, sK_r, if_pos rfl, if_neg (by omega)]
    have e12 : s.1 12 = σ.1 12 := by rw [hs]; rfl
    refine Rn_map (fun Q => x_X7_liveTick_6) ?_
    simp (disch := omega) only [lit_0, lit_1, lit_2, lit_3, lit_4, lit_5, lit_6, lit_7, lit_8, lit_9, lit_10, lit_11, lit_12, lit_17, lit_20, lit_30, lit_31, lit_32, lit_47, lit_48, lit_60, lit_99, lit_100, lit_144, lit_200, lit_240, lit_300, lit_576, lit_960, lit_1008, lit_1000000, lit_100000000, true_implies, not_true_eq_false, false_implies, not_false_eq_true, true_and, and_true, neg_1, nI_add, pk_mul, nI_clamp, le_nI, lt_nI, eq_nI, vp_nI, nI_NN, NN_nI, NN_lt, NN_le, lt_NN, le_NN, xN', xG']
    repeat' (first | refine Rn_and (by first | omega | assumption) ?_ | refine Rn_pos (by first | omega | assumption) ?_ | refine Rn_neg (by first | omega | assumption) ?_ | refine Rn_pos' (by first | omega | assumption) ?_ | refine Rn_neg' (by first | omega | assumption) ?_ | fail)
    refine Rn_cV (f_X1_live (a := a i) (b := b i) hN (by omega) (by omega) ((e14 2).trans h3) ((e14 3).trans h4) ?_)
    refine ih _ ?_
    rw [e14, e14, e12, ← h5]
    by_cases h : a i ≤ N ∧ N < b i
    · rw [if_pos h, liveF, e14, e14, e14, e14]
      by_cases c : sn i = σ.1 14 i 0
      · rw [if_pos c]
        rw [hs]
        refine Mem_ext (fun k u j => ?_) rfl
        simp only [tlX, wI_r, sK_r]
        grind
      · rw [if_neg c]
        rw [hs]
        refine Mem_ext (fun k u j => ?_) rfl
        simp only [tlX, wI_r, sK_r]
        grind
    · rw [if_neg h, hs]
      refine Mem_ext (fun k u j => ?_) rfl
      simp only [tlX, sK_r]
      grind
  · rintro s hs
    have xN' : s.1 0 0 14 = nI N := by rw [hs]; exact xN
    have xG' : s.1 0 0 10 = nI G := by rw [hs]; exact xG
    have xD' : s.1 0 0 15 = σ.1 0 0 15 := by rw [hs]; rfl
    refine Rn_map (fun Q => x_X7_liveTick_6) ?_
    simp (disch := omega) only [lit_0, lit_1, lit_2, lit_3, lit_4, lit_5, lit_6, lit_7, lit_8, lit_9, lit_10, lit_11, lit_12, lit_17, lit_20, lit_30, lit_31, lit_32, lit_47, lit_48, lit_60, lit_99, lit_100, lit_144, lit_200, lit_240, lit_300, lit_576, lit_960, lit_1008, lit_1000000, lit_100000000, true_implies, not_true_eq_false, false_implies, not_false_eq_true, true_and, and_true, neg_1, nI_add, pk_mul, nI_clamp, le_nI, lt_nI, eq_nI, vp_nI, nI_NN, NN_nI, NN_lt, NN_le, lt_NN, le_NN, xN', xG', xD']
    repeat' (first | refine Rn_and (by first | omega | assumption) ?_ | refine Rn_pos (by first | omega | assumption) ?_ | refine Rn_neg (by first | omega | assumption) ?_ | refine Rn_pos' (by first | omega | assumption) ?_ | refine Rn_neg' (by first | omega | assumption) ?_ | fail)
    rw [hs]
    exact hP
  · refine Mem_ext (fun k u j => ?_) rfl
    simp only [tlX, sK_r]
    grind
/-- the reference's -/
def tlM (σ : Mem) (a b : Nat → Nat) (sn : Nat → Int32) (N n : Nat) : Mem := sK (sK (sK σ 53 (fun i j => if i = 0 ∧ j < n ∧ a j ≤ N ∧ N < b j then σ.1 53 0 j ||| sn j else σ.1 53 i j)) 51 (fun i j => if i = 0 ∧ j < n ∧ (a j ≤ N ∧ N < b j) ∧ sn j = σ.1 49 0 j then σ.1 51 0 j + nI 1 else σ.1 51 i j)) 52 (fun i j => if i = 0 ∧ j < n ∧ (a j ≤ N ∧ N < b j) ∧ sn j = σ.1 49 0 j then σ.1 52 0 j + nI 1 else σ.1 52 i j)
theorem f_X8_meets {d N F G : Nat} {a b : Nat → Nat} {sn : Nat → Int32} {σ : Mem} (hN : N < 48) (hF : F ≤ 20) (hG : G ≤ 10) (mN : σ.1 30 0 2 = nI N) (mF : σ.1 30 0 13 = nI F) (mG : σ.1 30 0 25 = nI G) (hg : ∀ g, g < G → a g < b g ∧ b g ≤ 48 ∧ σ.1 50 0 (4 * g + 1) = nI (a g) ∧ σ.1 50 0 (4 * g + 2) = nI (b g) ∧ sn g = seenF (σ.1 49 0 g) (σ.1 50 0 (4 * g)) (fun f => σ.1 46 0 (48 * f + N)) F) : Rv (fun K => CalV IM (d + 2) S_X8_meets [ar 30 0] σ K) (fun s => s = tlM σ a b sn N G) := by
  refine Rv_map (fun K => x_X8_meets) (Rv_KV ?_)
  simp (disch := omega) only [lit_0, lit_1, lit_2, lit_3, lit_4, lit_5, lit_6, lit_7, lit_8, lit_9, lit_10, lit_11, lit_12, lit_17, lit_20, lit_30, lit_31, lit_32, lit_47, lit_48, lit_60, lit_99, lit_100, lit_144, lit_200, lit_240, lit_300, lit_576, lit_960, lit_1008, lit_1000000, lit_100000000, true_implies, not_true_eq_false, false_implies, not_false_eq_true, true_and, and_true, neg_1, nI_add, pk_mul, nI_clamp, le_nI, lt_nI, eq_nI, vp_nI, nI_NN, NN_nI, NN_lt, NN_le, lt_NN, le_NN]
  refine loopU (C := fun i s Q => J IM M_X8_meets (d + 2) 2 [(0, ar 30 0), (1, ai (nI i))] [] s Q) (Inv := fun n s => s = tlM σ a b sn N n) (n := G) ?_ ?_ (by omega) ?_
  · rintro i s hi hs ih
    obtain ⟨h1, h2, h3, h4, h5⟩ := hg i hi
    have mN' : s.1 30 0 2 = nI N := by rw [hs]; exact mN
    have mF' : s.1 30 0 13 = nI F := by rw [hs]; exact mF
    have mG' : s.1 30 0 25 = nI G := by rw [hs]; exact mG
    have e46 : s.1 46 = σ.1 46 := by rw [hs]; rfl
    have e49 : s.1 49 = σ.1 49 := by rw [hs]; rfl
    have e50 : s.1 50 = σ.1 50 := by rw [hs]; rfl
    have e53 : s.1 53 0 i = σ.1 53 0 i := by rw [hs, tlM, sK_r, if_neg (by omega), sK_r, if_neg (by omega), sK_r, if_pos rfl, if_neg (by omega)]
    have e51 : s.1 51 0 i = σ.1 51 0 i := by rw [hs, tlM, sK_r, if_neg (by omega), sK_r, if_pos rfl, if_neg (by omega)]
    have e52 : s.1 52 0 i = σ.1 52 0 i := by rw [hs, tlM, sK_r, if_pos rfl, if_neg (by omega)]
    refine Rn_map (fun Q => x_X8_meets_2) ?_
    simp (disch := omega) only [lit_0, lit_1, lit_2, lit_3, lit_4, lit_5, lit_6, lit_7, lit_8, lit_9, lit_10, lit_11, lit_12, lit_17, lit_20, lit_30, lit_31, lit_32, lit_47, lit_48, lit_60, lit_99, lit_100, lit_144, lit_200, lit_240, lit_300, lit_576, lit_960, lit_1008, lit_1000000, lit_100000000, true_implies, not_true_eq_false, false_implies, not_false_eq_true, true_and, and_true, neg_1, nI_add, pk_mul, nI_clamp, le_nI, lt_nI, eq_nI, vp_nI, nI_NN, NN_nI, NN_lt, NN_le, lt_NN, le_NN, mG']
    repeat' (first | refine Rn_and (by first | omega | assumption) ?_ | refine Rn_pos (by first | omega | assumption) ?_ | refine Rn_neg (by first | omega | assumption) ?_ | refine Rn_pos' (by first | omega | assumption) ?_ | refine Rn_neg' (by first | omega | assumption) ?_ | fail)
    refine loopU (C := fun f v Q => J IM M_X8_meets (d + 2) 14 [(0, ar 30 0), (1, ai (nI i)), (2, ai v), (3, ai (nI f))] [] s Q) (Inv := fun n v => v = seenF (σ.1 49 0 i) (σ.1 50 0 (4 * i)) (fun f => σ.1 46 0 (48 * f + N)) n) (n := F) ?_ ?_ (by omega) rfl
    · rintro f v hf hv ih2
      refine Rn_map (fun Q => x_X8_meets_14) ?_
      simp (disch := omega) only [lit_0, lit_1, lit_2, lit_3, lit_4, lit_5, lit_6, lit_7, lit_8, lit_9, lit_10, lit_11, lit_12, lit_17, lit_20, lit_30, lit_31, lit_32, lit_47, lit_48, lit_60, lit_99, lit_100, lit_144, lit_200, lit_240, lit_300, lit_576, lit_960, lit_1008, lit_1000000, lit_100000000, true_implies, not_true_eq_false, false_implies, not_false_eq_true, true_and, and_true, neg_1, nI_add, pk_mul, nI_clamp, le_nI, lt_nI, eq_nI, vp_nI, nI_NN, NN_nI, NN_lt, NN_le, lt_NN, le_NN, mF', mN', bo_s, or_0, e49, e46, e50]
      refine Rn_neg (by omega) (Rn_and (by omega) ?_)
      refine Rn_if' (fun c => ?_) (fun c => ?_)
      · refine ih2 _ ?_
        rw [hv, seenF, if_neg (fun z => c z.1)]
      · refine Rn_and (by omega) (Rn_and (by omega) ?_)
        refine Rn_if' (fun c2 => ?_) (fun c2 => ?_)
        · refine ih2 _ ?_
          rw [hv, seenF, if_neg (fun z => c2 z.2)]
        · refine ih2 _ ?_
          rw [hv, seenF, if_pos ⟨c, c2⟩]
    · rintro v hv
      refine Rn_map (fun Q => x_X8_meets_14) ?_
      rw [← h5] at hv
      have eb : nI (b i) - nI 1 = nI (b i - 1) := pk_sub (by omega)
      have q51 : (wI s 53 0 i (σ.1 53 0 i ||| v)).1 51 0 i = σ.1 51 0 i := by rw [wI_r, if_neg (by omega), e51]
      have q52 : (wI (wI s 53 0 i (σ.1 53 0 i ||| v)) 51 0 i (σ.1 51 0 i + nI 1)).1 52 0 i = σ.1 52 0 i := by rw [wI_r, if_neg (by omega), wI_r, if_neg (by omega), e52]
      simp (disch := omega) only [lit_0, lit_1, lit_2, lit_3, lit_4, lit_5, lit_6, lit_7, lit_8, lit_9, lit_10, lit_11, lit_12, lit_17, lit_20, lit_30, lit_31, lit_32, lit_47, lit_48, lit_60, lit_99, lit_100, lit_144, lit_200, lit_240, lit_300, lit_576, lit_960, lit_1008, lit_1000000, lit_100000000, true_implies, not_true_eq_false, false_implies, not_false_eq_true, true_and, and_true, neg_1, nI_add, pk_mul, nI_clamp, le_nI, lt_nI, eq_nI, vp_nI, nI_NN, NN_nI, NN_lt, NN_le, lt_NN, le_NN, mF', mN', e49, e50, h3, h4, eb, e53, e51, e52, q51, q52]
      refine Rn_pos (by omega) (Rn_and (by omega) (Rn_and (by omega) ?_))
      by_cases h : a i ≤ N ∧ N < b i
      · refine Rn_neg (by omega) (Rn_neg (by omega) (Rn_and (by omega) (Rn_and (by omega) (Rn_and (by omega) ?_))))
        refine Rn_if' (fun c => ?_) (fun c => ?_)
        · refine ih _ ?_
          rw [hv] at c
          rw [hs, hv]
          refine Mem_ext (fun k u j => ?_) rfl
          simp only [tlM, wI_r, sK_r]
          grind
        · repeat' (first | refine Rn_and (by first | omega | assumption) ?_ | refine Rn_pos (by first | omega | assumption) ?_ | refine Rn_neg (by first | omega | assumption) ?_ | refine Rn_pos' (by first | omega | assumption) ?_ | refine Rn_neg' (by first | omega | assumption) ?_ | fail)
          refine ih _ ?_
          rw [hv] at c
          rw [hs, hv]
          refine Mem_ext (fun k u j => ?_) rfl
          simp only [tlM, wI_r, sK_r]
          grind
      · have e : s = tlM σ a b sn N (i + 1) := by
          rw [hs]
          refine Mem_ext (fun k u j => ?_) rfl
          simp only [tlM, sK_r]
          grind
        by_cases h6 : N < a i
        · refine Rn_pos (by omega) ?_
          exact ih _ e
        · refine Rn_neg (by omega) (Rn_pos (by omega) ?_)
          exact ih _ e
  · rintro s hs
    have mG' : s.1 30 0 25 = nI G := by rw [hs]; exact mG
    refine Rn_map (fun Q => x_X8_meets_2) ?_
    simp (disch := omega) only [lit_0, lit_1, lit_2, lit_3, lit_4, lit_5, lit_6, lit_7, lit_8, lit_9, lit_10, lit_11, lit_12, lit_17, lit_20, lit_30, lit_31, lit_32, lit_47, lit_48, lit_60, lit_99, lit_100, lit_144, lit_200, lit_240, lit_300, lit_576, lit_960, lit_1008, lit_1000000, lit_100000000, true_implies, not_true_eq_false, false_implies, not_false_eq_true, true_and, and_true, neg_1, nI_add, pk_mul, nI_clamp, le_nI, lt_nI, eq_nI, vp_nI, nI_NN, NN_nI, NN_lt, NN_le, lt_NN, le_NN, mG']
    repeat' (first | refine Rn_and (by first | omega | assumption) ?_ | refine Rn_pos (by first | omega | assumption) ?_ | refine Rn_neg (by first | omega | assumption) ?_ | refine Rn_pos' (by first | omega | assumption) ?_ | refine Rn_neg' (by first | omega | assumption) ?_ | fail)
    exact Rn_ret ⟨rfl, hs⟩
  · refine Mem_ext (fun k u j => ?_) rfl
    simp only [tlM, sK_r]
    grind

