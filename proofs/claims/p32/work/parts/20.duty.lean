variable {κ : Nat → Nat → Nat → Prop}
/-! ===== duties ===== -/
theorem m4 (n : Nat) : n * 4 = 4 * n := Nat.mul_comm n 4
def ahS (c : Nat → Int32) (i e : Nat) (r : Int32) : Int32 := if (c (4 * e + 2)).toInt ≤ (c (4 * i + 1)).toInt ∧ (r = NN ∨ (c (4 * r.toNatClampNeg + 2)).toInt < (c (4 * e + 2)).toInt) then nI e else r
def bhS (c : Nat → Int32) (i e : Nat) (r : Int32) : Int32 := if (c (4 * i + 2)).toInt ≤ (c (4 * e + 1)).toInt ∧ (r = NN ∨ (c (4 * e + 1)).toInt < (c (4 * r.toNatClampNeg + 1)).toInt) then nI e else r
def ah (c : Nat → Int32) (i : Nat) : Nat → Int32
  | 0 => NN
  | e + 1 => ahS c i e (ah c i e)
def bh (c : Nat → Int32) (i : Nat) : Nat → Int32
  | 0 => NN
  | e + 1 => bhS c i e (bh c i e)
theorem ahS_N (c : Nat → Int32) (i e : Nat) : ahS c i e NN = if (c (4 * e + 2)).toInt ≤ (c (4 * i + 1)).toInt then nI e else NN := by
  simp [ahS]
theorem bhS_N (c : Nat → Int32) (i e : Nat) : bhS c i e NN = if (c (4 * i + 2)).toInt ≤ (c (4 * e + 1)).toInt then nI e else NN := by
  simp [bhS]
theorem ahS_n (c : Nat → Int32) (i e : Nat) {r : Nat} (h : r < 2 ^ 31) : ahS c i e (nI r) = if (c (4 * e + 2)).toInt ≤ (c (4 * i + 1)).toInt ∧ (c (4 * r + 2)).toInt < (c (4 * e + 2)).toInt then nI e else nI r := by
  simp only [ahS, nI_NN h, nI_clamp h, false_or]
theorem bhS_n (c : Nat → Int32) (i e : Nat) {r : Nat} (h : r < 2 ^ 31) : bhS c i e (nI r) = if (c (4 * i + 2)).toInt ≤ (c (4 * e + 1)).toInt ∧ (c (4 * e + 1)).toInt < (c (4 * r + 1)).toInt then nI e else nI r := by
  simp only [bhS, nI_NN h, nI_clamp h, false_or]
theorem ah_or (c : Nat → Int32) (i : Nat) : ∀ e, ah c i e = NN ∨ ∃ r, r < e ∧ ah c i e = nI r
  | 0 => Or.inl rfl
  | e + 1 => by
    show ahS c i e (ah c i e) = NN ∨ ∃ r, r < e + 1 ∧ ahS c i e (ah c i e) = nI r
    unfold ahS
    split
    · exact Or.inr ⟨e, by omega, rfl⟩
    · rcases ah_or c i e with h | ⟨r, hr, h⟩
      · exact Or.inl h
      · exact Or.inr ⟨r, by omega, h⟩
theorem bh_or (c : Nat → Int32) (i : Nat) : ∀ e, bh c i e = NN ∨ ∃ r, r < e ∧ bh c i e = nI r
  | 0 => Or.inl rfl
  | e + 1 => by
    show bhS c i e (bh c i e) = NN ∨ ∃ r, r < e + 1 ∧ bhS c i e (bh c i e) = nI r
    unfold bhS
    split
    · exact Or.inr ⟨e, by omega, rfl⟩
    · rcases bh_or c i e with h | ⟨r, hr, h⟩
      · exact Or.inl h
      · exact Or.inr ⟨r, by omega, h⟩
def OKd (c : Nat → Int32) (A e : Nat) : Prop := ∃ p a b, p < A ∧ a < b ∧ b ≤ 48 ∧ c (4 * e) = nI p ∧ c (4 * e + 1) = nI a ∧ c (4 * e + 2) = nI b
def dIn (c : Nat → Int32) (l : Nat → Nat → Nat) (a b : Nat) : Prop := (l (c (4 * a)).toNatClampNeg (c (4 * b)).toNatClampNeg : Int) ≤ (c (4 * b + 1)).toInt - (c (4 * a + 2)).toInt
def dRe (c : Nat → Int32) (l : Nat → Nat → Nat) (i : Nat) : Prop := (ah c i i = NN ∨ dIn c l (ah c i i).toNatClampNeg i) ∧ (bh c i i = NN ∨ dIn c l i (bh c i i).toNatClampNeg)
def dMt (c : Nat → Int32) (i n : Nat) : Prop := ∃ e, e < n ∧ (c (4 * e + 1)).toInt < (c (4 * i + 2)).toInt ∧ (c (4 * i + 1)).toInt < (c (4 * e + 2)).toInt
theorem f_X0_meetsEarlier {d z i : Nat} {c : Nat → Int32} {σ : Mem} {P : Int32 → Mem → Prop} (hi : 4 * i + 4 ≤ 60) (hc : ∀ k, k < 60 → Int64.toInt32 (σ.2 8 z k) = c k) (h1 : dMt c i i → P (nI 1) σ) (h0 : ¬ dMt c i i → P (nI 0) σ) : Rn (fun K => CalI IX (d + 3) S_X0_meetsEarlier [ar 7 z, ai (nI i)] σ K) P := by
  refine Rn_map (fun K => x_X0_meetsEarlier) (Rn_KQ ?_)
  simp (disch := omega) only [lit_0, lit_1, lit_2, lit_3, lit_4, lit_5, lit_6, lit_7, lit_8, lit_9, lit_10, lit_11, lit_12, lit_17, lit_20, lit_30, lit_31, lit_32, lit_47, lit_48, lit_60, lit_99, lit_100, lit_144, lit_200, lit_240, lit_300, lit_576, lit_960, lit_1008, lit_1000000, lit_100000000, true_implies, not_true_eq_false, false_implies, not_false_eq_true, true_and, and_true, neg_1, nI_add, pk_mul, nI_clamp, le_nI, lt_nI, eq_nI, vp_nI, nI_NN, NN_nI, NN_lt, NN_le, lt_NN, le_NN]
  refine loopU (C := fun n (_ : Unit) Q => J IX M_X0_meetsEarlier (d + 3) 2 [(0, ar 7 z), (1, ai (nI i)), (2, ai (nI n))] [] σ Q) (Inv := fun n _ => ¬ dMt c i n) (n := i) ?_ ?_ (by omega) (by rintro ⟨e, he, _⟩; omega) (b := ())
  · rintro n _ hn hv ih
    refine Rn_map (fun Q => x_X0_meetsEarlier_2) ?_
    simp (disch := omega) only [lit_0, lit_1, lit_2, lit_3, lit_4, lit_5, lit_6, lit_7, lit_8, lit_9, lit_10, lit_11, lit_12, lit_17, lit_20, lit_30, lit_31, lit_32, lit_47, lit_48, lit_60, lit_99, lit_100, lit_144, lit_200, lit_240, lit_300, lit_576, lit_960, lit_1008, lit_1000000, lit_100000000, true_implies, not_true_eq_false, false_implies, not_false_eq_true, true_and, and_true, neg_1, nI_add, pk_mul, nI_clamp, vp_nI, tI_lt, tI_le, tI_eq, tI_nI, tI_NN, tI_pred, m4, hc]
    repeat' (first | refine Rn_and (by first | omega | assumption) ?_ | refine Rn_pos (by first | omega | assumption) ?_ | refine Rn_neg (by first | omega | assumption) ?_ | refine Rn_pos' (by first | omega | assumption) ?_ | refine Rn_neg' (by first | omega | assumption) ?_ | refine Rn_if (fun _ => ?_) (fun _ => ?_) | refine Rn_if' (fun _ => ?_) (fun _ => ?_) | fail)
    · refine ih () ?_
      rintro ⟨e, he, h1, h2⟩
      by_cases e1 : e = n
      · subst e1; omega
      · exact hv ⟨e, by omega, h1, h2⟩
    · refine ih () ?_
      rintro ⟨e, he, h1, h2⟩
      by_cases e1 : e = n
      · subst e1; omega
      · exact hv ⟨e, by omega, h1, h2⟩
    · exact Rn_ret ⟨_, rfl, h1 ⟨n, hn, by omega, by omega⟩⟩
  · rintro _ hv
    refine Rn_map (fun Q => x_X0_meetsEarlier_2) ?_
    simp (disch := omega) only [lit_0, lit_1, lit_2, lit_3, lit_4, lit_5, lit_6, lit_7, lit_8, lit_9, lit_10, lit_11, lit_12, lit_17, lit_20, lit_30, lit_31, lit_32, lit_47, lit_48, lit_60, lit_99, lit_100, lit_144, lit_200, lit_240, lit_300, lit_576, lit_960, lit_1008, lit_1000000, lit_100000000, true_implies, not_true_eq_false, false_implies, not_false_eq_true, true_and, and_true, neg_1, nI_add, pk_mul, nI_clamp, vp_nI, tI_lt, tI_le, tI_eq, tI_nI, tI_NN, tI_pred]
    repeat' (first | refine Rn_and (by first | omega | assumption) ?_ | refine Rn_pos (by first | omega | assumption) ?_ | refine Rn_neg (by first | omega | assumption) ?_ | refine Rn_pos' (by first | omega | assumption) ?_ | refine Rn_neg' (by first | omega | assumption) ?_ | fail)
    exact Rn_ret ⟨_, rfl, h0 hv⟩
theorem dIn_ok {c : Nat → Int32} {l : Nat → Nat → Nat} {a b p q x y : Nat} (hp : p < 2 ^ 31) (hq : q < 2 ^ 31) (hx : x < 2 ^ 31) (hy : y < 2 ^ 31) (e1 : c (4 * a) = nI p) (e2 : c (4 * b) = nI q) (e3 : c (4 * b + 1) = nI x) (e4 : c (4 * a + 2) = nI y) : dIn c l a b = ((l p q : Int) ≤ x - y) := by
  rw [dIn, e1, e2, e3, e4, nI_clamp hp, nI_clamp hq, nI_toInt hx, nI_toInt hy]
def oN (r : Int32) (i : Nat) : Prop := r = NN ∨ ∃ n, n < i ∧ r = nI n
theorem f_X0_isReachable {d z i A : Nat} {c : Nat → Int32} {l : Nat → Nat → Nat} {σ : Mem} {P : Int32 → Mem → Prop} (hA : A ≤ 12) (hi : 4 * i + 4 ≤ 60) (hc : ∀ k, k < 60 → Int64.toInt32 (σ.2 8 z k) = c k) (hl : ∀ a b, a < A → b < A → l a b ≤ 1000000 ∧ σ.1 6 0 (a * 12 + b) = if l a b = 1000000 then NN else nI (l a b)) (ok : ∀ e, e ≤ i → OKd c A e) (h1 : dRe c l i → P (nI 1) σ) (h0 : ¬ dRe c l i → P (nI 0) σ) : Rn (fun K => CalI IX (d + 4) S_X0_isReachable [ar 7 z, ai (nI i), ar 1 0] σ K) P := by
  refine Rn_map (fun K => x_X0_isReachable) (Rn_KQ ?_)
  simp (disch := omega) only [lit_0, lit_1, lit_2, lit_3, lit_4, lit_5, lit_6, lit_7, lit_8, lit_9, lit_10, lit_11, lit_12, lit_17, lit_20, lit_30, lit_31, lit_32, lit_47, lit_48, lit_60, lit_99, lit_100, lit_144, lit_200, lit_240, lit_300, lit_576, lit_960, lit_1008, lit_1000000, lit_100000000, true_implies, not_true_eq_false, false_implies, not_false_eq_true, true_and, and_true, neg_1, nI_add, pk_mul, nI_clamp, le_nI, lt_nI, eq_nI, vp_nI, nI_NN, NN_nI, NN_lt, NN_le, lt_NN, le_NN]
  refine loopU (C := fun n (b : Int32 × Int32) Q => J IX M_X0_isReachable (d + 4) 8 [(0, ar 7 z), (1, ai (nI i)), (2, ar 1 0), (3, ai b.1), (4, ai b.2), (5, ai (nI n))] [] σ Q) (Inv := fun n b => b.1 = ah c i n ∧ b.2 = bh c i n) (n := i) ?_ ?_ (by omega) ⟨rfl, rfl⟩ (b := (NN, NN))
  · rintro n ⟨v3, v4⟩ hn ⟨e3, e4⟩ ih
    have g3 := ah_or c i n
    have g4 := bh_or c i n
    have e5 : ah c i (n + 1) = ahS c i n (ah c i n) := rfl
    have e6 : bh c i (n + 1) = bhS c i n (bh c i n) := rfl
    rw [← e3] at g3 e5
    rw [← e4] at g4 e6
    dsimp only at e3 e4 g3 g4 e5 e6 ⊢
    rcases g3 with rfl | ⟨r3, hr3, rfl⟩ <;> rcases g4 with rfl | ⟨r4, hr4, rfl⟩
    all_goals (
      first | rw [ahS_N] at e5 | rw [ahS_n c i n (by omega)] at e5
      first | rw [bhS_N] at e6 | rw [bhS_n c i n (by omega)] at e6
      refine Rn_map (fun Q => x_X0_isReachable_8) ?_
      simp (disch := omega) only [lit_0, lit_1, lit_2, lit_3, lit_4, lit_5, lit_6, lit_7, lit_8, lit_9, lit_10, lit_11, lit_12, lit_17, lit_20, lit_30, lit_31, lit_32, lit_47, lit_48, lit_60, lit_99, lit_100, lit_144, lit_200, lit_240, lit_300, lit_576, lit_960, lit_1008, lit_1000000, lit_100000000, true_implies, not_true_eq_false, false_implies, not_false_eq_true, true_and, and_true, neg_1, nI_add, pk_mul, nI_clamp, vp_nI, tI_lt, tI_le, tI_eq, tI_nI, tI_NN, tI_pred, m4, hc]
      repeat' (first | refine Rn_and (by first | omega | assumption) ?_ | refine Rn_pos (by first | omega | assumption) ?_ | refine Rn_neg (by first | omega | assumption) ?_ | refine Rn_pos' (by first | omega | assumption) ?_ | refine Rn_neg' (by first | omega | assumption) ?_ | refine Rn_if (fun _ => ?_) (fun _ => ?_) | refine Rn_if' (fun _ => ?_) (fun _ => ?_) | fail))
    all_goals (
      refine ih (_, _) ⟨?_, ?_⟩
      · rw [e5]; first | exact (if_pos (by omega)).symm | exact (if_neg (by omega)).symm
      · rw [e6]; first | exact (if_pos (by omega)).symm | exact (if_neg (by omega)).symm)
  · rintro ⟨v3, v4⟩ ⟨e3, e4⟩
    have g3 := ah_or c i i
    have g4 := bh_or c i i
    have hd : dRe c l i = ((v3 = NN ∨ dIn c l v3.toNatClampNeg i) ∧ (v4 = NN ∨ dIn c l i v4.toNatClampNeg)) := by
      dsimp only at e3 e4
      rw [dRe, ← e3, ← e4]
    rw [← e3] at g3
    rw [← e4] at g4
    dsimp only at g3 g4 ⊢
    obtain ⟨p, x, y, hp, hxy, hy, k1, k2, k3⟩ := ok i (by omega)
    refine Rn_map (fun Q => x_X0_isReachable_8) ?_
    rcases g3 with rfl | ⟨r3, hr3, rfl⟩ <;> rcases g4 with rfl | ⟨r4, hr4, rfl⟩
    · simp (disch := omega) only [lit_0, lit_1, lit_2, lit_3, lit_4, lit_5, lit_6, lit_7, lit_8, lit_9, lit_10, lit_11, lit_12, lit_17, lit_20, lit_30, lit_31, lit_32, lit_47, lit_48, lit_60, lit_99, lit_100, lit_144, lit_200, lit_240, lit_300, lit_576, lit_960, lit_1008, lit_1000000, lit_100000000, true_implies, not_true_eq_false, false_implies, not_false_eq_true, true_and, and_true, neg_1, nI_add, pk_mul, nI_clamp, vp_nI, tI_lt, tI_le, tI_eq, tI_nI, tI_NN, tI_pred]
      repeat' (first | refine Rn_and (by first | omega | assumption) ?_ | refine Rn_pos (by first | omega | assumption) ?_ | refine Rn_neg (by first | omega | assumption) ?_ | refine Rn_pos' (by first | omega | assumption) ?_ | refine Rn_neg' (by first | omega | assumption) ?_ | fail)
      exact Rn_ret ⟨_, rfl, h1 (by rw [hd]; exact ⟨Or.inl rfl, Or.inl rfl⟩)⟩
    · obtain ⟨p4, x4, y4, hp4, hxy4, hy4, j1, j2, j3⟩ := ok r4 (by omega)
      rw [nI_clamp (by omega), dIn_ok (by omega) (by omega) (by omega) (by omega) k1 j1 j2 k3, nI_NN (by omega)] at hd
      simp only [true_or, false_or, true_and, and_true] at hd
      obtain ⟨q1, q2⟩ := hl p p4 hp hp4
      by_cases ef : l p p4 = 1000000
      · rw [if_pos ef] at q2
        simp (disch := omega) only [lit_0, lit_1, lit_2, lit_3, lit_4, lit_5, lit_6, lit_7, lit_8, lit_9, lit_10, lit_11, lit_12, lit_17, lit_20, lit_30, lit_31, lit_32, lit_47, lit_48, lit_60, lit_99, lit_100, lit_144, lit_200, lit_240, lit_300, lit_576, lit_960, lit_1008, lit_1000000, lit_100000000, true_implies, not_true_eq_false, false_implies, not_false_eq_true, true_and, and_true, neg_1, nI_add, pk_mul, nI_clamp, vp_nI, tI_lt, tI_le, tI_eq, tI_nI, tI_NN, tI_pred, m4, hc, k1, k2, k3, j1, j2, j3, q2, tI_sub]
        repeat' (first | refine Rn_and (by first | omega | assumption) ?_ | refine Rn_pos (by first | omega | assumption) ?_ | refine Rn_neg (by first | omega | assumption) ?_ | refine Rn_pos' (by first | omega | assumption) ?_ | refine Rn_neg' (by first | omega | assumption) ?_ | fail)
        exact Rn_ret ⟨_, rfl, h0 (by rw [hd]; omega)⟩
      · rw [if_neg ef] at q2
        simp (disch := omega) only [lit_0, lit_1, lit_2, lit_3, lit_4, lit_5, lit_6, lit_7, lit_8, lit_9, lit_10, lit_11, lit_12, lit_17, lit_20, lit_30, lit_31, lit_32, lit_47, lit_48, lit_60, lit_99, lit_100, lit_144, lit_200, lit_240, lit_300, lit_576, lit_960, lit_1008, lit_1000000, lit_100000000, true_implies, not_true_eq_false, false_implies, not_false_eq_true, true_and, and_true, neg_1, nI_add, pk_mul, nI_clamp, vp_nI, tI_lt, tI_le, tI_eq, tI_nI, tI_NN, tI_pred, m4, hc, k1, k2, k3, j1, j2, j3, q2, tI_sub]
        repeat' (first | refine Rn_and (by first | omega | assumption) ?_ | refine Rn_pos (by first | omega | assumption) ?_ | refine Rn_neg (by first | omega | assumption) ?_ | refine Rn_pos' (by first | omega | assumption) ?_ | refine Rn_neg' (by first | omega | assumption) ?_ | refine Rn_if (fun _ => ?_) (fun _ => ?_) | refine Rn_if' (fun _ => ?_) (fun _ => ?_) | fail)
        · exact Rn_ret ⟨_, rfl, h0 (by rw [hd]; omega)⟩
        · exact Rn_ret ⟨_, rfl, h1 (by rw [hd]; omega)⟩
    · obtain ⟨p3, x3, y3, hp3, hxy3, hy3, i1, i2, i3⟩ := ok r3 (by omega)
      rw [nI_clamp (by omega), dIn_ok (by omega) (by omega) (by omega) (by omega) i1 k1 k2 i3, nI_NN (by omega)] at hd
      simp only [true_or, false_or, true_and, and_true] at hd
      obtain ⟨q1, q2⟩ := hl p3 p hp3 hp
      by_cases ef : l p3 p = 1000000
      · rw [if_pos ef] at q2
        simp (disch := omega) only [lit_0, lit_1, lit_2, lit_3, lit_4, lit_5, lit_6, lit_7, lit_8, lit_9, lit_10, lit_11, lit_12, lit_17, lit_20, lit_30, lit_31, lit_32, lit_47, lit_48, lit_60, lit_99, lit_100, lit_144, lit_200, lit_240, lit_300, lit_576, lit_960, lit_1008, lit_1000000, lit_100000000, true_implies, not_true_eq_false, false_implies, not_false_eq_true, true_and, and_true, neg_1, nI_add, pk_mul, nI_clamp, vp_nI, tI_lt, tI_le, tI_eq, tI_nI, tI_NN, tI_pred, m4, hc, k1, k2, k3, i1, i2, i3, q2, tI_sub]
        repeat' (first | refine Rn_and (by first | omega | assumption) ?_ | refine Rn_pos (by first | omega | assumption) ?_ | refine Rn_neg (by first | omega | assumption) ?_ | refine Rn_pos' (by first | omega | assumption) ?_ | refine Rn_neg' (by first | omega | assumption) ?_ | fail)
        exact Rn_ret ⟨_, rfl, h0 (by rw [hd]; omega)⟩
      · rw [if_neg ef] at q2
        simp (disch := omega) only [lit_0, lit_1, lit_2, lit_3, lit_4, lit_5, lit_6, lit_7, lit_8, lit_9, lit_10, lit_11, lit_12, lit_17, lit_20, lit_30, lit_31, lit_32, lit_47, lit_48, lit_60, lit_99, lit_100, lit_144, lit_200, lit_240, lit_300, lit_576, lit_960, lit_1008, lit_1000000, lit_100000000, true_implies, not_true_eq_false, false_implies, not_false_eq_true, true_and, and_true, neg_1, nI_add, pk_mul, nI_clamp, vp_nI, tI_lt, tI_le, tI_eq, tI_nI, tI_NN, tI_pred, m4, hc, k1, k2, k3, i1, i2, i3, q2, tI_sub]
        repeat' (first | refine Rn_and (by first | omega | assumption) ?_ | refine Rn_pos (by first | omega | assumption) ?_ | refine Rn_neg (by first | omega | assumption) ?_ | refine Rn_pos' (by first | omega | assumption) ?_ | refine Rn_neg' (by first | omega | assumption) ?_ | refine Rn_if (fun _ => ?_) (fun _ => ?_) | refine Rn_if' (fun _ => ?_) (fun _ => ?_) | fail)
        · exact Rn_ret ⟨_, rfl, h0 (by rw [hd]; omega)⟩
        · exact Rn_ret ⟨_, rfl, h1 (by rw [hd]; omega)⟩
    · obtain ⟨p3, x3, y3, hp3, hxy3, hy3, i1, i2, i3⟩ := ok r3 (by omega)
      obtain ⟨p4, x4, y4, hp4, hxy4, hy4, j1, j2, j3⟩ := ok r4 (by omega)
      rw [nI_clamp (by omega), nI_clamp (by omega), dIn_ok (by omega) (by omega) (by omega) (by omega) i1 k1 k2 i3, dIn_ok (by omega) (by omega) (by omega) (by omega) k1 j1 j2 k3, nI_NN (by omega), nI_NN (by omega)] at hd
      simp only [true_or, false_or, true_and, and_true] at hd
      obtain ⟨q1, q2⟩ := hl p3 p hp3 hp
      obtain ⟨q3, q4⟩ := hl p p4 hp hp4
      by_cases ef : l p3 p = 1000000 <;> by_cases ef2 : l p p4 = 1000000
      all_goals (
        first | rw [if_pos ef] at q2 | rw [if_neg ef] at q2
        first | rw [if_pos ef2] at q4 | rw [if_neg ef2] at q4
        simp (disch := omega) only [lit_0, lit_1, lit_2, lit_3, lit_4, lit_5, lit_6, lit_7, lit_8, lit_9, lit_10, lit_11, lit_12, lit_17, lit_20, lit_30, lit_31, lit_32, lit_47, lit_48, lit_60, lit_99, lit_100, lit_144, lit_200, lit_240, lit_300, lit_576, lit_960, lit_1008, lit_1000000, lit_100000000, true_implies, not_true_eq_false, false_implies, not_false_eq_true, true_and, and_true, neg_1, nI_add, pk_mul, nI_clamp, vp_nI, tI_lt, tI_le, tI_eq, tI_nI, tI_NN, tI_pred, m4, hc, k1, k2, k3, i1, i2, i3, j1, j2, j3, q2, q4, tI_sub]
        repeat' (first | refine Rn_and (by first | omega | assumption) ?_ | refine Rn_pos (by first | omega | assumption) ?_ | refine Rn_neg (by first | omega | assumption) ?_ | refine Rn_pos' (by first | omega | assumption) ?_ | refine Rn_neg' (by first | omega | assumption) ?_ | refine Rn_if (fun _ => ?_) (fun _ => ?_) | refine Rn_if' (fun _ => ?_) (fun _ => ?_) | fail))
      all_goals first
        | exact Rn_ret ⟨_, rfl, h0 (by rw [hd]; omega)⟩
        | exact Rn_ret ⟨_, rfl, h1 (by rw [hd]; omega)⟩

