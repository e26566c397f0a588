variable {κ : Nat → Nat → Nat → Prop}
/-! ===== the reference's search ===== -/
def bnd (x : Int32) (n : Nat) : Prop := -(n : Int) ≤ x.toInt ∧ x.toInt ≤ n
theorem bnd_add {x y : Int32} {a b : Nat} (hx : bnd x a) (hy : bnd y b) (h : a + b < 2 ^ 31) : bnd (x + y) (a + b) ∧ (x + y).toInt = x.toInt + y.toInt := by
  unfold bnd at *
  have e : (x + y).toInt = x.toInt + y.toInt := by
    rw [Int32.toInt_add, Int.bmod_def]
    split <;> omega
  omega
theorem bnd_sub {x y : Int32} {a b : Nat} (hx : bnd x a) (hy : bnd y b) (h : a + b < 2 ^ 31) : bnd (x - y) (a + b) ∧ (x - y).toInt = x.toInt - y.toInt := by
  unfold bnd at *
  have e : (x - y).toInt = x.toInt - y.toInt := by
    rw [Int32.toInt_sub, Int.bmod_def]
    split <;> omega
  omega
theorem bnd_nI {a : Nat} (h : a < 2 ^ 31) : bnd (nI a) a := by
  unfold bnd
  rw [nI_toInt h]
  omega
theorem bnd_le {x : Int32} {a b : Nat} (h : bnd x a) (hab : a ≤ b) : bnd x b := by
  unfold bnd at *
  omega
theorem bWv_b {use : Nat → Bool} {T : Nat → Int32} {v : Int32} {n : Nat} (hv : bnd v n) : ∀ {m : Nat}, (∀ q, q < m → use q = true → bnd (T q) n) → bnd (bWv use T m v) n
  | 0, _ => hv
  | m + 1, h => by
    rw [bWv]
    split
    · rename_i hh
      exact h m (by omega) hh.1
    · exact bWv_b hv (fun q hq hu => h q (by omega) hu)
theorem wcF_b {c : Nat → Int32} {cn : Nat → Nat} (hc : ∀ t, t < 48 → c t = nI (cn t) ∧ cn t ≤ 2400) (t : Nat) : ∀ n, t + n ≤ 48 → bnd (wcF c t n) (n * 2703)
  | 0, _ => by
    rw [wcF]
    exact bnd_nI (by omega)
  | n + 1, h => by
    have i1 := wcF_b hc t n (by omega)
    obtain ⟨e, h2⟩ := hc (t + n) (by omega)
    rw [wcF, e, nI_add]
    have i2 : bnd (nI (cn (t + n) + 3)) (cn (t + n) + 3) := bnd_nI (by omega)
    have i3 : bnd (if t + n = 47 then nI 300 else nI 0) 300 := by
      split
      · exact bnd_nI (by omega)
      · exact bnd_le (bnd_nI (by omega) : bnd (nI 0) 0) (by omega)
    have i4 := (bnd_add i2 i3 (by omega)).1
    exact bnd_le (bnd_add i1 i4 (by omega)).1 (by omega)
def mT (σ : Mem) (L C : Nat → Int32) : Mem := sK (sK σ 63 (fun i j => if i = 0 then L j else σ.1 63 i j)) 64 (fun i j => if i = 0 then C j else σ.1 64 i j)
theorem mT_o {σ : Mem} {L C : Nat → Int32} {k i j : Nat} (h : k ≠ 63 ∧ k ≠ 64) : (mT σ L C).1 k i j = σ.1 k i j := by
  rw [mT, sK_r, if_neg h.2, sK_r, if_neg h.1]
theorem mT_63 {σ : Mem} {L C : Nat → Int32} {j : Nat} : (mT σ L C).1 63 0 j = L j := by
  rw [mT, sK_r, if_neg (by omega), sK_r, if_pos rfl, if_pos rfl]
theorem mT_64 {σ : Mem} {L C : Nat → Int32} {j : Nat} : (mT σ L C).1 64 0 j = C j := by
  rw [mT, sK_r, if_pos rfl, if_pos rfl]
theorem mT_w63 {σ : Mem} {L C : Nat → Int32} {j : Nat} {v : Int32} : wI (mT σ L C) 63 0 j v = mT σ (up L j v) C := by
  refine Mem_ext (fun k i x => ?_) rfl
  simp only [wI_r, mT, sK_r, up]
  grind
theorem mT_w64 {σ : Mem} {L C : Nat → Int32} {j : Nat} {v : Int32} : wI (mT σ L C) 64 0 j v = mT σ L (up C j v) := by
  refine Mem_ext (fun k i x => ?_) rfl
  simp only [wI_r, mT, sK_r, up]
  grind
theorem mT_id (σ : Mem) : mT σ (σ.1 63 0) (σ.1 64 0) = σ := by
  refine Mem_ext (fun k i x => ?_) rfl
  simp only [mT, sK_r]
  grind
theorem f_X8_canBeIn {d f t p a b : Nat} {may : Bool} {σ : Mem} {P : Int32 → Mem → Prop} (hf : f < 20) (ht : t < 48) (hp : p < 12) (hab : a < b) (hb : b ≤ 48) (x3 : σ.1 33 0 p = nI a) (x4 : σ.1 34 0 p = nI b) (hmay : (may = true) ↔ ((a ≤ t ∧ t < b) ∨ bt (σ.1 39 0 f) p = true) ∧ σ.1 35 0 p = nI 0 ∧ (σ.1 48 0 (48 * p + t)).toInt < (σ.1 32 0 p).toInt) (hP : P (if may = true then nI 1 else nI 0) σ) : Rn (fun K => CalI IM (d + 2) S_X8_canBeIn [ar 30 0, ai (nI f), ai (nI p), ai (nI t)] σ K) P := by
  refine Rn_map (fun K => x_X8_canBeIn) ?_
  have e1 : nI b - nI 1 = nI (b - 1) := pk_sub (by omega)
  simp (disch := omega) only [lit_0, lit_1, lit_2, lit_3, lit_4, lit_5, lit_6, lit_7, lit_8, lit_9, lit_10, lit_11, lit_12, lit_17, lit_20, lit_30, lit_31, lit_32, lit_47, lit_48, lit_60, lit_99, lit_100, lit_144, lit_200, lit_240, lit_300, lit_576, lit_960, lit_1008, lit_1000000, lit_100000000, true_implies, not_true_eq_false, false_implies, not_false_eq_true, true_and, and_true, neg_1, nI_add, pk_mul, nI_clamp, le_nI, lt_nI, eq_nI, vp_nI, nI_NN, NN_nI, NN_lt, NN_le, lt_NN, le_NN, x3, x4, bo_s, e1]
  have yes : may = true → P (nI 1) σ := fun h => by rw [if_pos h] at hP; exact hP
  have no : ¬ may = true → P (nI 0) σ := fun h => by rw [if_neg h] at hP; exact hP
  repeat' (first | refine Rn_and (by first | omega | assumption) ?_ | refine Rn_pos (by first | omega | assumption) ?_ | refine Rn_neg (by first | omega | assumption) ?_ | refine Rn_pos' (by first | omega | assumption) ?_ | refine Rn_neg' (by first | omega | assumption) ?_ | refine Rn_if (fun _ => ?_) (fun _ => ?_) | refine Rn_if' (fun _ => ?_) (fun _ => ?_) | fail)
  all_goals (
    refine Rn_ret ?_
    try simp only [tI_le] at *
    first
      | exact yes (hmay.2 ⟨by first | exact Or.inl ⟨by omega, by omega⟩ | exact Or.inr (by assumption), by assumption, by omega⟩)
      | exact no (fun h => by
          obtain ⟨h1, h2, h3⟩ := hmay.1 h
          grind))
theorem f_X8_wayCost {d t n : Nat} {c : Nat → Int32} {σ : Mem} {P : Int32 → Mem → Prop} (ht : t ≤ 48) (hn : n < 2 ^ 30) (x61 : ∀ t, t < 48 → σ.1 61 0 t = c t) (hP : P (wcF c t (min n (48 - t))) σ) : Rn (fun K => CalI IM (d + 2) S_X8_wayCost [ar 30 0, ai (nI t), ai (nI (t + n))] σ K) P := by
  refine Rn_map (fun K => x_X8_wayCost) (Rn_KQ ?_)
  simp (disch := omega) only [lit_0, lit_1, lit_2, lit_3, lit_4, lit_5, lit_6, lit_7, lit_8, lit_9, lit_10, lit_11, lit_12, lit_17, lit_20, lit_30, lit_31, lit_32, lit_47, lit_48, lit_60, lit_99, lit_100, lit_144, lit_200, lit_240, lit_300, lit_576, lit_960, lit_1008, lit_1000000, lit_100000000, true_implies, not_true_eq_false, false_implies, not_false_eq_true, true_and, and_true, neg_1, nI_add, pk_mul, nI_clamp, le_nI, lt_nI, eq_nI, vp_nI, nI_NN, NN_nI, NN_lt, NN_le, lt_NN, le_NN]
  refine loopU (i := 0) (C := fun i v Q => J IM M_X8_wayCost (d + 2) 5 [(0, ar 30 0), (2, ai (nI (t + n))), (3, ai v), (4, ai (nI (t + i)))] [] σ Q) (Inv := fun m v => v = wcF c t m) (n := min n (48 - t)) ?_ ?_ (by omega) rfl
  · rintro m v hm hv ih
    refine Rn_map (fun Q => x_X8_wayCost_5) ?_
    simp (disch := omega) only [lit_0, lit_1, lit_2, lit_3, lit_4, lit_5, lit_6, lit_7, lit_8, lit_9, lit_10, lit_11, lit_12, lit_17, lit_20, lit_30, lit_31, lit_32, lit_47, lit_48, lit_60, lit_99, lit_100, lit_144, lit_200, lit_240, lit_300, lit_576, lit_960, lit_1008, lit_1000000, lit_100000000, true_implies, not_true_eq_false, false_implies, not_false_eq_true, true_and, and_true, neg_1, nI_add, pk_mul, nI_clamp, le_nI, lt_nI, eq_nI, vp_nI, nI_NN, NN_nI, NN_lt, NN_le, lt_NN, le_NN, x61]
    by_cases h47 : t + m = 47
    · repeat' (first | refine Rn_and (by first | omega | assumption) ?_ | refine Rn_pos (by first | omega | assumption) ?_ | refine Rn_neg (by first | omega | assumption) ?_ | refine Rn_pos' (by first | omega | assumption) ?_ | refine Rn_neg' (by first | omega | assumption) ?_ | fail)
      rw [show t + m + 1 = t + (m + 1) by omega]
      refine ih _ ?_
      rw [wcF, hv, if_pos h47]
    · repeat' (first | refine Rn_and (by first | omega | assumption) ?_ | refine Rn_pos (by first | omega | assumption) ?_ | refine Rn_neg (by first | omega | assumption) ?_ | refine Rn_pos' (by first | omega | assumption) ?_ | refine Rn_neg' (by first | omega | assumption) ?_ | fail)
      rw [show t + m + 1 = t + (m + 1) by omega]
      refine ih _ ?_
      rw [wcF, hv, if_neg h47]
  · rintro v hv
    rw [← hv] at hP
    refine Rn_map (fun Q => x_X8_wayCost_5) ?_
    simp (disch := omega) only [lit_0, lit_1, lit_2, lit_3, lit_4, lit_5, lit_6, lit_7, lit_8, lit_9, lit_10, lit_11, lit_12, lit_17, lit_20, lit_30, lit_31, lit_32, lit_47, lit_48, lit_60, lit_99, lit_100, lit_144, lit_200, lit_240, lit_300, lit_576, lit_960, lit_1008, lit_1000000, lit_100000000, true_implies, not_true_eq_false, false_implies, not_false_eq_true, true_and, and_true, neg_1, nI_add, pk_mul, nI_clamp, le_nI, lt_nI, eq_nI, vp_nI, nI_NN, NN_nI, NN_lt, NN_le, lt_NN, le_NN]
    by_cases h : t + n ≤ t + min n (48 - t)
    · repeat' (first | refine Rn_and (by first | omega | assumption) ?_ | refine Rn_pos (by first | omega | assumption) ?_ | refine Rn_neg (by first | omega | assumption) ?_ | refine Rn_pos' (by first | omega | assumption) ?_ | refine Rn_neg' (by first | omega | assumption) ?_ | fail)
      exact Rn_ret ⟨_, rfl, hP⟩
    · repeat' (first | refine Rn_and (by first | omega | assumption) ?_ | refine Rn_pos (by first | omega | assumption) ?_ | refine Rn_neg (by first | omega | assumption) ?_ | refine Rn_pos' (by first | omega | assumption) ?_ | refine Rn_neg' (by first | omega | assumption) ?_ | fail)
      exact Rn_ret ⟨_, rfl, hP⟩
theorem rIN (a s k l x : Int32) : ((((a - s) + nI 9) - k) + l) + x = (x + a + l) + (nI 9 - k - s) := by
  simp only [Int32.sub_eq_add_neg]
  generalize -s = s'
  generalize -k = k'
  generalize nI 9 = n
  rw [Int32.add_comm _ x, ← Int32.add_assoc, ← Int32.add_assoc, ← Int32.add_assoc, ← Int32.add_assoc, ← Int32.add_assoc, ← Int32.add_assoc]
  rw [arc (x + a) s' n, arc (x + a + n) s' k', arc (x + a + n + k') s' l, arc (x + a + n) k' l, arc (x + a) n l]
theorem rOUT (a l x : Int32) : ((a + nI 20) + l) + x = (x + a + l) + nI 20 := by
  rw [Int32.add_comm _ x, ← Int32.add_assoc, ← Int32.add_assoc, arc (x + a) (nI 20) l]

