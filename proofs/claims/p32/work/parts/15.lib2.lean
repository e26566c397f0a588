variable {κ : Nat → Nat → Nat → Prop}
theorem nx_and (a b : Nat) : nI a &&& nI b = nI (a &&& b) := by
  apply Int32.toBitVec_inj.1
  show BitVec.ofNat 32 a &&& BitVec.ofNat 32 b = BitVec.ofNat 32 (a &&& b)
  apply BitVec.eq_of_getLsbD_eq
  intro i hi
  simp [hi]
theorem wb_of32 (x : Int32) : ∃ n, n < 2 ^ 32 ∧ x = nI n := ⟨x.toBitVec.toNat, x.toBitVec.isLt, Int32.toBitVec_inj.mp (by show _ = BitVec.ofNat 32 _; simp)⟩
theorem Rv_skip {P : Mem → Prop} {c : Prop} {A T : (Mem → Prop) → Prop} (hc : ¬ c) (r : Rv T P) : Rv (fun K => (c → A K) ∧ T K) P := Rv_map (fun _ h => ⟨fun z => absurd z hc, h⟩) r
theorem Rv_last {P : Mem → Prop} {c : Prop} {A T : (Mem → Prop) → Prop} (hT : ∀ K, T K) (r : Rv A P) : Rv (fun K => (c → A K) ∧ T K) P := Rv_map (fun K h => ⟨fun _ => h, hT K⟩) r
theorem Rn_imp {α : Type} {P : α → Mem → Prop} {c : Prop} {A : (α → Mem → Prop) → Prop} (r : Rn A P) : Rn (fun K => c → A K) P := Rn_map (fun _ h _ => h) r
theorem Rv_imp {P : Mem → Prop} {c : Prop} {A : (Mem → Prop) → Prop} (r : Rv A P) : Rv (fun K => c → A K) P := Rv_map (fun _ h _ => h) r
theorem wI_same (σ : Mem) (k i j : Nat) (v : Int32) : (wI σ k i j v).1 k i j = v := by rw [wI_r, if_pos ⟨rfl, rfl, rfl⟩]
theorem tI_sub {a b : Nat} (h : a < 2 ^ 30) (h' : b < 2 ^ 30) : (nI a - nI b).toInt = (a : Int) - b := pk_sub_toInt h h'
theorem bt_NN (i : Nat) (h : i < 32) : bt NN i = true := b_m1 i h
theorem or_bit {x : Int32} {p : Nat} (hp : p < 32) : (x ||| (nI 1 <<< (nI p &&& nI 31)) = x) = (bt x p = true) := by
  refine propext ⟨fun h => ?_, fun h => ?_⟩
  · rw [← h, b_or, bt_shl hp]; simp
  · apply b_ext
    intro i hi
    rw [b_or, bt_shl hp]
    by_cases e : i = p
    · subst e; simp [h]
    · simp [e]
theorem and_bit {x : Int32} {p : Nat} (hp : p < 32) : (x &&& ((nI 1 <<< (nI p &&& nI 31)) ^^^ NN) = x) = (bt x p = false) := by
  refine propext ⟨fun h => ?_, fun h => ?_⟩
  · rw [← h, b_and, b_xor, bt_shl hp, bt_NN p hp]; simp
  · apply b_ext
    intro i hi
    rw [b_and, b_xor, bt_shl hp, bt_NN i hi]
    by_cases e : i = p
    · subst e; simp [h]
    · simp [e]
/-! ===== a count of bits ===== -/
theorem land16 {a b c e : Nat} (ha : a < 16) (hc : c < 16) : (a + 16 * b) &&& (c + 16 * e) = (a &&& c) + 16 * (b &&& e) := by
  have h1 : (a + 16 * b) &&& (c + 16 * e) = 16 * (((a + 16 * b) &&& (c + 16 * e)) / 16) + ((a + 16 * b) &&& (c + 16 * e)) % 16 := by omega
  have h2 : ((a + 16 * b) &&& (c + 16 * e)) / 16 = b &&& e := by
    rw [show (16 : Nat) = 2 ^ 4 by rfl, Nat.and_div_two_pow]
    congr 1 <;> omega
  have h3 : ((a + 16 * b) &&& (c + 16 * e)) % 16 = a &&& c := by
    rw [show (16 : Nat) = 2 ^ 4 by rfl, Nat.and_mod_two_pow]
    congr 1 <;> omega
  rw [h2, h3] at h1
  omega
def pop4 (h : Nat) : Nat := h % 2 + h / 2 % 2 + h / 4 % 2 + h / 8 % 2
theorem pop4_1 : ∀ h, h < 16 → ∀ c, c < 2 → ((h / 2 + 8 * c) &&& 5) ≤ h ∧ ((h - ((h / 2 + 8 * c) &&& 5)) < 16 ∧ ∀ e, e < 4 → ((h - ((h / 2 + 8 * c) &&& 5)) &&& 3) + (((h - ((h / 2 + 8 * c) &&& 5)) / 4 + 4 * e) &&& 3) = pop4 h) := by decide +kernel
theorem pop4_le : ∀ h, h < 16 → pop4 h ≤ 4 := by decide +kernel
theorem land15 (x : Nat) : x &&& 15 = x % 16 := Nat.and_two_pow_sub_one_eq_mod x 4
theorem land63 (x : Nat) : x &&& 63 = x % 64 := Nat.and_two_pow_sub_one_eq_mod x 6
/-- the first two stages on eight half bytes -/
theorem pop_s1 {h0 h1 h2 h3 h4 h5 h6 h7 : Nat} (l0 : h0 < 16) (l1 : h1 < 16) (l2 : h2 < 16) (l3 : h3 < 16) (l4 : h4 < 16) (l5 : h5 < 16) (l6 : h6 < 16) (l7 : h7 < 16) {n m : Nat}
    (hn : n = h0 + 16 * (h1 + 16 * (h2 + 16 * (h3 + 16 * (h4 + 16 * (h5 + 16 * (h6 + 16 * h7)))))))
    (hm : m = n - (n / 2 &&& 1431655765)) : n / 2 &&& 1431655765 ≤ n ∧ m < 2 ^ 32 ∧ (m &&& 858993459) + (m / 4 &&& 858993459) = pop4 h0 + 16 * (pop4 h1 + 16 * (pop4 h2 + 16 * (pop4 h3 + 16 * (pop4 h4 + 16 * (pop4 h5 + 16 * (pop4 h6 + 16 * pop4 h7)))))) := by
  have e1 : n / 2 = (h0 / 2 + 8 * (h1 % 2)) + 16 * ((h1 / 2 + 8 * (h2 % 2)) + 16 * ((h2 / 2 + 8 * (h3 % 2)) + 16 * ((h3 / 2 + 8 * (h4 % 2)) + 16 * ((h4 / 2 + 8 * (h5 % 2)) + 16 * ((h5 / 2 + 8 * (h6 % 2)) + 16 * ((h6 / 2 + 8 * (h7 % 2)) + 16 * (h7 / 2 + 8 * 0))))))) := by omega
  have e2 : (1431655765 : Nat) = 5 + 16 * (5 + 16 * (5 + 16 * (5 + 16 * (5 + 16 * (5 + 16 * (5 + 16 * 5)))))) := by decide
  have e3 : (858993459 : Nat) = 3 + 16 * (3 + 16 * (3 + 16 * (3 + 16 * (3 + 16 * (3 + 16 * (3 + 16 * 3)))))) := by decide
  have e4 : n / 2 &&& 1431655765 = ((h0 / 2 + 8 * (h1 % 2)) &&& 5) + 16 * (((h1 / 2 + 8 * (h2 % 2)) &&& 5) + 16 * (((h2 / 2 + 8 * (h3 % 2)) &&& 5) + 16 * (((h3 / 2 + 8 * (h4 % 2)) &&& 5) + 16 * (((h4 / 2 + 8 * (h5 % 2)) &&& 5) + 16 * (((h5 / 2 + 8 * (h6 % 2)) &&& 5) + 16 * (((h6 / 2 + 8 * (h7 % 2)) &&& 5) + 16 * ((h7 / 2 + 8 * 0) &&& 5))))))) := by
    rw [e1, e2, land16 (by omega) (by omega), land16 (by omega) (by omega), land16 (by omega) (by omega), land16 (by omega) (by omega), land16 (by omega) (by omega), land16 (by omega) (by omega), land16 (by omega) (by omega)]
  obtain ⟨a0, b0, c0⟩ := pop4_1 h0 l0 (h1 % 2) (by omega)
  obtain ⟨a1, b1, c1⟩ := pop4_1 h1 l1 (h2 % 2) (by omega)
  obtain ⟨a2, b2, c2⟩ := pop4_1 h2 l2 (h3 % 2) (by omega)
  obtain ⟨a3, b3, c3⟩ := pop4_1 h3 l3 (h4 % 2) (by omega)
  obtain ⟨a4, b4, c4⟩ := pop4_1 h4 l4 (h5 % 2) (by omega)
  obtain ⟨a5, b5, c5⟩ := pop4_1 h5 l5 (h6 % 2) (by omega)
  obtain ⟨a6, b6, c6⟩ := pop4_1 h6 l6 (h7 % 2) (by omega)
  obtain ⟨a7, b7, c7⟩ := pop4_1 h7 l7 0 (by omega)
  rw [e4] at hm ⊢
  generalize (h0 / 2 + 8 * (h1 % 2)) &&& 5 = z0 at *
  generalize (h1 / 2 + 8 * (h2 % 2)) &&& 5 = z1 at *
  generalize (h2 / 2 + 8 * (h3 % 2)) &&& 5 = z2 at *
  generalize (h3 / 2 + 8 * (h4 % 2)) &&& 5 = z3 at *
  generalize (h4 / 2 + 8 * (h5 % 2)) &&& 5 = z4 at *
  generalize (h5 / 2 + 8 * (h6 % 2)) &&& 5 = z5 at *
  generalize (h6 / 2 + 8 * (h7 % 2)) &&& 5 = z6 at *
  generalize (h7 / 2 + 8 * 0) &&& 5 = z7 at *
  obtain ⟨y0, g0⟩ : ∃ y, y = h0 - z0 := ⟨_, rfl⟩
  obtain ⟨y1, g1⟩ : ∃ y, y = h1 - z1 := ⟨_, rfl⟩
  obtain ⟨y2, g2⟩ : ∃ y, y = h2 - z2 := ⟨_, rfl⟩
  obtain ⟨y3, g3⟩ : ∃ y, y = h3 - z3 := ⟨_, rfl⟩
  obtain ⟨y4, g4⟩ : ∃ y, y = h4 - z4 := ⟨_, rfl⟩
  obtain ⟨y5, g5⟩ : ∃ y, y = h5 - z5 := ⟨_, rfl⟩
  obtain ⟨y6, g6⟩ : ∃ y, y = h6 - z6 := ⟨_, rfl⟩
  obtain ⟨y7, g7⟩ : ∃ y, y = h7 - z7 := ⟨_, rfl⟩
  rw [← g0] at b0 c0
  rw [← g1] at b1 c1
  rw [← g2] at b2 c2
  rw [← g3] at b3 c3
  rw [← g4] at b4 c4
  rw [← g5] at b5 c5
  rw [← g6] at b6 c6
  rw [← g7] at b7 c7
  have em : m = y0 + 16 * (y1 + 16 * (y2 + 16 * (y3 + 16 * (y4 + 16 * (y5 + 16 * (y6 + 16 * y7)))))) := by omega
  have em4 : m / 4 = (y0 / 4 + 4 * (y1 % 4)) + 16 * ((y1 / 4 + 4 * (y2 % 4)) + 16 * ((y2 / 4 + 4 * (y3 % 4)) + 16 * ((y3 / 4 + 4 * (y4 % 4)) + 16 * ((y4 / 4 + 4 * (y5 % 4)) + 16 * ((y5 / 4 + 4 * (y6 % 4)) + 16 * ((y6 / 4 + 4 * (y7 % 4)) + 16 * (y7 / 4 + 4 * 0))))))) := by omega
  refine ⟨by omega, by omega, ?_⟩
  have q0 := c0 (y1 % 4) (by omega)
  have q1 := c1 (y2 % 4) (by omega)
  have q2 := c2 (y3 % 4) (by omega)
  have q3 := c3 (y4 % 4) (by omega)
  have q4 := c4 (y5 % 4) (by omega)
  have q5 := c5 (y6 % 4) (by omega)
  have q6 := c6 (y7 % 4) (by omega)
  have q7 := c7 0 (by omega)
  rw [em4, em, e3, land16 b0 (by omega), land16 b1 (by omega), land16 b2 (by omega), land16 b3 (by omega), land16 b4 (by omega), land16 b5 (by omega), land16 b6 (by omega), land16 (by omega) (by omega), land16 (by omega) (by omega), land16 (by omega) (by omega), land16 (by omega) (by omega), land16 (by omega) (by omega), land16 (by omega) (by omega), land16 (by omega) (by omega)]
  omega
/-- the last three stages -/
theorem pop_s2 {p0 p1 p2 p3 p4 p5 p6 p7 : Nat} (l0 : p0 ≤ 4) (l1 : p1 ≤ 4) (l2 : p2 ≤ 4) (l3 : p3 ≤ 4) (l4 : p4 ≤ 4) (l5 : p5 ≤ 4) (l6 : p6 ≤ 4) (l7 : p7 ≤ 4) {n m k : Nat}
    (hn : n = p0 + 16 * (p1 + 16 * (p2 + 16 * (p3 + 16 * (p4 + 16 * (p5 + 16 * (p6 + 16 * p7)))))))
    (hm : m = (n + n / 16) &&& 252645135) (hk : k = m + m / 256) : n + n / 16 < 2 ^ 32 ∧ m < 2 ^ 31 ∧ k < 2 ^ 31 ∧ k + k / 65536 < 2 ^ 31 ∧ (k + k / 65536) &&& 63 = p0 + p1 + p2 + p3 + p4 + p5 + p6 + p7 := by
  have e1 : n + n / 16 = (p0 + p1) + 16 * ((p1 + p2) + 16 * ((p2 + p3) + 16 * ((p3 + p4) + 16 * ((p4 + p5) + 16 * ((p5 + p6) + 16 * ((p6 + p7) + 16 * p7)))))) := by omega
  have e2 : (252645135 : Nat) = 15 + 16 * (0 + 16 * (15 + 16 * (0 + 16 * (15 + 16 * (0 + 16 * (15 + 16 * 0)))))) := by decide
  have e3 : m = (p0 + p1) + 16 * (0 + 16 * ((p2 + p3) + 16 * (0 + 16 * ((p4 + p5) + 16 * (0 + 16 * ((p6 + p7) + 16 * 0)))))) := by
    rw [hm, e1, e2, land16 (by omega) (by omega), land16 (by omega) (by omega), land16 (by omega) (by omega), land16 (by omega) (by omega), land16 (by omega) (by omega), land16 (by omega) (by omega), land16 (by omega) (by omega), land15, land15, land15, land15, Nat.and_zero, Nat.and_zero, Nat.and_zero, Nat.and_zero]
    omega
  obtain ⟨a, ha⟩ : ∃ a, a = p0 + p1 := ⟨_, rfl⟩
  obtain ⟨b, hb⟩ : ∃ b, b = p2 + p3 := ⟨_, rfl⟩
  obtain ⟨c, hc⟩ : ∃ c, c = p4 + p5 := ⟨_, rfl⟩
  obtain ⟨e, he⟩ : ∃ e, e = p6 + p7 := ⟨_, rfl⟩
  rw [← ha, ← hb, ← hc, ← he] at e3
  have l1 : a ≤ 8 ∧ b ≤ 8 ∧ c ≤ 8 ∧ e ≤ 8 := by omega
  have hs : p0 + p1 + p2 + p3 + p4 + p5 + p6 + p7 = a + b + c + e := by omega
  have h1 : n + n / 16 < 2 ^ 32 := by omega
  clear e1 hm hn ha hb hc he
  have e4 : m / 256 = b + 256 * c + 65536 * e := by omega
  have e5 : k = (a + b) + 256 * (b + c) + 65536 * (c + e) + 16777216 * e := by omega
  have e6 : k / 65536 = (c + e) + 256 * e := by omega
  have e7 : k + k / 65536 = (a + b + c + e) + 64 * (4 * (b + c) + 1024 * (c + e) + 262144 * e + 4 * e) := by omega
  refine ⟨h1, by omega, by omega, by omega, ?_⟩
  rw [land63, hs, e7]
  omega
/-- the parts of a number -/
theorem pop_all {n : Nat} (hn : n < 2 ^ 32) : ∃ h0 h1 h2 h3 h4 h5 h6 h7 : Nat, h0 < 16 ∧ h1 < 16 ∧ h2 < 16 ∧ h3 < 16 ∧ h4 < 16 ∧ h5 < 16 ∧ h6 < 16 ∧ h7 < 16 ∧ n = h0 + 16 * (h1 + 16 * (h2 + 16 * (h3 + 16 * (h4 + 16 * (h5 + 16 * (h6 + 16 * h7)))))) :=
  ⟨n % 16, n / 16 % 16, n / 256 % 16, n / 4096 % 16, n / 65536 % 16, n / 1048576 % 16, n / 16777216 % 16, n / 268435456, by omega, by omega, by omega, by omega, by omega, by omega, by omega, by omega, by omega⟩
theorem bt_nI (n : Nat) {i : Nat} (hi : i < 32) : bt (nI n) i = n.testBit i := by
  show (BitVec.ofNat 32 n).getLsbD i = _
  rw [BitVec.getLsbD_ofNat]
  simp [hi]
theorem bit_d (n i : Nat) : (if n.testBit i = true then 1 else 0) = n / 2 ^ i % 2 := by
  rw [Nat.testBit_eq_decide_div_mod_eq]
  have := Nat.mod_two_eq_zero_or_one (n / 2 ^ i)
  rcases this with h | h <;> simp [h]
theorem popF4 (n k : Nat) (hk : k + 4 ≤ 32) : popF (nI n) (k + 4) = popF (nI n) k + pop4 (n / 2 ^ k % 16) := by
  simp only [popF]
  rw [bt_nI n (by omega), bt_nI n (by omega), bt_nI n (by omega), bt_nI n (by omega), bit_d, bit_d, bit_d, bit_d]
  have e : ∀ j, n / 2 ^ (k + j) = n / 2 ^ k / 2 ^ j := fun j => by rw [Nat.pow_add, Nat.div_div_eq_div_mul]
  have e0 := e 1
  have e2 := e 2
  have e3 := e 3
  rw [e0, e2, e3]
  generalize n / 2 ^ k = q
  unfold pop4
  omega
theorem popF32 (n : Nat) : popF (nI n) 32 = pop4 (n % 16) + pop4 (n / 16 % 16) + pop4 (n / 256 % 16) + pop4 (n / 4096 % 16) + pop4 (n / 65536 % 16) + pop4 (n / 1048576 % 16) + pop4 (n / 16777216 % 16) + pop4 (n / 268435456 % 16) := by
  rw [popF4 n 28 (by omega), popF4 n 24 (by omega), popF4 n 20 (by omega), popF4 n 16 (by omega), popF4 n 12 (by omega), popF4 n 8 (by omega), popF4 n 4 (by omega), popF4 n 0 (by omega)]
  simp only [popF, Nat.pow_zero, Nat.div_one, Nat.zero_add, Nat.reducePow]
theorem f_bitCount {d : Nat} {x : Int32} {σ : Mem} : Rn (fun K => CalI IX (d + 1) S_J6_bitCount_0f7a4 [ai x] σ K) (fun r s => s = σ ∧ r = nI (popF x 32)) := by
  refine Rn_map (fun K => x_J6_bitCount_0f7a4) ?_
  refine Rn_ret ⟨rfl, ?_⟩
  obtain ⟨n, hn, rfl⟩ := wb_of32 x
  obtain ⟨h0, h1, h2, h3, h4, h5, h6, h7, l0, l1, l2, l3, l4, l5, l6, l7, e⟩ := pop_all hn
  have hp : popF (nI n) 32 = pop4 h0 + pop4 h1 + pop4 h2 + pop4 h3 + pop4 h4 + pop4 h5 + pop4 h6 + pop4 h7 := by
    rw [popF32]
    congr 1
    · congr 1
      · congr 1
        · congr 1
          · congr 1
            · congr 1
              · congr 1
                · congr 1; omega
                · congr 1; omega
              · congr 1; omega
            · congr 1; omega
          · congr 1; omega
        · congr 1; omega
      · congr 1; omega
    · congr 1; omega
  have u : ∀ (m k : Nat), m < 2 ^ 32 → k < 32 → (Int32.toUInt32 (nI m) >>> (Int32.toUInt32 (nI k) &&& Int32.toUInt32 31)).toInt32 = nI (m / 2 ^ k) := fun m k hm hk => pk_ushrN hm (nI k) k (s_u k hk)
  have u1 : ∀ m, m < 2 ^ 32 → (Int32.toUInt32 (nI m) >>> (Int32.toUInt32 1 &&& Int32.toUInt32 31)).toInt32 = nI (m / 2) := fun m hm => u m 1 hm (by omega)
  have u2 : ∀ m, m < 2 ^ 32 → (Int32.toUInt32 (nI m) >>> (Int32.toUInt32 2 &&& Int32.toUInt32 31)).toInt32 = nI (m / 4) := fun m hm => u m 2 hm (by omega)
  have u4 : ∀ m, m < 2 ^ 32 → (Int32.toUInt32 (nI m) >>> (Int32.toUInt32 4 &&& Int32.toUInt32 31)).toInt32 = nI (m / 16) := fun m hm => u m 4 hm (by omega)
  have u8 : ∀ m, m < 2 ^ 32 → (Int32.toUInt32 (nI m) >>> (Int32.toUInt32 8 &&& Int32.toUInt32 31)).toInt32 = nI (m / 256) := fun m hm => u m 8 hm (by omega)
  have u16 : ∀ m, m < 2 ^ 32 → (Int32.toUInt32 (nI m) >>> (Int32.toUInt32 16 &&& Int32.toUInt32 31)).toInt32 = nI (m / 65536) := fun m hm => u m 16 hm (by omega)
  have b1 : (1431655765 : Int32) = nI 1431655765 := rfl
  have b2 : (858993459 : Int32) = nI 858993459 := rfl
  have b3 : (252645135 : Int32) = nI 252645135 := rfl
  have b4 : (63 : Int32) = nI 63 := rfl
  obtain ⟨z1, z2, z3⟩ := pop_s1 l0 l1 l2 l3 l4 l5 l6 l7 e rfl
  obtain ⟨y1, y2, y3, y4, y5⟩ := pop_s2 (pop4_le h0 l0) (pop4_le h1 l1) (pop4_le h2 l2) (pop4_le h3 l3) (pop4_le h4 l4) (pop4_le h5 l5) (pop4_le h6 l6) (pop4_le h7 l7) z3 rfl rfl
  rw [hp, ← y5]
  rw [u1 n hn, b1, b2, b3, b4, nx_and, pk_sub z1, u2 _ z2, nx_and, nx_and, nI_add, u4 _ (by omega), nI_add, nx_and, u8 _ (by omega), nI_add, u16 _ (by omega), nI_add, nx_and]

