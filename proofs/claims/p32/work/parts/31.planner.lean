variable {κ : Nat → Nat → Nat → Prop}
/-! ===== the planner: one equation for both programs ===== -/
theorem arc (a b c : Int32) : a + b + c = a + c + b := by rw [Int32.add_assoc, Int32.add_comm b c, ← Int32.add_assoc]
theorem m12 (n : Nat) : n * 12 = 12 * n := Nat.mul_comm n 12
def dI : Nat → Int32
  | 0 => NN
  | n + 1 => nI n
theorem dI_dn (n : Nat) : dI (n + 1) + NN = dI n := by
  cases n with
  | zero => rfl
  | succ m => exact pk_m1 m
theorem dI_lt {n : Nat} (h : n < 2 ^ 30) : (dI n < nI n) = True := by
  cases n with
  | zero => exact NN_lt (by omega)
  | succ m =>
    show (nI m < nI (m + 1)) = True
    rw [lt_nI (by omega) (by omega)]
    exact eq_true (by omega)
def up (L : Nat → Int32) (j : Nat) (v : Int32) : Nat → Int32 := fun x => if x = j then v else L x
theorem up_s {L : Nat → Int32} {j : Nat} {v : Int32} : up L j v j = v := if_pos rfl
theorem up_o {L : Nat → Int32} {j x : Nat} {v : Int32} (h : x ≠ j) : up L j v x = L x := if_neg h
theorem up_up {L : Nat → Int32} {j : Nat} {v v' : Int32} : up (up L j v) j v' = up L j v' := by
  funext x
  unfold up
  split <;> rfl
def mS (σ : Mem) (ow L C : Nat → Int32) : Mem := sK (sK (sK σ 20 (fun i j => if i = 0 then ow j else σ.1 20 i j)) 21 (fun i j => if i = 0 then L j else σ.1 21 i j)) 22 (fun i j => if i = 0 then C j else σ.1 22 i j)
theorem mS_o {σ : Mem} {ow L C : Nat → Int32} {k i j : Nat} (h : k ≠ 20 ∧ k ≠ 21 ∧ k ≠ 22) : (mS σ ow L C).1 k i j = σ.1 k i j := by
  rw [mS, sK_r, if_neg h.2.2, sK_r, if_neg h.2.1, sK_r, if_neg h.1]
theorem mS_20 {σ : Mem} {ow L C : Nat → Int32} {j : Nat} : (mS σ ow L C).1 20 0 j = ow j := by
  rw [mS, sK_r, if_neg (by omega), sK_r, if_neg (by omega), sK_r, if_pos rfl, if_pos rfl]
theorem mS_21 {σ : Mem} {ow L C : Nat → Int32} {j : Nat} : (mS σ ow L C).1 21 0 j = L j := by
  rw [mS, sK_r, if_neg (by omega), sK_r, if_pos rfl, if_pos rfl]
theorem mS_22 {σ : Mem} {ow L C : Nat → Int32} {j : Nat} : (mS σ ow L C).1 22 0 j = C j := by
  rw [mS, sK_r, if_pos rfl, if_pos rfl]
theorem mS_w20 {σ : Mem} {ow L C : Nat → Int32} {j : Nat} {v : Int32} : wI (mS σ ow L C) 20 0 j v = mS σ (up ow j v) L C := by
  refine Mem_ext (fun k i x => ?_) rfl
  simp only [wI_r, mS, sK_r, up]
  grind
theorem mS_w21 {σ : Mem} {ow L C : Nat → Int32} {j : Nat} {v : Int32} : wI (mS σ ow L C) 21 0 j v = mS σ ow (up L j v) C := by
  refine Mem_ext (fun k i x => ?_) rfl
  simp only [wI_r, mS, sK_r, up]
  grind
theorem mS_w22 {σ : Mem} {ow L C : Nat → Int32} {j : Nat} {v : Int32} : wI (mS σ ow L C) 22 0 j v = mS σ ow L (up C j v) := by
  refine Mem_ext (fun k i x => ?_) rfl
  simp only [wI_r, mS, sK_r, up]
  grind
theorem mS_id (σ : Mem) : mS σ (σ.1 20 0) (σ.1 21 0) (σ.1 22 0) = σ := by
  refine Mem_ext (fun k i x => ?_) rfl
  simp only [mS, sK_r]
  grind
def lateP (hm p t : Nat) : Int32 := if t = 47 ∧ p ≠ hm then nI 300 else nI 0
def v0P (c : Nat → Int32) (s : Nat → Nat → Int32) (lk : Nat → Int32) (may : Nat → Nat → Bool) (hm : Nat) (L : Nat → Int32) (t p : Nat) : Int32 := (L (12 * (t + 1) + p) + c t + lateP hm p t) + (if may p t = true then nI 9 - lk p - s p t else nI 20)
def c0X (may : Nat → Nat → Bool) (p t : Nat) : Int32 := if may p t = true then nI p else nI (100 + p)
def wcF (c : Nat → Int32) (t : Nat) : Nat → Int32
  | 0 => nI 0
  | n + 1 => wcF c t n + ((c (t + n) + nI 3) + (if t + n = 47 then nI 300 else nI 0))
def tF (c : Nat → Int32) (w : Nat → Nat → Nat) (L : Nat → Int32) (t p q : Nat) : Int32 := if t + w p q < 48 then wcF c t (w p q) + L (12 * (t + w p q) + q) else wcF c t (48 - t) + nI 0
def bWv (use : Nat → Bool) (T : Nat → Int32) : Nat → Int32 → Int32
  | 0, v => v
  | q + 1, v => if use q = true ∧ T q < bWv use T q v then T q else bWv use T q v
def bWc (use : Nat → Bool) (T cd : Nat → Int32) : Nat → Int32 → Int32 → Int32
  | 0, _, c => c
  | q + 1, v, c => if use q = true ∧ T q < bWv use T q v then cd q else bWc use T cd q v c
def us (w : Nat → Nat → Nat) (p : Nat) : Nat → Bool := fun q => decide (w p q ≠ 1000000)
theorem bWv_c {use : Nat → Bool} {T T' : Nat → Int32} {v : Int32} : ∀ {n : Nat}, (∀ q, q < n → T q = T' q) → bWv use T n v = bWv use T' n v
  | 0, _ => rfl
  | n + 1, h => by
    rw [bWv, bWv, h n (by omega), bWv_c (fun q hq => h q (by omega))]
theorem bWc_c {use : Nat → Bool} {T T' cd : Nat → Int32} {v c : Int32} : ∀ {n : Nat}, (∀ q, q < n → T q = T' q) → bWc use T cd n v c = bWc use T' cd n v c
  | 0, _ => rfl
  | n + 1, h => by
    rw [bWc, bWc, h n (by omega), bWv_c (fun q hq => h q (by omega)), bWc_c (fun q hq => h q (by omega))]
theorem owW {c ow : Nat → Int32} (h : ∀ t, t < 48 → ow (t + 1) = ow t + nI 3 + c t) (t : Nat) : ∀ n, t + n ≤ 48 → wcF c t n = (ow (t + n) - ow t) + (if t + n = 48 ∧ 0 < n then nI 300 else nI 0)
  | 0, _ => by
    rw [wcF, if_neg (by omega)]
    show nI 0 = ow t - ow t + nI 0
    rw [Int32.sub_self]
    rfl
  | n + 1, hn => by
    rw [wcF, owW h t n (by omega), if_neg (by omega)]
    have e := h (t + n) (by omega)
    rw [show t + (n + 1) = t + n + 1 by omega, e]
    by_cases h47 : t + n = 47
    · rw [if_pos h47, if_pos (by omega)]
      simp only [Int32.sub_eq_add_neg, add_nI0]
      generalize ow (t + n) = a
      generalize -ow t = b
      generalize c (t + n) = d
      rw [Int32.add_comm d (nI 3)]
      simp only [← Int32.add_assoc]
      rw [arc a b (nI 3), arc (a + nI 3) b d]
    · rw [if_neg h47, if_neg (by omega)]
      simp only [Int32.sub_eq_add_neg, add_nI0]
      generalize ow (t + n) = a
      generalize -ow t = b
      generalize c (t + n) = d
      rw [Int32.add_comm d (nI 3)]
      simp only [← Int32.add_assoc]
      rw [arc a b (nI 3), arc (a + nI 3) b d]
theorem tF_c {c : Nat → Int32} {w : Nat → Nat → Nat} {L L' : Nat → Int32} {t p q : Nat} (h : ∀ j, 12 * (t + 1) ≤ j → L' j = L j) (hw : 1 ≤ w p q) : tF c w L' t p q = tF c w L t p q := by
  unfold tF
  split
  · rw [h _ (by omega)]
  · rfl
theorem v0P_c {c : Nat → Int32} {s : Nat → Nat → Int32} {lk : Nat → Int32} {may : Nat → Nat → Bool} {hm : Nat} {L L' : Nat → Int32} {t p : Nat} (h : ∀ j, 12 * (t + 1) ≤ j → L' j = L j) : v0P c s lk may hm L' t p = v0P c s lk may hm L t p := by
  unfold v0P
  rw [h _ (by omega)]
def PXp (c : Nat → Int32) (s : Nat → Nat → Int32) (lk : Nat → Int32) (may : Nat → Nat → Bool) (hm : Nat) (w : Nat → Nat → Nat) (A : Nat) (cd : Nat → Nat → Int32) (c0 : Nat → Nat → Int32) (L C : Nat → Int32) (t p : Nat) : Prop := L (12 * t + p) = bWv (us w p) (tF c w L t p) A (v0P c s lk may hm L t p) ∧ C (12 * t + p) = bWc (us w p) (tF c w L t p) (cd p) A (v0P c s lk may hm L t p) (c0 p t)
theorem PXp_c {c : Nat → Int32} {s : Nat → Nat → Int32} {lk : Nat → Int32} {may : Nat → Nat → Bool} {hm : Nat} {w : Nat → Nat → Nat} {A : Nat} {cd c0 : Nat → Nat → Int32} {L C L' C' : Nat → Int32} {t p : Nat} (hw : ∀ q, q < A → 1 ≤ w p q) (h : ∀ j, 12 * (t + 1) ≤ j → L' j = L j) (h1 : L' (12 * t + p) = L (12 * t + p)) (h2 : C' (12 * t + p) = C (12 * t + p)) (g : PXp c s lk may hm w A cd c0 L C t p) : PXp c s lk may hm w A cd c0 L' C' t p := by
  obtain ⟨g1, g2⟩ := g
  have e1 : ∀ q, q < A → tF c w L' t p q = tF c w L t p q := fun q hq => tF_c h (hw q hq)
  exact ⟨by rw [h1, g1, v0P_c h, bWv_c e1], by rw [h2, g2, v0P_c h, bWc_c e1]⟩

