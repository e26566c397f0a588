variable {κ : Nat → Nat → Nat → Prop}
/-! ===== claims ===== -/
def cS (a b : Nat → Nat) (v : Nat → Int32) (on : Nat → Bool) : Nat → Nat → Int32
  | 0, _ => nI 0
  | k + 1, t => cS a b v on k t + (if on k = true ∧ a k ≤ t ∧ t < b k then v k else nI 0)
def sS (p a b : Nat → Nat) (v : Nat → Int32) (on : Nat → Bool) : Nat → Nat → Nat → Int32
  | 0, _, _ => nI 0
  | k + 1, q, t => sS p a b v on k q t + (if on k = true ∧ p k = q ∧ a k ≤ t ∧ t < b k then v k else nI 0)
theorem add_nI0 (x : Int32) : x + nI 0 = x := Int32.add_zero x
theorem nI0_add (x : Int32) : nI 0 + x = x := Int32.zero_add x
theorem cS_off {a b : Nat → Nat} {v : Nat → Int32} {on : Nat → Bool} {k t : Nat} (h : on k = false) : cS a b v on (k + 1) t = cS a b v on k t := by
  rw [cS, h, if_neg (by simp), add_nI0]
theorem sS_off {p a b : Nat → Nat} {v : Nat → Int32} {on : Nat → Bool} {k q t : Nat} (h : on k = false) : sS p a b v on (k + 1) q t = sS p a b v on k q t := by
  rw [sS, h, if_neg (by simp), add_nI0]
/-- a claim as both programs put it down -/
def clm (p a b : Nat) (v : Int32) (c : Nat → Int32) : Nat → Int32 := fun t => c t + (if a ≤ t ∧ t < b then v else nI 0)
def spm (p a b : Nat) (v : Int32) (s : Nat → Nat → Int32) : Nat → Nat → Int32 := fun q t => s q t + (if p = q ∧ a ≤ t ∧ t < b then v else nI 0)
def mX (σ : Mem) (c : Nat → Int32) (s : Nat → Nat → Int32) : Mem := sK (sK σ 18 (fun i t => if i = 0 ∧ t < 48 then c t else σ.1 18 i t)) 19 (fun i j => if i = 0 ∧ j < 576 then s (j / 48) (j % 48) else σ.1 19 i j)
def mM (σ : Mem) (c : Nat → Int32) (s : Nat → Nat → Int32) : Mem := sK (sK σ 61 (fun i t => if i = 0 ∧ t < 48 then c t else σ.1 61 i t)) 62 (fun i j => if i = 0 ∧ j < 576 then s (j % 12) (j / 12) else σ.1 62 i j)
theorem mX_o {σ : Mem} {c : Nat → Int32} {s : Nat → Nat → Int32} {k i j : Nat} (h : k ≠ 18 ∧ k ≠ 19) : (mX σ c s).1 k i j = σ.1 k i j := by
  rw [mX, sK_r, if_neg h.2, sK_r, if_neg h.1]
theorem mM_o {σ : Mem} {c : Nat → Int32} {s : Nat → Nat → Int32} {k i j : Nat} (h : k ≠ 61 ∧ k ≠ 62) : (mM σ c s).1 k i j = σ.1 k i j := by
  rw [mM, sK_r, if_neg h.2, sK_r, if_neg h.1]
theorem mX_18 {σ : Mem} {c : Nat → Int32} {s : Nat → Nat → Int32} {t : Nat} (h : t < 48) : (mX σ c s).1 18 0 t = c t := by
  rw [mX, sK_r, if_neg (by omega), sK_r, if_pos rfl, if_pos ⟨rfl, h⟩]
theorem mX_19 {σ : Mem} {c : Nat → Int32} {s : Nat → Nat → Int32} {p t : Nat} (hp : p < 12) (h : t < 48) : (mX σ c s).1 19 0 (p * 48 + t) = s p t := by
  rw [mX, sK_r, if_pos rfl, if_pos ⟨rfl, by omega⟩, show (p * 48 + t) / 48 = p by omega, show (p * 48 + t) % 48 = t by omega]
theorem mM_61 {σ : Mem} {c : Nat → Int32} {s : Nat → Nat → Int32} {t : Nat} (h : t < 48) : (mM σ c s).1 61 0 t = c t := by
  rw [mM, sK_r, if_neg (by omega), sK_r, if_pos rfl, if_pos ⟨rfl, h⟩]
theorem mM_62 {σ : Mem} {c : Nat → Int32} {s : Nat → Nat → Int32} {p t : Nat} (hp : p < 12) (h : t < 48) : (mM σ c s).1 62 0 (12 * t + p) = s p t := by
  rw [mM, sK_r, if_pos rfl, if_pos ⟨rfl, by omega⟩, show (12 * t + p) / 12 = t by omega, show (12 * t + p) % 12 = p by omega]
theorem f_clX {d p a b : Nat} {v : Int32} {σ : Mem} {c : Nat → Int32} {s : Nat → Nat → Int32} {P : Mem → Prop} (hp : p < 12) (hab : a ≤ b) (hb : b ≤ 48) (hP : P (mX σ (clm p a b v c) (spm p a b v s))) : Rv (fun K => CalV IX (d + 1) S_X2_claim [ar 17 0, ai (nI p), ai (nI a), ai (nI b), ai v] (mX σ c s) K) P := by
  refine Rv_mono (f_X2_claim hp hab hb) ?_
  rintro s' hs'
  have e : s' = mX σ (clm p a b v c) (spm p a b v s) := by
    rw [hs']
    refine Mem_ext (fun k i j => ?_) rfl
    simp only [mX, sK_r, clm, spm]
    by_cases h19 : k = 19
    · subst h19
      simp only [↓reduceIte]
      by_cases hi : i = 0 ∧ j < 576
      · obtain ⟨rfl, hj⟩ := hi
        by_cases hc : j / 48 = p ∧ a ≤ j % 48 ∧ j % 48 < b
        · have hc2 : p = j / 48 ∧ a ≤ j % 48 ∧ j % 48 < b := ⟨hc.1.symm, hc.2⟩
          simp only [hj, and_self, true_and, ↓reduceIte, if_pos hc, if_pos hc2]
        · have hc2 : ¬ (p = j / 48 ∧ a ≤ j % 48 ∧ j % 48 < b) := fun z => hc ⟨z.1.symm, z.2⟩
          simp only [hj, and_self, true_and, ↓reduceIte, if_neg hc, if_neg hc2, add_nI0]
      · rw [if_neg (by omega), if_neg hi, if_neg hi]
    · by_cases h18 : k = 18
      · subst h18
        simp only [↓reduceIte, if_neg h19]
        by_cases hi : i = 0 ∧ j < 48
        · obtain ⟨rfl, hj⟩ := hi
          by_cases hc : a ≤ j ∧ j < b
          · simp only [hj, hc, and_self, true_and, ↓reduceIte]
          · simp only [hj, true_and, ↓reduceIte, if_neg hc, add_nI0]
        · rw [if_neg (by omega), if_neg hi]
          simp only [show ((18 : Nat) = 19) = False by simp, if_false, if_neg hi]
      · simp only [if_neg h19, if_neg h18]
  rw [e]
  exact hP
theorem mM_w61 {σ : Mem} {c : Nat → Int32} {s : Nat → Nat → Int32} {t : Nat} {v : Int32} (ht : t < 48) : wI (mM σ c s) 61 0 t v = mM σ (fun u => if u = t then v else c u) s := by
  refine Mem_ext (fun k i j => ?_) rfl
  simp only [wI_r, mM, sK_r]
  grind
theorem mM_w62 {σ : Mem} {c : Nat → Int32} {s : Nat → Nat → Int32} {p t : Nat} {v : Int32} (hp : p < 12) (ht : t < 48) : wI (mM σ c s) 62 0 (12 * t + p) v = mM σ c (fun q u => if q = p ∧ u = t then v else s q u) := by
  refine Mem_ext (fun k i j => ?_) rfl
  have hj : j = 12 * t + p ↔ j / 12 = t ∧ j % 12 = p := by omega
  simp only [wI_r, mM, sK_r]
  grind
theorem f_clM {d p a b : Nat} {v : Int32} {σ : Mem} {c : Nat → Int32} {s : Nat → Nat → Int32} {P : Mem → Prop} (hp : p < 12) (hab : a ≤ b) (hb : b ≤ 48) (hP : P (mM σ (clm p a b v c) (spm p a b v s))) : Rv (fun K => CalV IM (d + 1) S_X8_claim [ar 30 0, ai (nI p), ai (nI a), ai (nI b), ai v] (mM σ c s) K) P := by
  refine Rv_map (fun K => x_X8_claim) (Rv_KV ?_)
  refine loopU (C := fun i s Q => J IM M_X8_claim (d + 1) 3 [(0, ar 30 0), (1, ai (nI p)), (3, ai (nI b)), (4, ai v), (5, ai (nI i))] [] s Q) (Inv := fun n s' => a ≤ n ∧ s' = mM σ (clm p a n v c) (spm p a n v s)) (n := b) ?_ ?_ hab ?_
  · rintro t s' ht ⟨hl, hs'⟩ ih
    refine Rn_map (fun Q => x_X8_claim_3) ?_
    simp (disch := omega) only [lit_0, lit_1, lit_2, lit_3, lit_4, lit_5, lit_6, lit_7, lit_8, lit_9, lit_10, lit_11, lit_12, lit_17, lit_20, lit_30, lit_31, lit_32, lit_47, lit_48, lit_60, lit_99, lit_100, lit_144, lit_200, lit_240, lit_300, lit_576, lit_960, lit_1008, lit_1000000, lit_100000000, true_implies, not_true_eq_false, false_implies, not_false_eq_true, true_and, and_true, neg_1, nI_add, pk_mul, nI_clamp, le_nI, lt_nI, eq_nI, vp_nI, nI_NN, NN_nI, NN_lt, NN_le, lt_NN, le_NN]
    repeat' (first | refine Rn_and (by first | omega | assumption) ?_ | refine Rn_pos (by first | omega | assumption) ?_ | refine Rn_neg (by first | omega | assumption) ?_ | refine Rn_pos' (by first | omega | assumption) ?_ | refine Rn_neg' (by first | omega | assumption) ?_ | fail)
    refine ih _ ⟨by omega, ?_⟩
    have e61 : s'.1 61 0 t = clm p a t v c t := by rw [hs', mM_61 (by omega)]
    have e62 : s'.1 62 0 (12 * t + p) = spm p a t v s p t := by rw [hs', mM_62 hp (by omega)]
    rw [e61, e62, hs', mM_w61 (by omega), mM_w62 hp (by omega)]
    congr 1
    · funext u
      simp only [clm]
      by_cases e : u = t
      · subst e
        rw [if_pos rfl, if_neg (by omega), if_pos (by omega), add_nI0]
      · rw [if_neg e]
        by_cases hq : a ≤ u ∧ u < t
        · rw [if_pos hq, if_pos (by omega)]
        · rw [if_neg hq, if_neg (by omega)]
    · funext q u
      simp only [spm]
      by_cases e : q = p ∧ u = t
      · rw [if_pos e, e.1, e.2, if_neg (by omega), if_pos (by omega), add_nI0]
      · rw [if_neg e]
        by_cases hq : p = q ∧ a ≤ u ∧ u < t
        · rw [if_pos hq, if_pos (by omega)]
        · rw [if_neg hq, if_neg (by omega)]
  · rintro s' ⟨hl, hs'⟩
    refine Rn_map (fun Q => x_X8_claim_3) ?_
    simp (disch := omega) only [lit_0, lit_1, lit_2, lit_3, lit_4, lit_5, lit_6, lit_7, lit_8, lit_9, lit_10, lit_11, lit_12, lit_17, lit_20, lit_30, lit_31, lit_32, lit_47, lit_48, lit_60, lit_99, lit_100, lit_144, lit_200, lit_240, lit_300, lit_576, lit_960, lit_1008, lit_1000000, lit_100000000, true_implies, not_true_eq_false, false_implies, not_false_eq_true, true_and, and_true, neg_1, nI_add, pk_mul, nI_clamp, le_nI, lt_nI, eq_nI, vp_nI, nI_NN, NN_nI, NN_lt, NN_le, lt_NN, le_NN]
    repeat' (first | refine Rn_and (by first | omega | assumption) ?_ | refine Rn_pos (by first | omega | assumption) ?_ | refine Rn_neg (by first | omega | assumption) ?_ | refine Rn_pos' (by first | omega | assumption) ?_ | refine Rn_neg' (by first | omega | assumption) ?_ | fail)
    subst hs'
    exact Rn_ret ⟨rfl, hP⟩
  · refine ⟨by omega, ?_⟩
    have e1 : clm p a a v c = c := by
      funext t
      rw [clm, if_neg (by omega), add_nI0]
    have e2 : spm p a a v s = s := by
      funext q t
      rw [spm, if_neg (by omega), add_nI0]
    rw [e1, e2]

