variable {κ : Nat → Nat → Nat → Prop}
def bC (on : Bool) (a b : Nat) (t : Nat) : Int32 := if on = true ∧ a ≤ t ∧ t < b then nI 200 else nI 0
def bS (on : Bool) (p a b : Nat) (q t : Nat) : Int32 := if on = true ∧ p = q ∧ a ≤ t ∧ t < b then nI 200 else nI 0
def tt : Nat → Bool := fun _ => true
theorem f_X2_weigh {d f n pb ab bb : Nat} {on : Bool} {pD aD bD : Nat → Nat} {vD : Nat → Int32} {σ : Mem} {P : Mem → Prop} (hn : n ≤ 12) (x6 : σ.1 9 f 6 = nI (4 * n)) (hd : ∀ k, k < n → σ.1 11 f (4 * k) = nI (pD k) ∧ σ.1 11 f (4 * k + 1) = nI (aD k) ∧ σ.1 11 f (4 * k + 2) = nI (bD k) ∧ σ.1 11 f (4 * k + 3) = vD k ∧ pD k < 12 ∧ aD k ≤ bD k ∧ bD k ≤ 48) (hb : (on = false ∧ σ.1 9 f 12 = nI 0) ∨ (on = true ∧ σ.1 9 f 12 = nI 1 ∧ σ.1 9 f 7 = nI pb ∧ σ.1 9 f 8 = nI ab ∧ σ.1 9 f 9 = nI bb ∧ pb < 12 ∧ ab ≤ bb ∧ bb ≤ 48)) (hP : P (mX σ (fun t => cS aD bD vD tt n t + bC on ab bb t) (fun q t => sS pD aD bD vD tt n q t + bS on pb ab bb q t))) : Rv (fun K => CalV IX (d + 2) S_X2_weigh [ar 17 0, ar 9 f] σ K) P := by
  refine Rv_map (fun K => x_X2_weigh) ?_
  simp (disch := omega) only [lit_0, lit_1, lit_2, lit_3, lit_4, lit_5, lit_6, lit_7, lit_8, lit_9, lit_10, lit_11, lit_12, lit_17, lit_20, lit_30, lit_31, lit_32, lit_47, lit_48, lit_60, lit_99, lit_100, lit_144, lit_200, lit_240, lit_300, lit_576, lit_960, lit_1008, lit_1000000, lit_100000000, true_implies, not_true_eq_false, false_implies, not_false_eq_true, true_and, and_true, neg_1, nI_add, pk_mul, nI_clamp, le_nI, lt_nI, eq_nI, vp_nI, nI_NN, NN_nI, NN_lt, NN_le, lt_NN, le_NN]
  refine Rv_cV (Rv_mono f_fill18 ?_)
  rintro s1 ⟨hs1⟩
  refine Rv_cV (Rv_mono f_fill19 ?_)
  rintro s2 hs2
  refine Rv_KV ?_
  have e2 : s2 = mX σ (fun t => cS aD bD vD tt 0 t) (fun q t => sS pD aD bD vD tt 0 q t) := by
    rw [hs2]
    refine Mem_ext (fun k i j => ?_) rfl
    simp only [sK_r, mX, cS, sS]
    grind
  refine loopU (C := fun i s Q => J IX M_X2_weigh (d + 2) 18 [(0, ar 17 0), (1, ar 9 f), (2, ai (nI (4 * i)))] [] s Q) (Inv := fun m s => s = mX σ (fun t => cS aD bD vD tt m t) (fun q t => sS pD aD bD vD tt m q t)) (n := n) ?_ ?_ (by omega) e2
  · rintro k s hk hs ih
    obtain ⟨d1, d2, d3, d4, d5, d6, d7⟩ := hd k hk
    have r6 : s.1 9 f 6 = nI (4 * n) := by rw [hs, mX_o ⟨by omega, by omega⟩]; exact x6
    have r0 : s.1 11 f (4 * k) = nI (pD k) := by rw [hs, mX_o ⟨by omega, by omega⟩]; exact d1
    have r1 : s.1 11 f (4 * k + 1) = nI (aD k) := by rw [hs, mX_o ⟨by omega, by omega⟩]; exact d2
    have r2 : s.1 11 f (4 * k + 2) = nI (bD k) := by rw [hs, mX_o ⟨by omega, by omega⟩]; exact d3
    have r3 : s.1 11 f (4 * k + 3) = vD k := by rw [hs, mX_o ⟨by omega, by omega⟩]; exact d4
    refine Rn_map (fun Q => x_X2_weigh_18) ?_
    simp (disch := omega) only [lit_0, lit_1, lit_2, lit_3, lit_4, lit_5, lit_6, lit_7, lit_8, lit_9, lit_10, lit_11, lit_12, lit_17, lit_20, lit_30, lit_31, lit_32, lit_47, lit_48, lit_60, lit_99, lit_100, lit_144, lit_200, lit_240, lit_300, lit_576, lit_960, lit_1008, lit_1000000, lit_100000000, true_implies, not_true_eq_false, false_implies, not_false_eq_true, true_and, and_true, neg_1, nI_add, pk_mul, nI_clamp, le_nI, lt_nI, eq_nI, vp_nI, nI_NN, NN_nI, NN_lt, NN_le, lt_NN, le_NN, r6, r0, r1, r2, r3]
    repeat' (first | refine Rn_and (by first | omega | assumption) ?_ | refine Rn_pos (by first | omega | assumption) ?_ | refine Rn_neg (by first | omega | assumption) ?_ | refine Rn_pos' (by first | omega | assumption) ?_ | refine Rn_neg' (by first | omega | assumption) ?_ | fail)
    rw [hs]
    refine Rn_cV (f_clX d5 d6 d7 ?_)
    rw [show 4 * k + 4 = 4 * (k + 1) by omega]
    refine ih _ ?_
    congr 1
    · funext t
      simp only [clm, cS, tt, true_and]
    · funext q t
      simp only [spm, sS, tt, true_and]
  · rintro s hs
    have r6 : s.1 9 f 6 = nI (4 * n) := by rw [hs, mX_o ⟨by omega, by omega⟩]; exact x6
    have r12 : s.1 9 f 12 = σ.1 9 f 12 := by rw [hs, mX_o ⟨by omega, by omega⟩]
    have r7 : s.1 9 f 7 = σ.1 9 f 7 := by rw [hs, mX_o ⟨by omega, by omega⟩]
    have r8 : s.1 9 f 8 = σ.1 9 f 8 := by rw [hs, mX_o ⟨by omega, by omega⟩]
    have r9 : s.1 9 f 9 = σ.1 9 f 9 := by rw [hs, mX_o ⟨by omega, by omega⟩]
    refine Rn_map (fun Q => x_X2_weigh_18) ?_
    rcases hb with ⟨h1, h2⟩ | ⟨h1, h2, h3, h4, h5, h6, h7, h8⟩
    · simp (disch := omega) only [lit_0, lit_1, lit_2, lit_3, lit_4, lit_5, lit_6, lit_7, lit_8, lit_9, lit_10, lit_11, lit_12, lit_17, lit_20, lit_30, lit_31, lit_32, lit_47, lit_48, lit_60, lit_99, lit_100, lit_144, lit_200, lit_240, lit_300, lit_576, lit_960, lit_1008, lit_1000000, lit_100000000, true_implies, not_true_eq_false, false_implies, not_false_eq_true, true_and, and_true, neg_1, nI_add, pk_mul, nI_clamp, le_nI, lt_nI, eq_nI, vp_nI, nI_NN, NN_nI, NN_lt, NN_le, lt_NN, le_NN, r6, r12, h2]
      repeat' (first | refine Rn_and (by first | omega | assumption) ?_ | refine Rn_pos (by first | omega | assumption) ?_ | refine Rn_neg (by first | omega | assumption) ?_ | refine Rn_pos' (by first | omega | assumption) ?_ | refine Rn_neg' (by first | omega | assumption) ?_ | fail)
      refine Rn_ret ⟨rfl, ?_⟩
      have : s = mX σ (fun t => cS aD bD vD tt n t + bC on ab bb t) (fun q t => sS pD aD bD vD tt n q t + bS on pb ab bb q t) := by
        rw [hs]
        congr 1
        · funext t
          simp [bC, h1, add_nI0]
        · funext q t
          simp [bS, h1, add_nI0]
      rw [this]
      exact hP
    · simp (disch := omega) only [lit_0, lit_1, lit_2, lit_3, lit_4, lit_5, lit_6, lit_7, lit_8, lit_9, lit_10, lit_11, lit_12, lit_17, lit_20, lit_30, lit_31, lit_32, lit_47, lit_48, lit_60, lit_99, lit_100, lit_144, lit_200, lit_240, lit_300, lit_576, lit_960, lit_1008, lit_1000000, lit_100000000, true_implies, not_true_eq_false, false_implies, not_false_eq_true, true_and, and_true, neg_1, nI_add, pk_mul, nI_clamp, le_nI, lt_nI, eq_nI, vp_nI, nI_NN, NN_nI, NN_lt, NN_le, lt_NN, le_NN, r6, r12, r7, r8, r9, h2, h3, h4, h5]
      repeat' (first | refine Rn_and (by first | omega | assumption) ?_ | refine Rn_pos (by first | omega | assumption) ?_ | refine Rn_neg (by first | omega | assumption) ?_ | refine Rn_pos' (by first | omega | assumption) ?_ | refine Rn_neg' (by first | omega | assumption) ?_ | fail)
      rw [hs]
      refine Rn_cV (f_clX h6 h7 h8 ?_)
      refine Rn_ret ⟨rfl, ?_⟩
      have : mX σ (clm pb ab bb (nI 200) (fun t => cS aD bD vD tt n t)) (spm pb ab bb (nI 200) (fun q t => sS pD aD bD vD tt n q t)) = mX σ (fun t => cS aD bD vD tt n t + bC on ab bb t) (fun q t => sS pD aD bD vD tt n q t + bS on pb ab bb q t) := by
        congr 1
        · funext t
          simp only [clm, bC, h1, true_and]
        · funext q t
          simp only [spm, bS, h1, true_and]
      rw [this]
      exact hP
theorem f_X8_findClaims {d f n G pb ab bb : Nat} {on : Bool} {pD aD bD pM aM bM : Nat → Nat} {vD vM wh : Nat → Int32} {σ : Mem} {P : Mem → Prop} (hf : f < 20) (hn : n ≤ 12) (hG : G ≤ 10) (m41 : σ.1 41 0 f = nI n) (mG : σ.1 30 0 25 = nI G) (hd : ∀ k, k < n → σ.1 42 0 (48 * f + 4 * k) = nI (pD k) ∧ σ.1 42 0 (48 * f + 4 * k + 1) = nI (aD k) ∧ σ.1 42 0 (48 * f + 4 * k + 2) = nI (bD k) ∧ σ.1 42 0 (48 * f + 4 * k + 3) = vD k ∧ pD k < 12 ∧ aD k ≤ bD k ∧ bD k ≤ 48) (hm : ∀ g, g < G → σ.1 49 0 g = wh g ∧ σ.1 50 0 (4 * g) = nI (pM g) ∧ σ.1 50 0 (4 * g + 1) = nI (aM g) ∧ σ.1 50 0 (4 * g + 2) = nI (bM g) ∧ σ.1 50 0 (4 * g + 3) = vM g ∧ pM g < 12 ∧ aM g ≤ bM g ∧ bM g ≤ 48) (hb : (on = false ∧ σ.1 44 0 f = nI 0) ∨ (on = true ∧ σ.1 44 0 f = nI 1 ∧ σ.1 45 0 (3 * f) = nI pb ∧ σ.1 45 0 (3 * f + 1) = nI ab ∧ σ.1 45 0 (3 * f + 2) = nI bb ∧ pb < 12 ∧ ab ≤ bb ∧ bb ≤ 48)) (hP : P (mM σ (fun t => cS aD bD vD tt n t + cS aM bM vM (fun g => bt (wh g) f) G t + bC on ab bb t) (fun q t => sS pD aD bD vD tt n q t + sS pM aM bM vM (fun g => bt (wh g) f) G q t + bS on pb ab bb q t))) : Rv (fun K => CalV IM (d + 2) S_X8_findClaims [ar 30 0, ai (nI f)] σ K) P := by
  refine Rv_map (fun K => x_X8_findClaims) (Rv_KV ?_)
  simp (disch := omega) only [lit_0, lit_1, lit_2, lit_3, lit_4, lit_5, lit_6, lit_7, lit_8, lit_9, lit_10, lit_11, lit_12, lit_17, lit_20, lit_30, lit_31, lit_32, lit_47, lit_48, lit_60, lit_99, lit_100, lit_144, lit_200, lit_240, lit_300, lit_576, lit_960, lit_1008, lit_1000000, lit_100000000, true_implies, not_true_eq_false, false_implies, not_false_eq_true, true_and, and_true, neg_1, nI_add, pk_mul, nI_clamp, le_nI, lt_nI, eq_nI, vp_nI, nI_NN, NN_nI, NN_lt, NN_le, lt_NN, le_NN]
  refine loopU (C := fun i s Q => J IM M_X8_findClaims (d + 2) 2 [(0, ar 30 0), (1, ai (nI f)), (2, ai (nI i))] [] s Q) (Inv := fun m s => s = sK (sK σ 61 (fun i t => if i = 0 ∧ 12 * t < m then nI 0 else σ.1 61 i t)) 62 (fun i j => if i = 0 ∧ j < m then nI 0 else σ.1 62 i j)) (n := 576) ?_ ?_ (by omega) ?_
  · rintro k s hk hs ih
    have e1 : nI k / nI 12 = nI (k / 12) := pk_div (by omega) (by omega) (by omega)
    refine Rn_map (fun Q => x_X8_findClaims_2) ?_
    simp (disch := omega) only [lit_0, lit_1, lit_2, lit_3, lit_4, lit_5, lit_6, lit_7, lit_8, lit_9, lit_10, lit_11, lit_12, lit_17, lit_20, lit_30, lit_31, lit_32, lit_47, lit_48, lit_60, lit_99, lit_100, lit_144, lit_200, lit_240, lit_300, lit_576, lit_960, lit_1008, lit_1000000, lit_100000000, true_implies, not_true_eq_false, false_implies, not_false_eq_true, true_and, and_true, neg_1, nI_add, pk_mul, nI_clamp, le_nI, lt_nI, eq_nI, vp_nI, nI_NN, NN_nI, NN_lt, NN_le, lt_NN, le_NN, e1]
    repeat' (first | refine Rn_and (by first | omega | assumption) ?_ | refine Rn_pos (by first | omega | assumption) ?_ | refine Rn_neg (by first | omega | assumption) ?_ | refine Rn_pos' (by first | omega | assumption) ?_ | refine Rn_neg' (by first | omega | assumption) ?_ | fail)
    refine ih _ ?_
    subst hs
    refine Mem_ext (fun k' i j => ?_) rfl
    simp only [wI_r, sK_r]
    grind
  · rintro s hs
    refine Rn_map (fun Q => x_X8_findClaims_2) ?_
    simp (disch := omega) only [lit_0, lit_1, lit_2, lit_3, lit_4, lit_5, lit_6, lit_7, lit_8, lit_9, lit_10, lit_11, lit_12, lit_17, lit_20, lit_30, lit_31, lit_32, lit_47, lit_48, lit_60, lit_99, lit_100, lit_144, lit_200, lit_240, lit_300, lit_576, lit_960, lit_1008, lit_1000000, lit_100000000, true_implies, not_true_eq_false, false_implies, not_false_eq_true, true_and, and_true, neg_1, nI_add, pk_mul, nI_clamp, le_nI, lt_nI, eq_nI, vp_nI, nI_NN, NN_nI, NN_lt, NN_le, lt_NN, le_NN]
    repeat' (first | refine Rn_and (by first | omega | assumption) ?_ | refine Rn_pos (by first | omega | assumption) ?_ | refine Rn_neg (by first | omega | assumption) ?_ | refine Rn_pos' (by first | omega | assumption) ?_ | refine Rn_neg' (by first | omega | assumption) ?_ | fail)
    have e2 : s = mM σ (fun t => cS aD bD vD tt 0 t) (fun q t => sS pD aD bD vD tt 0 q t) := by
      rw [hs]
      refine Mem_ext (fun k i j => ?_) rfl
      have hj : 12 * j < 576 ↔ j < 48 := by omega
      simp only [sK_r, mM, cS, sS, hj]
    refine loopU (C := fun i s Q => J IM M_X8_findClaims (d + 2) 37 [(0, ar 30 0), (1, ai (nI f)), (2, ai (nI (48 * f + 4 * i)))] [] s Q) (Inv := fun m s => s = mM σ (fun t => cS aD bD vD tt m t) (fun q t => sS pD aD bD vD tt m q t)) (n := n) ?_ ?_ (by omega) e2
    · rintro k s hk hs ih
      obtain ⟨d1, d2, d3, d4, d5, d6, d7⟩ := hd k hk
      have r41 : s.1 41 0 f = nI n := by rw [hs, mM_o ⟨by omega, by omega⟩]; exact m41
      have r0 : s.1 42 0 (48 * f + 4 * k) = nI (pD k) := by rw [hs, mM_o ⟨by omega, by omega⟩]; exact d1
      have r1 : s.1 42 0 (48 * f + 4 * k + 1) = nI (aD k) := by rw [hs, mM_o ⟨by omega, by omega⟩]; exact d2
      have r2 : s.1 42 0 (48 * f + 4 * k + 2) = nI (bD k) := by rw [hs, mM_o ⟨by omega, by omega⟩]; exact d3
      have r3 : s.1 42 0 (48 * f + 4 * k + 3) = vD k := by rw [hs, mM_o ⟨by omega, by omega⟩]; exact d4
      refine Rn_map (fun Q => x_X8_findClaims_37) ?_
      simp (disch := omega) only [lit_0, lit_1, lit_2, lit_3, lit_4, lit_5, lit_6, lit_7, lit_8, lit_9, lit_10, lit_11, lit_12, lit_17, lit_20, lit_30, lit_31, lit_32, lit_47, lit_48, lit_60, lit_99, lit_100, lit_144, lit_200, lit_240, lit_300, lit_576, lit_960, lit_1008, lit_1000000, lit_100000000, true_implies, not_true_eq_false, false_implies, not_false_eq_true, true_and, and_true, neg_1, nI_add, pk_mul, nI_clamp, le_nI, lt_nI, eq_nI, vp_nI, nI_NN, NN_nI, NN_lt, NN_le, lt_NN, le_NN, r41, r0, r1, r2, r3]
      repeat' (first | refine Rn_and (by first | omega | assumption) ?_ | refine Rn_pos (by first | omega | assumption) ?_ | refine Rn_neg (by first | omega | assumption) ?_ | refine Rn_pos' (by first | omega | assumption) ?_ | refine Rn_neg' (by first | omega | assumption) ?_ | fail)
      rw [hs]
      refine Rn_cV (f_clM d5 d6 d7 ?_)
      rw [show 48 * f + 4 * k + 4 = 48 * f + 4 * (k + 1) by omega]
      refine ih _ ?_
      congr 1
      · funext t
        simp only [clm, cS, tt, true_and]
      · funext q t
        simp only [spm, sS, tt, true_and]
    · rintro s hs
      have r41 : s.1 41 0 f = nI n := by rw [hs, mM_o ⟨by omega, by omega⟩]; exact m41
      refine Rn_map (fun Q => x_X8_findClaims_37) ?_
      simp (disch := omega) only [lit_0, lit_1, lit_2, lit_3, lit_4, lit_5, lit_6, lit_7, lit_8, lit_9, lit_10, lit_11, lit_12, lit_17, lit_20, lit_30, lit_31, lit_32, lit_47, lit_48, lit_60, lit_99, lit_100, lit_144, lit_200, lit_240, lit_300, lit_576, lit_960, lit_1008, lit_1000000, lit_100000000, true_implies, not_true_eq_false, false_implies, not_false_eq_true, true_and, and_true, neg_1, nI_add, pk_mul, nI_clamp, le_nI, lt_nI, eq_nI, vp_nI, nI_NN, NN_nI, NN_lt, NN_le, lt_NN, le_NN, r41]
      repeat' (first | refine Rn_and (by first | omega | assumption) ?_ | refine Rn_pos (by first | omega | assumption) ?_ | refine Rn_neg (by first | omega | assumption) ?_ | refine Rn_pos' (by first | omega | assumption) ?_ | refine Rn_neg' (by first | omega | assumption) ?_ | fail)
      have e3 : s = mM σ (fun t => cS aD bD vD tt n t + cS aM bM vM (fun g => bt (wh g) f) 0 t) (fun q t => sS pD aD bD vD tt n q t + sS pM aM bM vM (fun g => bt (wh g) f) 0 q t) := by
        rw [hs]
        congr 1
        · funext t
          simp only [cS, add_nI0]
        · funext q t
          simp only [sS, add_nI0]
      refine loopU (C := fun i s Q => J IM M_X8_findClaims (d + 2) 96 [(0, ar 30 0), (1, ai (nI f)), (2, ai (nI i))] [] s Q) (Inv := fun m s => s = mM σ (fun t => cS aD bD vD tt n t + cS aM bM vM (fun g => bt (wh g) f) m t) (fun q t => sS pD aD bD vD tt n q t + sS pM aM bM vM (fun g => bt (wh g) f) m q t)) (n := G) ?_ ?_ (by omega) e3
      · rintro g s hg hs ih
        obtain ⟨d0, d1, d2, d3, d4, d5, d6, d7⟩ := hm g hg
        have rG : s.1 30 0 25 = nI G := by rw [hs, mM_o ⟨by omega, by omega⟩]; exact mG
        have rw0 : s.1 49 0 g = wh g := by rw [hs, mM_o ⟨by omega, by omega⟩]; exact d0
        have r0 : s.1 50 0 (4 * g) = nI (pM g) := by rw [hs, mM_o ⟨by omega, by omega⟩]; exact d1
        have r1 : s.1 50 0 (4 * g + 1) = nI (aM g) := by rw [hs, mM_o ⟨by omega, by omega⟩]; exact d2
        have r2 : s.1 50 0 (4 * g + 2) = nI (bM g) := by rw [hs, mM_o ⟨by omega, by omega⟩]; exact d3
        have r3 : s.1 50 0 (4 * g + 3) = vM g := by rw [hs, mM_o ⟨by omega, by omega⟩]; exact d4
        refine Rn_map (fun Q => x_X8_findClaims_96) ?_
        simp (disch := omega) only [lit_0, lit_1, lit_2, lit_3, lit_4, lit_5, lit_6, lit_7, lit_8, lit_9, lit_10, lit_11, lit_12, lit_17, lit_20, lit_30, lit_31, lit_32, lit_47, lit_48, lit_60, lit_99, lit_100, lit_144, lit_200, lit_240, lit_300, lit_576, lit_960, lit_1008, lit_1000000, lit_100000000, true_implies, not_true_eq_false, false_implies, not_false_eq_true, true_and, and_true, neg_1, nI_add, pk_mul, nI_clamp, le_nI, lt_nI, eq_nI, vp_nI, nI_NN, NN_nI, NN_lt, NN_le, lt_NN, le_NN, rG, rw0, r0, r1, r2, r3, bo_s]
        repeat' (first | refine Rn_and (by first | omega | assumption) ?_ | refine Rn_pos (by first | omega | assumption) ?_ | refine Rn_neg (by first | omega | assumption) ?_ | refine Rn_pos' (by first | omega | assumption) ?_ | refine Rn_neg' (by first | omega | assumption) ?_ | fail)
        refine Rn_if' (fun h => ?_) (fun h => ?_)
        · refine ih _ ?_
          have h' : (fun g => bt (wh g) f) g = false := by simpa using h
          rw [hs]
          congr 1
          · funext t
            rw [cS_off (on := fun g => bt (wh g) f) (k := g) h']
          · funext q t
            rw [sS_off (on := fun g => bt (wh g) f) (k := g) h']
        · repeat' (first | refine Rn_and (by first | omega | assumption) ?_ | refine Rn_pos (by first | omega | assumption) ?_ | refine Rn_neg (by first | omega | assumption) ?_ | refine Rn_pos' (by first | omega | assumption) ?_ | refine Rn_neg' (by first | omega | assumption) ?_ | fail)
          rw [hs]
          refine Rn_cV (f_clM d5 d6 d7 ?_)
          refine ih _ ?_
          congr 1
          · funext t
            simp only [clm, cS, h, true_and, Int32.add_assoc]
          · funext q t
            simp only [spm, sS, h, true_and, Int32.add_assoc]
      · rintro s hs
        have rG : s.1 30 0 25 = nI G := by rw [hs, mM_o ⟨by omega, by omega⟩]; exact mG
        have r44 : s.1 44 0 f = σ.1 44 0 f := by rw [hs, mM_o ⟨by omega, by omega⟩]
        have r45 : ∀ j, s.1 45 0 j = σ.1 45 0 j := by intro j; rw [hs, mM_o ⟨by omega, by omega⟩]
        refine Rn_map (fun Q => x_X8_findClaims_96) ?_
        rcases hb with ⟨h1, h2⟩ | ⟨h1, h2, h3, h4, h5, h6, h7, h8⟩
        · simp (disch := omega) only [lit_0, lit_1, lit_2, lit_3, lit_4, lit_5, lit_6, lit_7, lit_8, lit_9, lit_10, lit_11, lit_12, lit_17, lit_20, lit_30, lit_31, lit_32, lit_47, lit_48, lit_60, lit_99, lit_100, lit_144, lit_200, lit_240, lit_300, lit_576, lit_960, lit_1008, lit_1000000, lit_100000000, true_implies, not_true_eq_false, false_implies, not_false_eq_true, true_and, and_true, neg_1, nI_add, pk_mul, nI_clamp, le_nI, lt_nI, eq_nI, vp_nI, nI_NN, NN_nI, NN_lt, NN_le, lt_NN, le_NN, rG, r44, h2]
          repeat' (first | refine Rn_and (by first | omega | assumption) ?_ | refine Rn_pos (by first | omega | assumption) ?_ | refine Rn_neg (by first | omega | assumption) ?_ | refine Rn_pos' (by first | omega | assumption) ?_ | refine Rn_neg' (by first | omega | assumption) ?_ | fail)
          refine Rn_ret ⟨rfl, ?_⟩
          have : s = mM σ (fun t => cS aD bD vD tt n t + cS aM bM vM (fun g => bt (wh g) f) G t + bC on ab bb t) (fun q t => sS pD aD bD vD tt n q t + sS pM aM bM vM (fun g => bt (wh g) f) G q t + bS on pb ab bb q t) := by
            rw [hs]
            congr 1
            · funext t
              simp [bC, h1, add_nI0]
            · funext q t
              simp [bS, h1, add_nI0]
          rw [this]
          exact hP
        · simp (disch := omega) only [lit_0, lit_1, lit_2, lit_3, lit_4, lit_5, lit_6, lit_7, lit_8, lit_9, lit_10, lit_11, lit_12, lit_17, lit_20, lit_30, lit_31, lit_32, lit_47, lit_48, lit_60, lit_99, lit_100, lit_144, lit_200, lit_240, lit_300, lit_576, lit_960, lit_1008, lit_1000000, lit_100000000, true_implies, not_true_eq_false, false_implies, not_false_eq_true, true_and, and_true, neg_1, nI_add, pk_mul, nI_clamp, le_nI, lt_nI, eq_nI, vp_nI, nI_NN, NN_nI, NN_lt, NN_le, lt_NN, le_NN, rG, r44, r45, h2, h3, h4, h5]
          repeat' (first | refine Rn_and (by first | omega | assumption) ?_ | refine Rn_pos (by first | omega | assumption) ?_ | refine Rn_neg (by first | omega | assumption) ?_ | refine Rn_pos' (by first | omega | assumption) ?_ | refine Rn_neg' (by first | omega | assumption) ?_ | fail)
          rw [hs]
          refine Rn_cV (f_clM h6 h7 h8 ?_)
          refine Rn_ret ⟨rfl, ?_⟩
          have : mM σ (clm pb ab bb (nI 200) (fun t => cS aD bD vD tt n t + cS aM bM vM (fun g => bt (wh g) f) G t)) (spm pb ab bb (nI 200) (fun q t => sS pD aD bD vD tt n q t + sS pM aM bM vM (fun g => bt (wh g) f) G q t)) = mM σ (fun t => cS aD bD vD tt n t + cS aM bM vM (fun g => bt (wh g) f) G t + bC on ab bb t) (fun q t => sS pD aD bD vD tt n q t + sS pM aM bM vM (fun g => bt (wh g) f) G q t + bS on pb ab bb q t) := by
            congr 1
            · funext t
              simp only [clm, bC, h1, true_and]
            · funext q t
              simp only [spm, bS, h1, true_and]
          rw [this]
          exact hP
  · refine Mem_ext (fun k i j => ?_) rfl
    simp only [sK_r]
    grind

