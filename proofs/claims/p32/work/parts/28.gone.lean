variable {κ : Nat → Nat → Nat → Prop}
theorem PC_x {x12 : Nat → Nat → Int32} {m43 m46 : Nat → Int32} {P F N B : Nat} {w : Nat → Nat → Nat} (hP : P ≤ 12) (gPlan : GPlan x12 m46) (gPln : GPln m43 m46 P F N B w) {f : Nat} (hf : f < 20) : ∀ t, t < 48 → x12 f t = NN ∨ ∃ n, n < 400 ∧ x12 f t = nI n := by
  intro t ht
  rw [gPlan f t hf ht]
  exact PCode_n hP (gPln.1 f t hf ht).1
theorem PC_m {m43 m46 : Nat → Int32} {P F N B : Nat} {w : Nat → Nat → Nat} (hP : P ≤ 12) (gPln : GPln m43 m46 P F N B w) {f : Nat} (hf : f < 20) : ∀ t, t < 48 → m46 (48 * f + t) = NN ∨ ∃ n, n < 400 ∧ m46 (48 * f + t) = nI n := fun t ht => PCode_n hP (gPln.1 f t hf ht).1
theorem PWell_c {w : Nat → Nat → Nat} {c c' : Nat → Int32} (h : ∀ t, t < 48 → c' t = c t) (g : PWell w c) : PWell w c' := by
  intro t ht
  rw [h t ht]
  obtain ⟨h1, h2⟩ := g t ht
  refine ⟨h1, fun p q hp hq e => ?_⟩
  obtain ⟨b, b1, b2, b3, b4, b5⟩ := h2 p q hp hq e
  refine ⟨b, b1, b2, fun u hu1 hu2 hu3 => ?_, ?_, ?_⟩
  · rw [h u hu2]; exact b3 u hu1 hu2 hu3
  · rcases b4 with b4 | b4
    · exact Or.inl b4
    · exact Or.inr (by rw [h (b - 1) (by omega)]; exact b4)
  · rcases b5 with b5 | b5
    · exact Or.inl b5
    · by_cases h48 : 48 ≤ b + w p q
      · exact Or.inl h48
      · exact Or.inr (by rw [h (b + w p q) (by omega)]; exact b5)
theorem f_X7_happen_64 {d F C N D p : Nat} {σ : Mem} {P : Int32 → Mem → Prop} (hF : F ≤ 20) (hC : C < 12) (hN : N < 48) (hD : D ≤ 20) (hp : p < 12) (xF : σ.1 0 0 9 = nI F) (xN : σ.1 0 0 14 = nI N) (xD : σ.1 0 0 15 = nI D) (hk : ∀ u, u < 20 → bt (σ.1 9 u 11) C = false) (hP : P (nI C) (sK (sK σ 13 (fun u k => if u < F ∧ (σ.1 12 u N = nI p ∨ σ.1 12 u N = nI (100 + p)) ∧ k = C then nI (D * 48 + N) else σ.1 13 u k)) 9 (fun u j => if u < F ∧ (σ.1 12 u N = nI p ∨ σ.1 12 u N = nI (100 + p)) ∧ j = 11 then σ.1 9 u 11 ||| (nI 1 <<< (nI C &&& nI 31)) else σ.1 9 u j))) : Rn (fun K => J IX M_X7_happen (d + 2) 64 [(0, ar 0 0), (1, ai (nI p)), (2, ai (nI C)), (3, ai (nI 0))] [] σ (KQ K)) P := by
  refine Rn_KQ ?_
  refine loopU (C := fun i s Q => J IX M_X7_happen (d + 2) 64 [(0, ar 0 0), (1, ai (nI p)), (2, ai (nI C)), (3, ai (nI i))] [] s Q) (Inv := fun n s => s = (sK (sK σ 13 (fun u k => if u < n ∧ (σ.1 12 u N = nI p ∨ σ.1 12 u N = nI (100 + p)) ∧ k = C then nI (D * 48 + N) else σ.1 13 u k)) 9 (fun u j => if u < n ∧ (σ.1 12 u N = nI p ∨ σ.1 12 u N = nI (100 + p)) ∧ j = 11 then σ.1 9 u 11 ||| (nI 1 <<< (nI C &&& nI 31)) else σ.1 9 u j))) (n := F) ?_ ?_ (by omega) ?_
  · rintro f s hf hs ih
    have sF : s.1 0 0 9 = nI F := by rw [hs]; exact xF
    have sN : s.1 0 0 14 = nI N := by rw [hs]; exact xN
    have sD : s.1 0 0 15 = nI D := by rw [hs]; exact xD
    have s12 : s.1 12 f N = σ.1 12 f N := by rw [hs]; rfl
    have s11 : s.1 9 f 11 = σ.1 9 f 11 := by rw [hs, sK_r, if_pos rfl, if_neg (by omega)]
    have learn : (σ.1 12 f N = nI p ∨ σ.1 12 f N = nI (100 + p)) → wI (sK s 13 (fun i k => if i = f ∧ k < 12 ∧ bt (nI 1 <<< (nI C &&& nI 31)) k = true ∧ bt (s.1 9 f 11) k = false then nI (D * 48 + N) else s.1 13 i k)) 9 f 11 (s.1 9 f 11 ||| (nI 1 <<< (nI C &&& nI 31))) = (sK (sK σ 13 (fun u k => if u < f + 1 ∧ (σ.1 12 u N = nI p ∨ σ.1 12 u N = nI (100 + p)) ∧ k = C then nI (D * 48 + N) else σ.1 13 u k)) 9 (fun u j => if u < f + 1 ∧ (σ.1 12 u N = nI p ∨ σ.1 12 u N = nI (100 + p)) ∧ j = 11 then σ.1 9 u 11 ||| (nI 1 <<< (nI C &&& nI 31)) else σ.1 9 u j)) := by
      intro hc
      have hb : bt (σ.1 9 f 11) C = false := hk f (by omega)
      rw [s11]
      subst hs
      refine Mem_ext (fun k i j => ?_) rfl
      have h1 : (bt (nI 1 <<< (nI C &&& nI 31)) j = true) = (j = C) := by rw [bt_shl (by omega)]; simp
      simp only [wI_r, sK_r, h1]
      grind
    refine Rn_map (fun Q => x_X7_happen_64) ?_
    simp (disch := omega) only [lit_0, lit_1, lit_2, lit_3, lit_4, lit_5, lit_6, lit_7, lit_8, lit_9, lit_10, lit_11, lit_12, lit_17, lit_20, lit_30, lit_31, lit_32, lit_47, lit_48, lit_60, lit_99, lit_100, lit_144, lit_200, lit_240, lit_300, lit_576, lit_960, lit_1008, lit_1000000, lit_100000000, true_implies, not_true_eq_false, false_implies, not_false_eq_true, true_and, and_true, neg_1, nI_add, pk_mul, nI_clamp, le_nI, lt_nI, eq_nI, vp_nI, nI_NN, NN_nI, NN_lt, NN_le, lt_NN, le_NN, sF, sN, sD, s12]
    repeat' (first | refine Rn_and (by first | omega | assumption) ?_ | refine Rn_pos (by first | omega | assumption) ?_ | refine Rn_neg (by first | omega | assumption) ?_ | refine Rn_pos' (by first | omega | assumption) ?_ | refine Rn_neg' (by first | omega | assumption) ?_ | fail)
    refine Rn_if (fun c1 => ?_) (fun c1 => ?_)
    · repeat' (first | refine Rn_and (by first | omega | assumption) ?_ | refine Rn_pos (by first | omega | assumption) ?_ | refine Rn_neg (by first | omega | assumption) ?_ | refine Rn_pos' (by first | omega | assumption) ?_ | refine Rn_neg' (by first | omega | assumption) ?_ | fail)
      refine Rn_cV (Rv_mono f_X3_learn ?_)
      rintro s2 hs2
      rw [hs2, learn (Or.inl c1)]
      exact ih _ rfl
    · refine Rn_if' (fun c2 => ?_) (fun c2 => ?_)
      · refine ih _ ?_
        subst hs
        refine Mem_ext (fun k i j => ?_) rfl
        simp only [sK_r]
        grind
      · repeat' (first | refine Rn_and (by first | omega | assumption) ?_ | refine Rn_pos (by first | omega | assumption) ?_ | refine Rn_neg (by first | omega | assumption) ?_ | refine Rn_pos' (by first | omega | assumption) ?_ | refine Rn_neg' (by first | omega | assumption) ?_ | fail)
        refine Rn_cV (Rv_mono f_X3_learn ?_)
        rintro s2 hs2
        rw [hs2, learn (Or.inr c2)]
        exact ih _ rfl
  · rintro s hs
    have sF : s.1 0 0 9 = nI F := by rw [hs]; exact xF
    refine Rn_map (fun Q => x_X7_happen_64) ?_
    simp (disch := omega) only [lit_0, lit_1, lit_2, lit_3, lit_4, lit_5, lit_6, lit_7, lit_8, lit_9, lit_10, lit_11, lit_12, lit_17, lit_20, lit_30, lit_31, lit_32, lit_47, lit_48, lit_60, lit_99, lit_100, lit_144, lit_200, lit_240, lit_300, lit_576, lit_960, lit_1008, lit_1000000, lit_100000000, true_implies, not_true_eq_false, false_implies, not_false_eq_true, true_and, and_true, neg_1, nI_add, pk_mul, nI_clamp, le_nI, lt_nI, eq_nI, vp_nI, nI_NN, NN_nI, NN_lt, NN_le, lt_NN, le_NN, sF]
    repeat' (first | refine Rn_and (by first | omega | assumption) ?_ | refine Rn_pos (by first | omega | assumption) ?_ | refine Rn_neg (by first | omega | assumption) ?_ | refine Rn_pos' (by first | omega | assumption) ?_ | refine Rn_neg' (by first | omega | assumption) ?_ | fail)
    subst hs
    exact Rn_ret ⟨_, rfl, hP⟩
  · refine Mem_ext (fun k i j => ?_) rfl
    simp only [sK_r]
    grind
theorem f_X8_happen_46 {d F C N D p : Nat} {σ : Mem} {P : Int32 → Mem → Prop} (hF : F ≤ 20) (hC : C < 12) (hN : N < 48) (hD : D ≤ 20) (hp : p < 12) (mF : σ.1 30 0 13 = nI F) (mC : σ.1 30 0 31 = nI C) (mN : σ.1 30 0 2 = nI N) (mD : σ.1 30 0 3 = nI D) (hP : P (nI C) (wI (sK σ 54 (fun i j => if i = 0 ∧ j / 12 < F ∧ (σ.1 46 0 (48 * (j / 12) + N) = nI p ∨ σ.1 46 0 (48 * (j / 12) + N) = nI (100 + p)) ∧ j % 12 = C then nI (D * 48 + N) else σ.1 54 i j)) 30 0 31 (nI (C + 1)))) : Rn (fun K => J IM M_X8_happen (d + 3) 46 [(0, ar 30 0), (1, ai (nI p)), (2, ai (nI 0))] [] σ (KQ K)) P := by
  refine Rn_KQ ?_
  refine loopU (C := fun i s Q => J IM M_X8_happen (d + 3) 46 [(0, ar 30 0), (1, ai (nI p)), (2, ai (nI i))] [] s Q) (Inv := fun n s => s = sK σ 54 (fun i j => if i = 0 ∧ j / 12 < n ∧ (σ.1 46 0 (48 * (j / 12) + N) = nI p ∨ σ.1 46 0 (48 * (j / 12) + N) = nI (100 + p)) ∧ j % 12 = C then nI (D * 48 + N) else σ.1 54 i j)) (n := F) ?_ ?_ (by omega) ?_
  · rintro f s hf hs ih
    have sF : s.1 30 0 13 = nI F := by rw [hs]; exact mF
    have sN : s.1 30 0 2 = nI N := by rw [hs]; exact mN
    have sD : s.1 30 0 3 = nI D := by rw [hs]; exact mD
    have sC : s.1 30 0 31 = nI C := by rw [hs]; exact mC
    have s46 : s.1 46 0 (48 * f + N) = σ.1 46 0 (48 * f + N) := by rw [hs]; rfl
    have step : ∀ (hc : σ.1 46 0 (48 * f + N) = nI p ∨ σ.1 46 0 (48 * f + N) = nI (100 + p)), wI s 54 0 (12 * f + C) (nI (48 * D + N)) = sK σ 54 (fun i j => if i = 0 ∧ j / 12 < f + 1 ∧ (σ.1 46 0 (48 * (j / 12) + N) = nI p ∨ σ.1 46 0 (48 * (j / 12) + N) = nI (100 + p)) ∧ j % 12 = C then nI (D * 48 + N) else σ.1 54 i j) := by
      intro hc
      subst hs
      rw [Nat.mul_comm 48 D]
      refine Mem_ext (fun k i j => ?_) rfl
      have h1 : j = 12 * f + C ↔ j / 12 = f ∧ j % 12 = C := by omega
      simp only [wI_r, sK_r]
      grind
    have skip : ¬ (σ.1 46 0 (48 * f + N) = nI p ∨ σ.1 46 0 (48 * f + N) = nI (100 + p)) → s = sK σ 54 (fun i j => if i = 0 ∧ j / 12 < f + 1 ∧ (σ.1 46 0 (48 * (j / 12) + N) = nI p ∨ σ.1 46 0 (48 * (j / 12) + N) = nI (100 + p)) ∧ j % 12 = C then nI (D * 48 + N) else σ.1 54 i j) := by
      intro hc
      subst hs
      refine Mem_ext (fun k i j => ?_) rfl
      have h1 : j / 12 = f → ¬ (σ.1 46 0 (48 * (j / 12) + N) = nI p ∨ σ.1 46 0 (48 * (j / 12) + N) = nI (100 + p)) := by
        intro h
        rw [h]
        exact hc
      simp only [sK_r]
      grind
    refine Rn_map (fun Q => x_X8_happen_46) ?_
    simp (disch := omega) only [lit_0, lit_1, lit_2, lit_3, lit_4, lit_5, lit_6, lit_7, lit_8, lit_9, lit_10, lit_11, lit_12, lit_17, lit_20, lit_30, lit_31, lit_32, lit_47, lit_48, lit_60, lit_99, lit_100, lit_144, lit_200, lit_240, lit_300, lit_576, lit_960, lit_1008, lit_1000000, lit_100000000, true_implies, not_true_eq_false, false_implies, not_false_eq_true, true_and, and_true, neg_1, nI_add, pk_mul, nI_clamp, le_nI, lt_nI, eq_nI, vp_nI, nI_NN, NN_nI, NN_lt, NN_le, lt_NN, le_NN, sF, sN, sD, sC, s46]
    repeat' (first | refine Rn_and (by first | omega | assumption) ?_ | refine Rn_pos (by first | omega | assumption) ?_ | refine Rn_neg (by first | omega | assumption) ?_ | refine Rn_pos' (by first | omega | assumption) ?_ | refine Rn_neg' (by first | omega | assumption) ?_ | fail)
    refine Rn_if (fun c1 => ?_) (fun c1 => ?_)
    · repeat' (first | refine Rn_and (by first | omega | assumption) ?_ | refine Rn_pos (by first | omega | assumption) ?_ | refine Rn_neg (by first | omega | assumption) ?_ | refine Rn_pos' (by first | omega | assumption) ?_ | refine Rn_neg' (by first | omega | assumption) ?_ | fail)
      exact ih _ (step (Or.inl c1))
    · refine Rn_if' (fun c2 => ?_) (fun c2 => ?_)
      · exact ih _ (skip (fun h => h.elim c1 c2))
      · repeat' (first | refine Rn_and (by first | omega | assumption) ?_ | refine Rn_pos (by first | omega | assumption) ?_ | refine Rn_neg (by first | omega | assumption) ?_ | refine Rn_pos' (by first | omega | assumption) ?_ | refine Rn_neg' (by first | omega | assumption) ?_ | fail)
        exact ih _ (step (Or.inr c2))
  · rintro s hs
    have sF : s.1 30 0 13 = nI F := by rw [hs]; exact mF
    have sC : s.1 30 0 31 = nI C := by rw [hs]; exact mC
    have e : nI (C + 1) - nI 1 = nI C := pk_sub (by omega)
    refine Rn_map (fun Q => x_X8_happen_46) ?_
    simp (disch := omega) only [lit_0, lit_1, lit_2, lit_3, lit_4, lit_5, lit_6, lit_7, lit_8, lit_9, lit_10, lit_11, lit_12, lit_17, lit_20, lit_30, lit_31, lit_32, lit_47, lit_48, lit_60, lit_99, lit_100, lit_144, lit_200, lit_240, lit_300, lit_576, lit_960, lit_1008, lit_1000000, lit_100000000, true_implies, not_true_eq_false, false_implies, not_false_eq_true, true_and, and_true, neg_1, nI_add, pk_mul, nI_clamp, le_nI, lt_nI, eq_nI, vp_nI, nI_NN, NN_nI, NN_lt, NN_le, lt_NN, le_NN, sF, sC, e]
    repeat' (first | refine Rn_and (by first | omega | assumption) ?_ | refine Rn_pos (by first | omega | assumption) ?_ | refine Rn_neg (by first | omega | assumption) ?_ | refine Rn_pos' (by first | omega | assumption) ?_ | refine Rn_neg' (by first | omega | assumption) ?_ | fail)
    subst hs
    exact Rn_ret ⟨_, rfl, hP⟩
  · refine Mem_ext (fun k i j => ?_) rfl
    simp only [sK_r]
    grind
theorem R_gone {σx σm : Mem} {dx dm : Nat} {p0 : Int32} (R : Rel κ σx σm) : Rn (fun K => CalI IX (dx + 4) S_X7_gone [ar 0 0, ai p0] σx K) (fun r sx => Rn (fun K => CalI IM (dm + 3) S_X8_gone [ar 30 0, ai p0] σm K) (fun r' sm => Agree κ r r' sx sm)) := by
  have R0 := R
  obtain ⟨P, W, F, G, C, N, D, B, w, l, gSc, gRef, gHrs, gLck, gWay, gFar, gDist, gShl, gCell, gHome, gKeys, gLike, gDuty, gGone, gBent, gPlan, gCost, gSeat, gMeet, gTly, gKnow, gFlt, gRow, gPln⟩ := R
  have hSc0 := gSc
  obtain ⟨⟨xP, mP, hP⟩, ⟨xW, mW, hW⟩, ⟨xF, mF, hF⟩, ⟨xG, mG, hG⟩, ⟨xC, mC, hC⟩, ⟨xN, mN, hN⟩, ⟨xD, mD, hD⟩, ⟨xB, mB, hB⟩, hpl, hb0⟩ := hSc0
  rcases ix_cases p0 F (by omega) with hf | hf | ⟨f, hf, rfl⟩
  · refine Rn_map (fun K => x_X7_gone) ?_
    try simp (disch := omega) only [lit_0, lit_1, lit_2, lit_3, lit_4, lit_5, lit_6, lit_7, lit_8, lit_9, lit_10, lit_11, lit_12, lit_17, lit_20, lit_30, lit_31, lit_32, lit_47, lit_48, lit_60, lit_99, lit_100, lit_144, lit_200, lit_240, lit_300, lit_576, lit_960, lit_1008, lit_1000000, lit_100000000, true_implies, not_true_eq_false, false_implies, not_false_eq_true, true_and, and_true, neg_1, nI_add, pk_mul, nI_clamp, vp_nI, tI_lt, tI_le, tI_eq, tI_nI, tI_NN, tI_pred, xP, xW, xF, xG, xC, xN, xD, xB, pk_sub, tI_sub, Nat.add_sub_cancel_left, Nat.add_sub_cancel, wI_same]
    repeat' (first | refine Rn_and (by first | omega | assumption) ?_ | refine Rn_pos (by first | omega | assumption) ?_ | refine Rn_neg (by first | omega | assumption) ?_ | refine Rn_pos' (by first | omega | assumption) ?_ | refine Rn_neg' (by first | omega | assumption) ?_ | refine Rn_if (fun _ => ?_) (fun _ => ?_) | refine Rn_if' (fun _ => ?_) (fun _ => ?_) | fail)
    all_goals (refine Rn_ret ?_; refine Rn_map (fun K => x_X8_gone) ?_)
    all_goals try simp (disch := omega) only [lit_0, lit_1, lit_2, lit_3, lit_4, lit_5, lit_6, lit_7, lit_8, lit_9, lit_10, lit_11, lit_12, lit_17, lit_20, lit_30, lit_31, lit_32, lit_47, lit_48, lit_60, lit_99, lit_100, lit_144, lit_200, lit_240, lit_300, lit_576, lit_960, lit_1008, lit_1000000, lit_100000000, true_implies, not_true_eq_false, false_implies, not_false_eq_true, true_and, and_true, neg_1, nI_add, pk_mul, nI_clamp, vp_nI, tI_lt, tI_le, tI_eq, tI_nI, tI_NN, tI_pred, mP, mW, mF, mG, mC, mN, mD, mB, pk_sub, tI_sub, Nat.add_sub_cancel_left, Nat.add_sub_cancel, wI_same]
    all_goals repeat' (first | refine Rn_and (by first | omega | assumption) ?_ | refine Rn_pos (by first | omega | assumption) ?_ | refine Rn_neg (by first | omega | assumption) ?_ | refine Rn_pos' (by first | omega | assumption) ?_ | refine Rn_neg' (by first | omega | assumption) ?_ | refine Rn_if (fun _ => ?_) (fun _ => ?_) | refine Rn_if' (fun _ => ?_) (fun _ => ?_) | fail)
    all_goals first
      | exact Rn_ret (Agr rfl R0)
      | exact Rn_ret (Agr rfl (Rel_ref R0 1)) | exact Rn_ret (Agr rfl (Rel_ref R0 2)) | exact Rn_ret (Agr rfl (Rel_ref R0 3)) | exact Rn_ret (Agr rfl (Rel_ref R0 4)) | exact Rn_ret (Agr rfl (Rel_ref R0 5)) | exact Rn_ret (Agr rfl (Rel_ref R0 6)) | exact Rn_ret (Agr rfl (Rel_ref R0 7))
      | (exfalso; omega)
  · refine Rn_map (fun K => x_X7_gone) ?_
    try simp (disch := omega) only [lit_0, lit_1, lit_2, lit_3, lit_4, lit_5, lit_6, lit_7, lit_8, lit_9, lit_10, lit_11, lit_12, lit_17, lit_20, lit_30, lit_31, lit_32, lit_47, lit_48, lit_60, lit_99, lit_100, lit_144, lit_200, lit_240, lit_300, lit_576, lit_960, lit_1008, lit_1000000, lit_100000000, true_implies, not_true_eq_false, false_implies, not_false_eq_true, true_and, and_true, neg_1, nI_add, pk_mul, nI_clamp, vp_nI, tI_lt, tI_le, tI_eq, tI_nI, tI_NN, tI_pred, xP, xW, xF, xG, xC, xN, xD, xB, pk_sub, tI_sub, Nat.add_sub_cancel_left, Nat.add_sub_cancel, wI_same]
    repeat' (first | refine Rn_and (by first | omega | assumption) ?_ | refine Rn_pos (by first | omega | assumption) ?_ | refine Rn_neg (by first | omega | assumption) ?_ | refine Rn_pos' (by first | omega | assumption) ?_ | refine Rn_neg' (by first | omega | assumption) ?_ | refine Rn_if (fun _ => ?_) (fun _ => ?_) | refine Rn_if' (fun _ => ?_) (fun _ => ?_) | fail)
    all_goals (refine Rn_ret ?_; refine Rn_map (fun K => x_X8_gone) ?_)
    all_goals try simp (disch := omega) only [lit_0, lit_1, lit_2, lit_3, lit_4, lit_5, lit_6, lit_7, lit_8, lit_9, lit_10, lit_11, lit_12, lit_17, lit_20, lit_30, lit_31, lit_32, lit_47, lit_48, lit_60, lit_99, lit_100, lit_144, lit_200, lit_240, lit_300, lit_576, lit_960, lit_1008, lit_1000000, lit_100000000, true_implies, not_true_eq_false, false_implies, not_false_eq_true, true_and, and_true, neg_1, nI_add, pk_mul, nI_clamp, vp_nI, tI_lt, tI_le, tI_eq, tI_nI, tI_NN, tI_pred, mP, mW, mF, mG, mC, mN, mD, mB, pk_sub, tI_sub, Nat.add_sub_cancel_left, Nat.add_sub_cancel, wI_same]
    all_goals repeat' (first | refine Rn_and (by first | omega | assumption) ?_ | refine Rn_pos (by first | omega | assumption) ?_ | refine Rn_neg (by first | omega | assumption) ?_ | refine Rn_pos' (by first | omega | assumption) ?_ | refine Rn_neg' (by first | omega | assumption) ?_ | refine Rn_if (fun _ => ?_) (fun _ => ?_) | refine Rn_if' (fun _ => ?_) (fun _ => ?_) | fail)
    all_goals first
      | exact Rn_ret (Agr rfl R0)
      | exact Rn_ret (Agr rfl (Rel_ref R0 1)) | exact Rn_ret (Agr rfl (Rel_ref R0 2)) | exact Rn_ret (Agr rfl (Rel_ref R0 3)) | exact Rn_ret (Agr rfl (Rel_ref R0 4)) | exact Rn_ret (Agr rfl (Rel_ref R0 5)) | exact Rn_ret (Agr rfl (Rel_ref R0 6)) | exact Rn_ret (Agr rfl (Rel_ref R0 7))
      | (exfalso; omega)
  · rcases (gGone f (by omega)).2 with eg | eg
    all_goals have egx := (gGone f (by omega)).1.trans eg
    · by_cases hB0 : B = 0
      · refine Rn_map (fun K => x_X7_gone) ?_
        try simp (disch := omega) only [lit_0, lit_1, lit_2, lit_3, lit_4, lit_5, lit_6, lit_7, lit_8, lit_9, lit_10, lit_11, lit_12, lit_17, lit_20, lit_30, lit_31, lit_32, lit_47, lit_48, lit_60, lit_99, lit_100, lit_144, lit_200, lit_240, lit_300, lit_576, lit_960, lit_1008, lit_1000000, lit_100000000, true_implies, not_true_eq_false, false_implies, not_false_eq_true, true_and, and_true, neg_1, nI_add, pk_mul, nI_clamp, vp_nI, tI_lt, tI_le, tI_eq, tI_nI, tI_NN, tI_pred, xP, xW, xF, xG, xC, xN, xD, xB, egx, pk_sub, tI_sub, Nat.add_sub_cancel_left, Nat.add_sub_cancel, wI_same]
        repeat' (first | refine Rn_and (by first | omega | assumption) ?_ | refine Rn_pos (by first | omega | assumption) ?_ | refine Rn_neg (by first | omega | assumption) ?_ | refine Rn_pos' (by first | omega | assumption) ?_ | refine Rn_neg' (by first | omega | assumption) ?_ | refine Rn_if (fun _ => ?_) (fun _ => ?_) | refine Rn_if' (fun _ => ?_) (fun _ => ?_) | fail)
        all_goals (refine Rn_ret ?_; refine Rn_map (fun K => x_X8_gone) ?_)
        all_goals try simp (disch := omega) only [lit_0, lit_1, lit_2, lit_3, lit_4, lit_5, lit_6, lit_7, lit_8, lit_9, lit_10, lit_11, lit_12, lit_17, lit_20, lit_30, lit_31, lit_32, lit_47, lit_48, lit_60, lit_99, lit_100, lit_144, lit_200, lit_240, lit_300, lit_576, lit_960, lit_1008, lit_1000000, lit_100000000, true_implies, not_true_eq_false, false_implies, not_false_eq_true, true_and, and_true, neg_1, nI_add, pk_mul, nI_clamp, vp_nI, tI_lt, tI_le, tI_eq, tI_nI, tI_NN, tI_pred, mP, mW, mF, mG, mC, mN, mD, mB, eg, pk_sub, tI_sub, Nat.add_sub_cancel_left, Nat.add_sub_cancel, wI_same]
        all_goals repeat' (first | refine Rn_and (by first | omega | assumption) ?_ | refine Rn_pos (by first | omega | assumption) ?_ | refine Rn_neg (by first | omega | assumption) ?_ | refine Rn_pos' (by first | omega | assumption) ?_ | refine Rn_neg' (by first | omega | assumption) ?_ | refine Rn_if (fun _ => ?_) (fun _ => ?_) | refine Rn_if' (fun _ => ?_) (fun _ => ?_) | fail)
        all_goals first
          | exact Rn_ret (Agr rfl R0)
          | exact Rn_ret (Agr rfl (Rel_ref R0 1)) | exact Rn_ret (Agr rfl (Rel_ref R0 2)) | exact Rn_ret (Agr rfl (Rel_ref R0 3)) | exact Rn_ret (Agr rfl (Rel_ref R0 4)) | exact Rn_ret (Agr rfl (Rel_ref R0 5)) | exact Rn_ret (Agr rfl (Rel_ref R0 6)) | exact Rn_ret (Agr rfl (Rel_ref R0 7))
          | (exfalso; omega)
      · refine Rn_map (fun K => x_X7_gone) ?_
        simp (disch := omega) only [lit_0, lit_1, lit_2, lit_3, lit_4, lit_5, lit_6, lit_7, lit_8, lit_9, lit_10, lit_11, lit_12, lit_17, lit_20, lit_30, lit_31, lit_32, lit_47, lit_48, lit_60, lit_99, lit_100, lit_144, lit_200, lit_240, lit_300, lit_576, lit_960, lit_1008, lit_1000000, lit_100000000, true_implies, not_true_eq_false, false_implies, not_false_eq_true, true_and, and_true, neg_1, nI_add, pk_mul, nI_clamp, vp_nI, tI_lt, tI_le, tI_eq, tI_nI, tI_NN, tI_pred, xP, xW, xF, xG, xC, xN, xD, xB, egx]
        repeat' (first | refine Rn_and (by first | omega | assumption) ?_ | refine Rn_pos (by first | omega | assumption) ?_ | refine Rn_neg (by first | omega | assumption) ?_ | refine Rn_pos' (by first | omega | assumption) ?_ | refine Rn_neg' (by first | omega | assumption) ?_ | fail)
        refine Rn_cV (Rv_mono (f_X4_add (by omega) (PC_x hP gPlan gPln (by omega))) ?_)
        rintro s1 hs1
        have s1N : s1.1 0 0 14 = nI N := by rw [hs1]; exact xN
        simp (disch := omega) only [lit_0, lit_1, lit_2, lit_3, lit_4, lit_5, lit_6, lit_7, lit_8, lit_9, lit_10, lit_11, lit_12, lit_17, lit_20, lit_30, lit_31, lit_32, lit_47, lit_48, lit_60, lit_99, lit_100, lit_144, lit_200, lit_240, lit_300, lit_576, lit_960, lit_1008, lit_1000000, lit_100000000, true_implies, not_true_eq_false, false_implies, not_false_eq_true, true_and, and_true, neg_1, nI_add, pk_mul, nI_clamp, vp_nI, tI_lt, tI_le, tI_eq, tI_nI, tI_NN, tI_pred, s1N]
        repeat' (first | refine Rn_and (by first | omega | assumption) ?_ | refine Rn_pos (by first | omega | assumption) ?_ | refine Rn_neg (by first | omega | assumption) ?_ | refine Rn_pos' (by first | omega | assumption) ?_ | refine Rn_neg' (by first | omega | assumption) ?_ | fail)
        refine Rn_cV (Rv_mono (f_X3_leave_12 (by omega)) ?_)
        rintro s2 hs2
        have s2F : s2.1 0 0 9 = nI F := by rw [hs2, hs1]; exact xF
        refine Rn_cI (Rn_mono (f_X7_countHere hF s2F) ?_)
        rintro rx s3 ⟨hs3, hrx⟩
        refine Rn_ret ?_
        refine Rn_map (fun K => x_X8_gone) ?_
        have eF : nI F - nI 1 = nI (F - 1) := pk_sub (by omega)
        simp (disch := omega) only [lit_0, lit_1, lit_2, lit_3, lit_4, lit_5, lit_6, lit_7, lit_8, lit_9, lit_10, lit_11, lit_12, lit_17, lit_20, lit_30, lit_31, lit_32, lit_47, lit_48, lit_60, lit_99, lit_100, lit_144, lit_200, lit_240, lit_300, lit_576, lit_960, lit_1008, lit_1000000, lit_100000000, true_implies, not_true_eq_false, false_implies, not_false_eq_true, true_and, and_true, neg_1, nI_add, pk_mul, nI_clamp, le_nI, lt_nI, eq_nI, vp_nI, nI_NN, NN_nI, NN_lt, NN_le, lt_NN, le_NN, mP, mW, mF, mG, mC, mN, mD, mB, eg, eF]
        repeat' (first | refine Rn_and (by first | omega | assumption) ?_ | refine Rn_pos (by first | omega | assumption) ?_ | refine Rn_neg (by first | omega | assumption) ?_ | refine Rn_pos' (by first | omega | assumption) ?_ | refine Rn_neg' (by first | omega | assumption) ?_ | fail)
        refine Rn_cV (Rv_mono (f_X8_leaves (by omega) (by omega) (PC_m hP gPln (by omega))) ?_)
        rintro t1 ht1
        repeat' (first | refine Rn_and (by first | omega | assumption) ?_ | refine Rn_pos (by first | omega | assumption) ?_ | refine Rn_neg (by first | omega | assumption) ?_ | refine Rn_pos' (by first | omega | assumption) ?_ | refine Rn_neg' (by first | omega | assumption) ?_ | fail)
        have t2F : (wI (wI t1 43 0 f (nI 1)) 44 0 f (nI 0)).1 30 0 13 = nI F := by rw [ht1]; exact mF
        refine Rn_cI (Rn_mono (f_X8_still hF t2F) ?_)
        rintro rm t3 ⟨ht3, hrm⟩
        refine Rn_ret (Agr ?_ ?_)
        · rw [hrx, hrm]
          refine cntF_congr (fun u hu => ?_)
          rw [hs2, hs1, ht1]
          by_cases e : u = f
          · subst e
            simp [sK_r, wI_r]
          · have := (gGone u (by omega)).1
            simpa [sK_r, wI_r, e] using this
        · rw [hs3, ht3, hs2, hs1, ht1]
          have h9 : ∀ u j, j ≠ 12 → j ≠ 13 → (sK (wI (wI (sK σx 16 (fun i j => if i = 0 ∧ j < 576 ∧ N ≤ j % 48 ∧ σx.1 12 f (j % 48) = nI (j / 48) then σx.1 16 0 j + NN else σx.1 16 i j)) 9 f 13 (nI 1)) 9 f 12 (nI 0)) 12 (fun i j => if i = f ∧ N ≤ j ∧ j < 48 then NN else (sK σx 16 (fun i j => if i = 0 ∧ j < 576 ∧ N ≤ j % 48 ∧ σx.1 12 f (j % 48) = nI (j / 48) then σx.1 16 0 j + NN else σx.1 16 i j)).1 12 i j)).1 9 u j = σx.1 9 u j := by
            intro u j h1 h2
            rw [sK_r, if_neg (by omega), wI_r, if_neg (by omega), wI_r, if_neg (by omega), sK_r, if_neg (by omega)]
          have k46 : ∀ u t, u < 20 → t < 48 → (wI (wI (sK (sK σm 46 (fun i j => if i = 0 ∧ 48 * f + N ≤ j ∧ j < 48 * f + 48 then NN else σm.1 46 i j)) 48 (fun i j => if i = 0 ∧ j < 576 ∧ N ≤ j % 48 ∧ σm.1 46 0 (48 * f + j % 48) = nI (j / 48) then σm.1 48 0 j + NN else σm.1 48 i j)) 43 0 f (nI 1)) 44 0 f (nI 0)).1 46 0 (48 * u + t) = if u = f ∧ N ≤ t then NN else σm.1 46 0 (48 * u + t) := by
            intro u t hu ht
            rw [wI_r, if_neg (by omega), wI_r, if_neg (by omega), sK_r, if_neg (by omega), sK_r, if_pos rfl]
            by_cases e : u = f ∧ N ≤ t
            · rw [if_pos (by omega), if_pos e]
            · rw [if_neg (by omega), if_neg e]
          have k43 : ∀ u, (wI (wI (sK (sK σm 46 (fun i j => if i = 0 ∧ 48 * f + N ≤ j ∧ j < 48 * f + 48 then NN else σm.1 46 i j)) 48 (fun i j => if i = 0 ∧ j < 576 ∧ N ≤ j % 48 ∧ σm.1 46 0 (48 * f + j % 48) = nI (j / 48) then σm.1 48 0 j + NN else σm.1 48 i j)) 43 0 f (nI 1)) 44 0 f (nI 0)).1 43 0 u = if u = f then nI 1 else σm.1 43 0 u := by
            intro u
            rw [wI_r, if_neg (by omega), wI_r]
            by_cases e : u = f
            · rw [if_pos (by omega), if_pos e]
            · rw [if_neg (by omega), if_neg e, sK_r, if_neg (by omega), sK_r, if_neg (by omega)]
          refine ⟨P, W, F, G, C, N, D, B, w, l, gSc, gRef, gHrs, gLck, gWay, gFar, gDist, gShl, gCell, (GHome_c (fun _ => h9 _ _ (by omega) (by omega)) gHome), (GKeys_c (fun _ => h9 _ _ (by omega) (by omega)) gKeys), gLike, (GDuty_c (fun _ => h9 _ _ (by omega) (by omega)) gDuty), ?_, ?_, ?_, (GCost_c (fun _ => h9 _ _ (by omega) (by omega)) gCost), ?_, gMeet, gTly, (GKnow_c (fun _ => h9 _ _ (by omega) (by omega)) gKnow), gFlt, gRow, ?_⟩
          · intro u hu
            have gu := gGone u hu
            rw [k43]
            by_cases e : u = f
            · subst e
              rw [if_pos rfl]
              exact ⟨by simp [sK_r, wI_r], Or.inr rfl⟩
            · rw [if_neg e]
              exact ⟨by simpa [sK_r, wI_r, e] using gu.1, gu.2⟩
          · intro u hu
            have gu := gBent u hu
            rw [h9 u 7 (by omega) (by omega), h9 u 8 (by omega) (by omega), h9 u 9 (by omega) (by omega)]
            have k44 : (wI (wI (sK (sK σm 46 (fun i j => if i = 0 ∧ 48 * f + N ≤ j ∧ j < 48 * f + 48 then NN else σm.1 46 i j)) 48 (fun i j => if i = 0 ∧ j < 576 ∧ N ≤ j % 48 ∧ σm.1 46 0 (48 * f + j % 48) = nI (j / 48) then σm.1 48 0 j + NN else σm.1 48 i j)) 43 0 f (nI 1)) 44 0 f (nI 0)).1 44 0 u = if u = f then nI 0 else σm.1 44 0 u := by
              rw [wI_r]
              by_cases e : u = f
              · rw [if_pos (by omega), if_pos e]
              · rw [if_neg (by omega), if_neg e, wI_r, if_neg (by omega), sK_r, if_neg (by omega), sK_r, if_neg (by omega)]
            rw [k44]
            by_cases e : u = f
            · subst e
              rw [if_pos rfl]
              exact ⟨by simp [sK_r, wI_r], Or.inl rfl⟩
            · rw [if_neg e]
              exact ⟨by simpa [sK_r, wI_r, e] using gu.1, gu.2⟩
          · intro u t hu ht
            rw [k46 u t hu ht, sK_r, if_pos rfl]
            by_cases e : u = f ∧ N ≤ t
            · rw [if_pos (by omega), if_pos e]
            · rw [if_neg (by omega), if_neg e]
              exact gPlan u t hu ht
          · intro j hj
            have e1 := gPlan f (j % 48) (by omega) (by omega)
            have e2 := gSeat j hj
            show (if 0 = 0 ∧ j < 576 ∧ N ≤ j % 48 ∧ σx.1 12 f (j % 48) = nI (j / 48) then σx.1 16 0 j + NN else σx.1 16 0 j) = (if 0 = 0 ∧ j < 576 ∧ N ≤ j % 48 ∧ σm.1 46 0 (48 * f + j % 48) = nI (j / 48) then σm.1 48 0 j + NN else σm.1 48 0 j)
            rw [e1, e2]
          · refine ⟨fun u t hu ht => ?_, fun u hu hB1 h43 => ?_⟩
            · rw [k46 u t hu ht, k43]
              have gu := gPln.1 u t hu ht
              by_cases e : u = f ∧ N ≤ t
              · rw [if_pos e]
                exact ⟨Or.inl rfl, fun _ => rfl⟩
              · rw [if_neg e]
                refine ⟨gu.1, fun h => ?_⟩
                by_cases e2 : u = f
                · omega
                · rw [if_neg e2] at h
                  exact gu.2 h
            · rw [k43] at h43
              by_cases e : u = f
              · rw [if_pos e] at h43
                exact absurd h43 (by decide)
              · rw [if_neg e] at h43
                have gu := gPln.2 u hu hB1 h43
                have ef : ∀ t, t < 48 → (wI (wI (sK (sK σm 46 (fun i j => if i = 0 ∧ 48 * f + N ≤ j ∧ j < 48 * f + 48 then NN else σm.1 46 i j)) 48 (fun i j => if i = 0 ∧ j < 576 ∧ N ≤ j % 48 ∧ σm.1 46 0 (48 * f + j % 48) = nI (j / 48) then σm.1 48 0 j + NN else σm.1 48 i j)) 43 0 f (nI 1)) 44 0 f (nI 0)).1 46 0 (48 * u + t) = σm.1 46 0 (48 * u + t) := by
                  intro t ht
                  rw [k46 u t (by omega) ht, if_neg (by omega)]
                exact PWell_c ef gu
    · refine Rn_map (fun K => x_X7_gone) ?_
      try simp (disch := omega) only [lit_0, lit_1, lit_2, lit_3, lit_4, lit_5, lit_6, lit_7, lit_8, lit_9, lit_10, lit_11, lit_12, lit_17, lit_20, lit_30, lit_31, lit_32, lit_47, lit_48, lit_60, lit_99, lit_100, lit_144, lit_200, lit_240, lit_300, lit_576, lit_960, lit_1008, lit_1000000, lit_100000000, true_implies, not_true_eq_false, false_implies, not_false_eq_true, true_and, and_true, neg_1, nI_add, pk_mul, nI_clamp, vp_nI, tI_lt, tI_le, tI_eq, tI_nI, tI_NN, tI_pred, xP, xW, xF, xG, xC, xN, xD, xB, egx, pk_sub, tI_sub, Nat.add_sub_cancel_left, Nat.add_sub_cancel, wI_same]
      repeat' (first | refine Rn_and (by first | omega | assumption) ?_ | refine Rn_pos (by first | omega | assumption) ?_ | refine Rn_neg (by first | omega | assumption) ?_ | refine Rn_pos' (by first | omega | assumption) ?_ | refine Rn_neg' (by first | omega | assumption) ?_ | refine Rn_if (fun _ => ?_) (fun _ => ?_) | refine Rn_if' (fun _ => ?_) (fun _ => ?_) | fail)
      all_goals (refine Rn_ret ?_; refine Rn_map (fun K => x_X8_gone) ?_)
      all_goals try simp (disch := omega) only [lit_0, lit_1, lit_2, lit_3, lit_4, lit_5, lit_6, lit_7, lit_8, lit_9, lit_10, lit_11, lit_12, lit_17, lit_20, lit_30, lit_31, lit_32, lit_47, lit_48, lit_60, lit_99, lit_100, lit_144, lit_200, lit_240, lit_300, lit_576, lit_960, lit_1008, lit_1000000, lit_100000000, true_implies, not_true_eq_false, false_implies, not_false_eq_true, true_and, and_true, neg_1, nI_add, pk_mul, nI_clamp, vp_nI, tI_lt, tI_le, tI_eq, tI_nI, tI_NN, tI_pred, mP, mW, mF, mG, mC, mN, mD, mB, eg, pk_sub, tI_sub, Nat.add_sub_cancel_left, Nat.add_sub_cancel, wI_same]
      all_goals repeat' (first | refine Rn_and (by first | omega | assumption) ?_ | refine Rn_pos (by first | omega | assumption) ?_ | refine Rn_neg (by first | omega | assumption) ?_ | refine Rn_pos' (by first | omega | assumption) ?_ | refine Rn_neg' (by first | omega | assumption) ?_ | refine Rn_if (fun _ => ?_) (fun _ => ?_) | refine Rn_if' (fun _ => ?_) (fun _ => ?_) | fail)
      all_goals first
        | exact Rn_ret (Agr rfl R0)
        | exact Rn_ret (Agr rfl (Rel_ref R0 1)) | exact Rn_ret (Agr rfl (Rel_ref R0 2)) | exact Rn_ret (Agr rfl (Rel_ref R0 3)) | exact Rn_ret (Agr rfl (Rel_ref R0 4)) | exact Rn_ret (Agr rfl (Rel_ref R0 5)) | exact Rn_ret (Agr rfl (Rel_ref R0 6)) | exact Rn_ret (Agr rfl (Rel_ref R0 7))
        | (exfalso; omega)

theorem R_happen {σx σm : Mem} {dx dm : Nat} {p0 : Int32} (R : Rel κ σx σm) : Rn (fun K => CalI IX (dx + 2) S_X7_happen [ar 0 0, ai p0] σx K) (fun r sx => Rn (fun K => CalI IM (dm + 3) S_X8_happen [ar 30 0, ai p0] σm K) (fun r' sm => Agree κ r r' sx sm)) := by
  have R0 := R
  obtain ⟨P, W, F, G, C, N, D, B, w, l, gSc, gRef, gHrs, gLck, gWay, gFar, gDist, gShl, gCell, gHome, gKeys, gLike, gDuty, gGone, gBent, gPlan, gCost, gSeat, gMeet, gTly, gKnow, gFlt, gRow, gPln⟩ := R
  have hSc0 := gSc
  obtain ⟨⟨xP, mP, hP⟩, ⟨xW, mW, hW⟩, ⟨xF, mF, hF⟩, ⟨xG, mG, hG⟩, ⟨xC, mC, hC⟩, ⟨xN, mN, hN⟩, ⟨xD, mD, hD⟩, ⟨xB, mB, hB⟩, hpl, hb0⟩ := hSc0
  rcases ix_cases p0 P (by omega) with hp | hp | ⟨p, hp, rfl⟩
  · refine Rn_map (fun K => x_X7_happen) ?_
    try simp (disch := omega) only [lit_0, lit_1, lit_2, lit_3, lit_4, lit_5, lit_6, lit_7, lit_8, lit_9, lit_10, lit_11, lit_12, lit_17, lit_20, lit_30, lit_31, lit_32, lit_47, lit_48, lit_60, lit_99, lit_100, lit_144, lit_200, lit_240, lit_300, lit_576, lit_960, lit_1008, lit_1000000, lit_100000000, true_implies, not_true_eq_false, false_implies, not_false_eq_true, true_and, and_true, neg_1, nI_add, pk_mul, nI_clamp, vp_nI, tI_lt, tI_le, tI_eq, tI_nI, tI_NN, tI_pred, xP, xW, xF, xG, xC, xN, xD, xB, pk_sub, tI_sub, Nat.add_sub_cancel_left, Nat.add_sub_cancel, wI_same]
    repeat' (first | refine Rn_and (by first | omega | assumption) ?_ | refine Rn_pos (by first | omega | assumption) ?_ | refine Rn_neg (by first | omega | assumption) ?_ | refine Rn_pos' (by first | omega | assumption) ?_ | refine Rn_neg' (by first | omega | assumption) ?_ | refine Rn_if (fun _ => ?_) (fun _ => ?_) | refine Rn_if' (fun _ => ?_) (fun _ => ?_) | fail)
    all_goals (refine Rn_ret ?_; refine Rn_map (fun K => x_X8_happen) ?_)
    all_goals try simp (disch := omega) only [lit_0, lit_1, lit_2, lit_3, lit_4, lit_5, lit_6, lit_7, lit_8, lit_9, lit_10, lit_11, lit_12, lit_17, lit_20, lit_30, lit_31, lit_32, lit_47, lit_48, lit_60, lit_99, lit_100, lit_144, lit_200, lit_240, lit_300, lit_576, lit_960, lit_1008, lit_1000000, lit_100000000, true_implies, not_true_eq_false, false_implies, not_false_eq_true, true_and, and_true, neg_1, nI_add, pk_mul, nI_clamp, vp_nI, tI_lt, tI_le, tI_eq, tI_nI, tI_NN, tI_pred, mP, mW, mF, mG, mC, mN, mD, mB, pk_sub, tI_sub, Nat.add_sub_cancel_left, Nat.add_sub_cancel, wI_same]
    all_goals repeat' (first | refine Rn_and (by first | omega | assumption) ?_ | refine Rn_pos (by first | omega | assumption) ?_ | refine Rn_neg (by first | omega | assumption) ?_ | refine Rn_pos' (by first | omega | assumption) ?_ | refine Rn_neg' (by first | omega | assumption) ?_ | refine Rn_if (fun _ => ?_) (fun _ => ?_) | refine Rn_if' (fun _ => ?_) (fun _ => ?_) | fail)
    all_goals first
      | exact Rn_ret (Agr rfl R0)
      | exact Rn_ret (Agr rfl (Rel_ref R0 1)) | exact Rn_ret (Agr rfl (Rel_ref R0 2)) | exact Rn_ret (Agr rfl (Rel_ref R0 3)) | exact Rn_ret (Agr rfl (Rel_ref R0 4)) | exact Rn_ret (Agr rfl (Rel_ref R0 5)) | exact Rn_ret (Agr rfl (Rel_ref R0 6)) | exact Rn_ret (Agr rfl (Rel_ref R0 7))
      | (exfalso; omega)
  · refine Rn_map (fun K => x_X7_happen) ?_
    try simp (disch := omega) only [lit_0, lit_1, lit_2, lit_3, lit_4, lit_5, lit_6, lit_7, lit_8, lit_9, lit_10, lit_11, lit_12, lit_17, lit_20, lit_30, lit_31, lit_32, lit_47, lit_48, lit_60, lit_99, lit_100, lit_144, lit_200, lit_240, lit_300, lit_576, lit_960, lit_1008, lit_1000000, lit_100000000, true_implies, not_true_eq_false, false_implies, not_false_eq_true, true_and, and_true, neg_1, nI_add, pk_mul, nI_clamp, vp_nI, tI_lt, tI_le, tI_eq, tI_nI, tI_NN, tI_pred, xP, xW, xF, xG, xC, xN, xD, xB, pk_sub, tI_sub, Nat.add_sub_cancel_left, Nat.add_sub_cancel, wI_same]
    repeat' (first | refine Rn_and (by first | omega | assumption) ?_ | refine Rn_pos (by first | omega | assumption) ?_ | refine Rn_neg (by first | omega | assumption) ?_ | refine Rn_pos' (by first | omega | assumption) ?_ | refine Rn_neg' (by first | omega | assumption) ?_ | refine Rn_if (fun _ => ?_) (fun _ => ?_) | refine Rn_if' (fun _ => ?_) (fun _ => ?_) | fail)
    all_goals (refine Rn_ret ?_; refine Rn_map (fun K => x_X8_happen) ?_)
    all_goals try simp (disch := omega) only [lit_0, lit_1, lit_2, lit_3, lit_4, lit_5, lit_6, lit_7, lit_8, lit_9, lit_10, lit_11, lit_12, lit_17, lit_20, lit_30, lit_31, lit_32, lit_47, lit_48, lit_60, lit_99, lit_100, lit_144, lit_200, lit_240, lit_300, lit_576, lit_960, lit_1008, lit_1000000, lit_100000000, true_implies, not_true_eq_false, false_implies, not_false_eq_true, true_and, and_true, neg_1, nI_add, pk_mul, nI_clamp, vp_nI, tI_lt, tI_le, tI_eq, tI_nI, tI_NN, tI_pred, mP, mW, mF, mG, mC, mN, mD, mB, pk_sub, tI_sub, Nat.add_sub_cancel_left, Nat.add_sub_cancel, wI_same]
    all_goals repeat' (first | refine Rn_and (by first | omega | assumption) ?_ | refine Rn_pos (by first | omega | assumption) ?_ | refine Rn_neg (by first | omega | assumption) ?_ | refine Rn_pos' (by first | omega | assumption) ?_ | refine Rn_neg' (by first | omega | assumption) ?_ | refine Rn_if (fun _ => ?_) (fun _ => ?_) | refine Rn_if' (fun _ => ?_) (fun _ => ?_) | fail)
    all_goals first
      | exact Rn_ret (Agr rfl R0)
      | exact Rn_ret (Agr rfl (Rel_ref R0 1)) | exact Rn_ret (Agr rfl (Rel_ref R0 2)) | exact Rn_ret (Agr rfl (Rel_ref R0 3)) | exact Rn_ret (Agr rfl (Rel_ref R0 4)) | exact Rn_ret (Agr rfl (Rel_ref R0 5)) | exact Rn_ret (Agr rfl (Rel_ref R0 6)) | exact Rn_ret (Agr rfl (Rel_ref R0 7))
      | (exfalso; omega)
  · by_cases hs : B ≠ 0 ∧ C < 12
    · have hk : ∀ u, u < 20 → bt (σx.1 9 u 11) C = false := by
        intro u hu
        cases hb : bt (σx.1 9 u 11) C with
        | false => rfl
        | true => exact absurd ((gKnow u C hu hs.2).1 hb).1 (by omega)
      refine Rn_map (fun K => x_X7_happen) ?_
      simp (disch := omega) only [lit_0, lit_1, lit_2, lit_3, lit_4, lit_5, lit_6, lit_7, lit_8, lit_9, lit_10, lit_11, lit_12, lit_17, lit_20, lit_30, lit_31, lit_32, lit_47, lit_48, lit_60, lit_99, lit_100, lit_144, lit_200, lit_240, lit_300, lit_576, lit_960, lit_1008, lit_1000000, lit_100000000, true_implies, not_true_eq_false, false_implies, not_false_eq_true, true_and, and_true, neg_1, nI_add, pk_mul, nI_clamp, vp_nI, tI_lt, tI_le, tI_eq, tI_nI, tI_NN, tI_pred, xP, xW, xF, xG, xC, xN, xD, xB]
      repeat' (first | refine Rn_and (by first | omega | assumption) ?_ | refine Rn_pos (by first | omega | assumption) ?_ | refine Rn_neg (by first | omega | assumption) ?_ | refine Rn_pos' (by first | omega | assumption) ?_ | refine Rn_neg' (by first | omega | assumption) ?_ | fail)
      refine f_X7_happen_64 (σ := wI σx 0 0 11 (nI (C + 1))) hF hs.2 hN hD (by omega) xF xN xD hk ?_
      refine Rn_map (fun K => x_X8_happen) ?_
      have eP : nI P - nI 1 = nI (P - 1) := pk_sub (by omega)
      simp (disch := omega) only [lit_0, lit_1, lit_2, lit_3, lit_4, lit_5, lit_6, lit_7, lit_8, lit_9, lit_10, lit_11, lit_12, lit_17, lit_20, lit_30, lit_31, lit_32, lit_47, lit_48, lit_60, lit_99, lit_100, lit_144, lit_200, lit_240, lit_300, lit_576, lit_960, lit_1008, lit_1000000, lit_100000000, true_implies, not_true_eq_false, false_implies, not_false_eq_true, true_and, and_true, neg_1, nI_add, pk_mul, nI_clamp, le_nI, lt_nI, eq_nI, vp_nI, nI_NN, NN_nI, NN_lt, NN_le, lt_NN, le_NN, mP, mW, mF, mG, mC, mN, mD, mB, eP]
      repeat' (first | refine Rn_and (by first | omega | assumption) ?_ | refine Rn_pos (by first | omega | assumption) ?_ | refine Rn_neg (by first | omega | assumption) ?_ | refine Rn_pos' (by first | omega | assumption) ?_ | refine Rn_neg' (by first | omega | assumption) ?_ | fail)
      refine f_X8_happen_46 hF hs.2 hN hD (by omega) mF mC mN mD (Agr rfl ?_)
      have h9 : ∀ u j, j ≠ 11 → (sK (sK (wI σx 0 0 11 (nI (C + 1))) 13 (fun u k => if u < F ∧ (σx.1 12 u N = nI p ∨ σx.1 12 u N = nI (100 + p)) ∧ k = C then nI (D * 48 + N) else σx.1 13 u k)) 9 (fun u j => if u < F ∧ (σx.1 12 u N = nI p ∨ σx.1 12 u N = nI (100 + p)) ∧ j = 11 then σx.1 9 u 11 ||| (nI 1 <<< (nI C &&& nI 31)) else σx.1 9 u j)).1 9 u j = σx.1 9 u j := by
        intro u j hj
        rw [sK_r, if_pos rfl, if_neg (by omega)]
      refine ⟨P, W, F, G, (C + 1), N, D, B, w, l, ?_, gRef, gHrs, gLck, gWay, gFar, gDist, gShl, gCell, (GHome_c (fun _ => h9 _ _ (by omega)) gHome), (GKeys_c (fun _ => h9 _ _ (by omega)) gKeys), gLike, (GDuty_c (fun _ => h9 _ _ (by omega)) gDuty), (GGone_c (fun _ => h9 _ _ (by omega)) gGone), (GBent_c (fun _ => h9 _ _ (by omega)) (fun _ => h9 _ _ (by omega)) (fun _ => h9 _ _ (by omega)) (fun _ => h9 _ _ (by omega)) gBent), gPlan, (GCost_c (fun _ => h9 _ _ (by omega)) gCost), gSeat, gMeet, gTly, ?_, gFlt, gRow, gPln⟩
      · refine ⟨⟨?_, ?_, ?_⟩, ⟨?_, ?_, ?_⟩, ⟨?_, ?_, ?_⟩, ⟨?_, ?_, ?_⟩, ⟨?_, ?_, ?_⟩, ⟨?_, ?_, ?_⟩, ⟨?_, ?_, ?_⟩, ⟨?_, ?_, ?_⟩, ?_, ?_⟩ <;> first | rfl | assumption | omega
      · intro u k hu hk'
        have e1 := gPlan u N hu hN
        obtain ⟨g1, g2⟩ := gKnow u k hu hk'
        have b0 := hk u hu
        show (bt (if u < F ∧ (σx.1 12 u N = nI p ∨ σx.1 12 u N = nI (100 + p)) ∧ 11 = 11 then σx.1 9 u 11 ||| (nI 1 <<< (nI C &&& nI 31)) else σx.1 9 u 11) k = true → k < C + 1 ∧ (if u < F ∧ (σx.1 12 u N = nI p ∨ σx.1 12 u N = nI (100 + p)) ∧ k = C then nI (D * 48 + N) else σx.1 13 u k) = (if 0 = 0 ∧ (12 * u + k) / 12 < F ∧ (σm.1 46 0 (48 * ((12 * u + k) / 12) + N) = nI p ∨ σm.1 46 0 (48 * ((12 * u + k) / 12) + N) = nI (100 + p)) ∧ (12 * u + k) % 12 = C then nI (D * 48 + N) else σm.1 54 0 (12 * u + k)) ∧ (if 0 = 0 ∧ (12 * u + k) / 12 < F ∧ (σm.1 46 0 (48 * ((12 * u + k) / 12) + N) = nI p ∨ σm.1 46 0 (48 * ((12 * u + k) / 12) + N) = nI (100 + p)) ∧ (12 * u + k) % 12 = C then nI (D * 48 + N) else σm.1 54 0 (12 * u + k)) ≠ NN) ∧ (bt (if u < F ∧ (σx.1 12 u N = nI p ∨ σx.1 12 u N = nI (100 + p)) ∧ 11 = 11 then σx.1 9 u 11 ||| (nI 1 <<< (nI C &&& nI 31)) else σx.1 9 u 11) k = false → (if 0 = 0 ∧ (12 * u + k) / 12 < F ∧ (σm.1 46 0 (48 * ((12 * u + k) / 12) + N) = nI p ∨ σm.1 46 0 (48 * ((12 * u + k) / 12) + N) = nI (100 + p)) ∧ (12 * u + k) % 12 = C then nI (D * 48 + N) else σm.1 54 0 (12 * u + k)) = NN)
        rw [show (12 * u + k) / 12 = u by omega, show (12 * u + k) % 12 = k by omega, ← e1]
        have hmo : nI (D * 48 + N) ≠ NN := by rw [ne_eq, nI_NN (by omega)]; exact not_false
        by_cases hc : u < F ∧ (σx.1 12 u N = nI p ∨ σx.1 12 u N = nI (100 + p))
        · simp only [hc.1, hc.2, true_and, and_true, ↓reduceIte]
          rw [b_or, bt_shl (by omega)]
          by_cases e : k = C
          · subst e
            simp only [↓reduceIte]
            exact ⟨fun _ => ⟨by omega, trivial, hmo⟩, fun h => by simp at h⟩
          · simp only [e, decide_false, Bool.or_false, ↓reduceIte]
            exact ⟨fun h => ⟨by have := (g1 h).1; omega, (g1 h).2⟩, g2⟩
        · have hn : ∀ Q : Prop, (u < F ∧ (σx.1 12 u N = nI p ∨ σx.1 12 u N = nI (100 + p)) ∧ Q) = False := fun Q => eq_false (fun z => hc ⟨z.1, z.2.1⟩)
          simp only [hn, and_false, ↓reduceIte]
          exact ⟨fun h => ⟨by have := (g1 h).1; omega, (g1 h).2⟩, g2⟩
    · rcases (by omega : B = 0 ∨ (B ≠ 0 ∧ C = 12)) with h | h
      all_goals (
        refine Rn_map (fun K => x_X7_happen) ?_
        try simp (disch := omega) only [lit_0, lit_1, lit_2, lit_3, lit_4, lit_5, lit_6, lit_7, lit_8, lit_9, lit_10, lit_11, lit_12, lit_17, lit_20, lit_30, lit_31, lit_32, lit_47, lit_48, lit_60, lit_99, lit_100, lit_144, lit_200, lit_240, lit_300, lit_576, lit_960, lit_1008, lit_1000000, lit_100000000, true_implies, not_true_eq_false, false_implies, not_false_eq_true, true_and, and_true, neg_1, nI_add, pk_mul, nI_clamp, vp_nI, tI_lt, tI_le, tI_eq, tI_nI, tI_NN, tI_pred, xP, xW, xF, xG, xC, xN, xD, xB, pk_sub, tI_sub, Nat.add_sub_cancel_left, Nat.add_sub_cancel, wI_same]
        repeat' (first | refine Rn_and (by first | omega | assumption) ?_ | refine Rn_pos (by first | omega | assumption) ?_ | refine Rn_neg (by first | omega | assumption) ?_ | refine Rn_pos' (by first | omega | assumption) ?_ | refine Rn_neg' (by first | omega | assumption) ?_ | refine Rn_if (fun _ => ?_) (fun _ => ?_) | refine Rn_if' (fun _ => ?_) (fun _ => ?_) | fail)
        all_goals (refine Rn_ret ?_; refine Rn_map (fun K => x_X8_happen) ?_)
        all_goals try simp (disch := omega) only [lit_0, lit_1, lit_2, lit_3, lit_4, lit_5, lit_6, lit_7, lit_8, lit_9, lit_10, lit_11, lit_12, lit_17, lit_20, lit_30, lit_31, lit_32, lit_47, lit_48, lit_60, lit_99, lit_100, lit_144, lit_200, lit_240, lit_300, lit_576, lit_960, lit_1008, lit_1000000, lit_100000000, true_implies, not_true_eq_false, false_implies, not_false_eq_true, true_and, and_true, neg_1, nI_add, pk_mul, nI_clamp, vp_nI, tI_lt, tI_le, tI_eq, tI_nI, tI_NN, tI_pred, mP, mW, mF, mG, mC, mN, mD, mB, pk_sub, tI_sub, Nat.add_sub_cancel_left, Nat.add_sub_cancel, wI_same]
        all_goals repeat' (first | refine Rn_and (by first | omega | assumption) ?_ | refine Rn_pos (by first | omega | assumption) ?_ | refine Rn_neg (by first | omega | assumption) ?_ | refine Rn_pos' (by first | omega | assumption) ?_ | refine Rn_neg' (by first | omega | assumption) ?_ | refine Rn_if (fun _ => ?_) (fun _ => ?_) | refine Rn_if' (fun _ => ?_) (fun _ => ?_) | fail)
        all_goals first
          | exact Rn_ret (Agr rfl R0)
          | exact Rn_ret (Agr rfl (Rel_ref R0 1)) | exact Rn_ret (Agr rfl (Rel_ref R0 2)) | exact Rn_ret (Agr rfl (Rel_ref R0 3)) | exact Rn_ret (Agr rfl (Rel_ref R0 4)) | exact Rn_ret (Agr rfl (Rel_ref R0 5)) | exact Rn_ret (Agr rfl (Rel_ref R0 6)) | exact Rn_ret (Agr rfl (Rel_ref R0 7))
          | (exfalso; omega))

