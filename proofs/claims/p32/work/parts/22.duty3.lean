variable {κ : Nat → Nat → Nat → Prop}
theorem f_X8_faultOf {d z i A : Nat} {c : Nat → Int32} {l : Nat → Nat → Nat} {σ : Mem} {P : Int32 → Mem → Prop} (hA : A ≤ 12) (hz : z < 8) (hi : 4 * i + 4 ≤ 60) (xA : σ.1 30 0 5 = nI A) (hc : ∀ k, k < 60 → Int64.toInt32 (σ.2 59 0 (60 * z + k)) = c k) (hl : ∀ a b, a < A → b < A → l a b ≤ 1000000 ∧ σ.1 37 0 (12 * a + b) = nI (l a b)) (ok : ∀ e, e < i → OKd c A e) (hP : ∀ v, v < 7 → dFv c A l i v → P (nI v) σ) : Rn (fun K => CalI IM (d + 3) S_X8_faultOf [ar 30 0, ai (nI z), ai (nI i)] σ K) P := by
  refine Rn_map (fun K => x_X8_faultOf) ?_
  simp (disch := omega) only [lit_0, lit_1, lit_2, lit_3, lit_4, lit_5, lit_6, lit_7, lit_8, lit_9, lit_10, lit_11, lit_12, lit_17, lit_20, lit_30, lit_31, lit_32, lit_47, lit_48, lit_60, lit_99, lit_100, lit_144, lit_200, lit_240, lit_300, lit_576, lit_960, lit_1008, lit_1000000, lit_100000000, true_implies, not_true_eq_false, false_implies, not_false_eq_true, true_and, and_true, neg_1, nI_add, pk_mul, nI_clamp, vp_nI, tI_lt, tI_le, tI_eq, tI_nI, tI_NN, tI_pred, xA, hc, tI_pred]
  by_cases c1 : dPl c A i
  · have c1' := c1
    unfold dPl at c1'
    by_cases c2 : dSp c i
    · have c2' := c2
      unfold dSp at c2'
      by_cases c3 : dWt c i
      · have c3' := c3
        unfold dWt at c3'
        repeat' (first | refine Rn_and (by first | omega | assumption) ?_ | refine Rn_pos (by first | omega | assumption) ?_ | refine Rn_neg (by first | omega | assumption) ?_ | refine Rn_pos' (by first | omega | assumption) ?_ | refine Rn_neg' (by first | omega | assumption) ?_ | fail)
        refine Rn_KQ ?_
        refine loopU (C := fun n (b : Int32 × Int32) Q => J IM M_X8_faultOf (d + 3) 85 [(0, ar 30 0), (1, ai (nI z)), (2, ai (nI i)), (3, ai (c (4 * i))), (4, ai (c (4 * i + 1))), (5, ai (c (4 * i + 2))), (6, ai b.1), (7, ai b.2), (8, ai (nI n))] [] σ Q) (Inv := fun n b => b.1 = ah c i n ∧ b.2 = bh c i n ∧ ¬ dMt c i n) (n := i) ?_ ?_ (by omega) ⟨rfl, rfl, by rintro ⟨e, he, _⟩; omega⟩ (b := (NN, NN))
        · rintro n ⟨v3, v4⟩ hn ⟨e3, e4, hm⟩ ih
          have g3 := ah_or c i n
          have g4 := bh_or c i n
          have e5 : ah c i (n + 1) = ahS c i n (ah c i n) := rfl
          have e6 : bh c i (n + 1) = bhS c i n (bh c i n) := rfl
          have hm1 : ¬ ((c (4 * n + 1)).toInt < (c (4 * i + 2)).toInt ∧ (c (4 * i + 1)).toInt < (c (4 * n + 2)).toInt) → ¬ dMt c i (n + 1) := by
            rintro h ⟨e, he, j1, j2⟩
            by_cases e1 : e = n
            · subst e1; exact h ⟨j1, j2⟩
            · exact hm ⟨e, by omega, j1, j2⟩
          rw [← e3] at g3 e5
          rw [← e4] at g4 e6
          dsimp only at e3 e4 g3 g4 e5 e6 ⊢
          rcases g3 with rfl | ⟨r3, hr3, rfl⟩ <;> rcases g4 with rfl | ⟨r4, hr4, rfl⟩
          all_goals (
            first | rw [ahS_N] at e5 | rw [ahS_n c i n (by omega)] at e5
            first | rw [bhS_N] at e6 | rw [bhS_n c i n (by omega)] at e6
            refine Rn_map (fun Q => x_X8_faultOf_85) ?_
            simp (disch := omega) only [lit_0, lit_1, lit_2, lit_3, lit_4, lit_5, lit_6, lit_7, lit_8, lit_9, lit_10, lit_11, lit_12, lit_17, lit_20, lit_30, lit_31, lit_32, lit_47, lit_48, lit_60, lit_99, lit_100, lit_144, lit_200, lit_240, lit_300, lit_576, lit_960, lit_1008, lit_1000000, lit_100000000, true_implies, not_true_eq_false, false_implies, not_false_eq_true, true_and, and_true, neg_1, nI_add, pk_mul, nI_clamp, vp_nI, tI_lt, tI_le, tI_eq, tI_nI, tI_NN, tI_pred, hc]
            repeat' (first | refine Rn_and (by first | omega | assumption) ?_ | refine Rn_pos (by first | omega | assumption) ?_ | refine Rn_neg (by first | omega | assumption) ?_ | refine Rn_pos' (by first | omega | assumption) ?_ | refine Rn_neg' (by first | omega | assumption) ?_ | refine Rn_if (fun _ => ?_) (fun _ => ?_) | refine Rn_if' (fun _ => ?_) (fun _ => ?_) | fail))
          all_goals first
            | (refine ih (_, _) ⟨?_, ?_, hm1 (by omega)⟩
               · rw [e5]; first | exact (if_pos (by omega)).symm | exact (if_neg (by omega)).symm
               · rw [e6]; first | exact (if_pos (by omega)).symm | exact (if_neg (by omega)).symm)
            | exact Rn_ret ⟨_, rfl, hP 5 (by omega) (Or.inr (Or.inr (Or.inr (Or.inl ⟨c1, c2, c3, ⟨n, hn, by omega, by omega⟩, rfl⟩))))⟩
            | (exfalso; omega)
        · rintro ⟨v3, v4⟩ ⟨e3, e4, hm⟩
          have g3 := ah_or c i i
          have g4 := bh_or c i i
          have hd : dRe c l i = ((v3 = NN ∨ dIn c l v3.toNatClampNeg i) ∧ (v4 = NN ∨ dIn c l i v4.toNatClampNeg)) := by
            dsimp only at e3 e4
            rw [dRe, ← e3, ← e4]
          have h1 : dRe c l i → P (nI 0) σ := fun h => hP 0 (by omega) (Or.inr (Or.inr (Or.inr (Or.inr (Or.inr ⟨c1, c2, c3, hm, h, rfl⟩)))))
          have h0 : ¬ dRe c l i → P (nI 6) σ := fun h => hP 6 (by omega) (Or.inr (Or.inr (Or.inr (Or.inr (Or.inl ⟨c1, c2, c3, hm, h, rfl⟩)))))
          rw [← e3] at g3
          rw [← e4] at g4
          dsimp only at g3 g4 ⊢
          obtain ⟨p, x, y, hp, hxy, hy, k1, k2, k3⟩ := OKd_of c1 c2
          refine Rn_map (fun Q => x_X8_faultOf_85) ?_
          rcases g3 with rfl | ⟨r3, hr3, rfl⟩ <;> rcases g4 with rfl | ⟨r4, hr4, rfl⟩
          · simp (disch := omega) only [lit_0, lit_1, lit_2, lit_3, lit_4, lit_5, lit_6, lit_7, lit_8, lit_9, lit_10, lit_11, lit_12, lit_17, lit_20, lit_30, lit_31, lit_32, lit_47, lit_48, lit_60, lit_99, lit_100, lit_144, lit_200, lit_240, lit_300, lit_576, lit_960, lit_1008, lit_1000000, lit_100000000, true_implies, not_true_eq_false, false_implies, not_false_eq_true, true_and, and_true, neg_1, nI_add, pk_mul, nI_clamp, vp_nI, tI_lt, tI_le, tI_eq, tI_nI, tI_NN, tI_pred]
            repeat' (first | refine Rn_and (by first | omega | assumption) ?_ | refine Rn_pos (by first | omega | assumption) ?_ | refine Rn_neg (by first | omega | assumption) ?_ | refine Rn_pos' (by first | omega | assumption) ?_ | refine Rn_neg' (by first | omega | assumption) ?_ | fail)
            exact Rn_ret ⟨_, rfl, h1 (by rw [hd]; exact ⟨Or.inl rfl, Or.inl rfl⟩)⟩
          · obtain ⟨p4, x4, y4, hp4, hxy4, hy4, j1, j2, j3⟩ := ok r4 (by omega)
            rw [nI_clamp (by omega), dIn_ok (by omega) (by omega) (by omega) (by omega) k1 j1 j2 k3, nI_NN (by omega)] at hd
            simp only [true_or, false_or, true_and, and_true] at hd
            obtain ⟨q1, q2⟩ := hl p p4 hp hp4
            simp (disch := omega) only [lit_0, lit_1, lit_2, lit_3, lit_4, lit_5, lit_6, lit_7, lit_8, lit_9, lit_10, lit_11, lit_12, lit_17, lit_20, lit_30, lit_31, lit_32, lit_47, lit_48, lit_60, lit_99, lit_100, lit_144, lit_200, lit_240, lit_300, lit_576, lit_960, lit_1008, lit_1000000, lit_100000000, true_implies, not_true_eq_false, false_implies, not_false_eq_true, true_and, and_true, neg_1, nI_add, pk_mul, nI_clamp, vp_nI, tI_lt, tI_le, tI_eq, tI_nI, tI_NN, tI_pred, hc, k1, k2, k3, j1, j2, j3, q2, tI_sub]
            repeat' (first | refine Rn_and (by first | omega | assumption) ?_ | refine Rn_pos (by first | omega | assumption) ?_ | refine Rn_neg (by first | omega | assumption) ?_ | refine Rn_pos' (by first | omega | assumption) ?_ | refine Rn_neg' (by first | omega | assumption) ?_ | refine Rn_if (fun _ => ?_) (fun _ => ?_) | refine Rn_if' (fun _ => ?_) (fun _ => ?_) | fail)
            · exact Rn_ret ⟨_, rfl, h1 (by rw [hd]; omega)⟩
            · exact Rn_ret ⟨_, rfl, h0 (by rw [hd]; omega)⟩
          · obtain ⟨p3, x3, y3, hp3, hxy3, hy3, i1, i2, i3⟩ := ok r3 (by omega)
            rw [nI_clamp (by omega), dIn_ok (by omega) (by omega) (by omega) (by omega) i1 k1 k2 i3, nI_NN (by omega)] at hd
            simp only [true_or, false_or, true_and, and_true] at hd
            obtain ⟨q1, q2⟩ := hl p3 p hp3 hp
            simp (disch := omega) only [lit_0, lit_1, lit_2, lit_3, lit_4, lit_5, lit_6, lit_7, lit_8, lit_9, lit_10, lit_11, lit_12, lit_17, lit_20, lit_30, lit_31, lit_32, lit_47, lit_48, lit_60, lit_99, lit_100, lit_144, lit_200, lit_240, lit_300, lit_576, lit_960, lit_1008, lit_1000000, lit_100000000, true_implies, not_true_eq_false, false_implies, not_false_eq_true, true_and, and_true, neg_1, nI_add, pk_mul, nI_clamp, vp_nI, tI_lt, tI_le, tI_eq, tI_nI, tI_NN, tI_pred, hc, k1, k2, k3, i1, i2, i3, q2, tI_sub]
            repeat' (first | refine Rn_and (by first | omega | assumption) ?_ | refine Rn_pos (by first | omega | assumption) ?_ | refine Rn_neg (by first | omega | assumption) ?_ | refine Rn_pos' (by first | omega | assumption) ?_ | refine Rn_neg' (by first | omega | assumption) ?_ | refine Rn_if (fun _ => ?_) (fun _ => ?_) | refine Rn_if' (fun _ => ?_) (fun _ => ?_) | fail)
            · exact Rn_ret ⟨_, rfl, h1 (by rw [hd]; omega)⟩
            · exact Rn_ret ⟨_, rfl, h0 (by rw [hd]; omega)⟩
          · obtain ⟨p3, x3, y3, hp3, hxy3, hy3, i1, i2, i3⟩ := ok r3 (by omega)
            obtain ⟨p4, x4, y4, hp4, hxy4, hy4, j1, j2, j3⟩ := ok r4 (by omega)
            rw [nI_clamp (by omega), nI_clamp (by omega), dIn_ok (by omega) (by omega) (by omega) (by omega) i1 k1 k2 i3, dIn_ok (by omega) (by omega) (by omega) (by omega) k1 j1 j2 k3, nI_NN (by omega), nI_NN (by omega)] at hd
            simp only [true_or, false_or, true_and, and_true] at hd
            obtain ⟨q1, q2⟩ := hl p3 p hp3 hp
            obtain ⟨q3, q4⟩ := hl p p4 hp hp4
            simp (disch := omega) only [lit_0, lit_1, lit_2, lit_3, lit_4, lit_5, lit_6, lit_7, lit_8, lit_9, lit_10, lit_11, lit_12, lit_17, lit_20, lit_30, lit_31, lit_32, lit_47, lit_48, lit_60, lit_99, lit_100, lit_144, lit_200, lit_240, lit_300, lit_576, lit_960, lit_1008, lit_1000000, lit_100000000, true_implies, not_true_eq_false, false_implies, not_false_eq_true, true_and, and_true, neg_1, nI_add, pk_mul, nI_clamp, vp_nI, tI_lt, tI_le, tI_eq, tI_nI, tI_NN, tI_pred, hc, k1, k2, k3, i1, i2, i3, j1, j2, j3, q2, q4, tI_sub]
            repeat' (first | refine Rn_and (by first | omega | assumption) ?_ | refine Rn_pos (by first | omega | assumption) ?_ | refine Rn_neg (by first | omega | assumption) ?_ | refine Rn_pos' (by first | omega | assumption) ?_ | refine Rn_neg' (by first | omega | assumption) ?_ | refine Rn_if (fun _ => ?_) (fun _ => ?_) | refine Rn_if' (fun _ => ?_) (fun _ => ?_) | fail)
            all_goals first
              | exact Rn_ret ⟨_, rfl, h0 (by rw [hd]; omega)⟩
              | exact Rn_ret ⟨_, rfl, h1 (by rw [hd]; omega)⟩
      · have c3' := c3
        unfold dWt at c3'
        repeat' (first | refine Rn_and (by first | omega | assumption) ?_ | refine Rn_pos (by first | omega | assumption) ?_ | refine Rn_neg (by first | omega | assumption) ?_ | refine Rn_pos' (by first | omega | assumption) ?_ | refine Rn_neg' (by first | omega | assumption) ?_ | refine Rn_if (fun _ => ?_) (fun _ => ?_) | refine Rn_if' (fun _ => ?_) (fun _ => ?_) | fail)
        all_goals first
          | exact Rn_ret (hP 4 (by omega) (Or.inr (Or.inr (Or.inl ⟨c1, c2, c3, rfl⟩))))
          | (exfalso; omega)
    · have c2' := c2
      unfold dSp at c2'
      repeat' (first | refine Rn_and (by first | omega | assumption) ?_ | refine Rn_pos (by first | omega | assumption) ?_ | refine Rn_neg (by first | omega | assumption) ?_ | refine Rn_pos' (by first | omega | assumption) ?_ | refine Rn_neg' (by first | omega | assumption) ?_ | refine Rn_if (fun _ => ?_) (fun _ => ?_) | refine Rn_if' (fun _ => ?_) (fun _ => ?_) | fail)
      all_goals first
        | exact Rn_ret (hP 3 (by omega) (Or.inr (Or.inl ⟨c1, c2, rfl⟩)))
        | (exfalso; omega)
  · have c1' := c1
    unfold dPl at c1'
    repeat' (first | refine Rn_and (by first | omega | assumption) ?_ | refine Rn_pos (by first | omega | assumption) ?_ | refine Rn_neg (by first | omega | assumption) ?_ | refine Rn_pos' (by first | omega | assumption) ?_ | refine Rn_neg' (by first | omega | assumption) ?_ | refine Rn_if (fun _ => ?_) (fun _ => ?_) | refine Rn_if' (fun _ => ?_) (fun _ => ?_) | fail)
    all_goals first
      | exact Rn_ret (hP 2 (by omega) (Or.inl ⟨c1, rfl⟩))
      | (exfalso; omega)
theorem f_X8_findFault {d z n A : Nat} {c : Nat → Int32} {l : Nat → Nat → Nat} {σ : Mem} {P : Mem → Prop} (hA : A ≤ 12) (hz : z < 8) (hn : n ≤ 60) (xA : σ.1 30 0 5 = nI A) (hsz : σ.1 58 0 z = nI n) (hc : ∀ k, k < 60 → Int64.toInt32 (σ.2 59 0 (60 * z + k)) = c k) (hl : ∀ a b, a < A → b < A → l a b ≤ 1000000 ∧ σ.1 37 0 (12 * a + b) = nI (l a b)) (hP : ∀ a b, dRes c A l n a b → P (wI (wI σ 30 0 39 a) 30 0 40 b)) : Rv (fun K => CalV IM (d + 4) S_X8_findFault [ar 30 0, ai (nI z)] σ K) P := by
  refine Rv_map (fun K => x_X8_findFault) ?_
  have edv : nI n / nI 4 = nI (n / 4) := pk_div (by omega) (by omega) (by omega)
  have esb : nI n - nI (n / 4 * 4) = nI (n % 4) := by rw [pk_sub (by omega)]; congr 1; omega
  have fin : ∀ a b a' b', wI (wI (wI (wI σ 30 0 39 a') 30 0 40 b') 30 0 39 a) 30 0 40 b = wI (wI σ 30 0 39 a) 30 0 40 b := by
    intro a b a' b'
    refine Mem_ext (fun k i j => ?_) rfl
    simp only [wI_r]
    grind
  have r39 : ∀ (s : Mem) a b, (wI (wI s 30 0 39 a) 30 0 40 b).1 30 0 39 = a := by
    intro s a b
    rw [wI_r, if_neg (by omega), wI_r, if_pos ⟨rfl, rfl, rfl⟩]
  have early : (¬ (n % 4 = 0 ∧ n ≤ 48)) → Rv (fun K => J IM M_X8_findFault (d + 4) 44 [(0, ar 30 0), (1, ai (nI z)), (2, ai (nI 0))] [] (wI (wI (wI (wI σ 30 0 39 (nI 0)) 30 0 40 NN) 30 0 39 (nI 1)) 30 0 40 (nI 0)) (KV K)) P := by
    intro h
    refine Rv_KV (Rn_map (fun Q => x_X8_findFault_44) ?_)
    simp (disch := omega) only [lit_0, lit_1, lit_2, lit_3, lit_4, lit_5, lit_6, lit_7, lit_8, lit_9, lit_10, lit_11, lit_12, lit_17, lit_20, lit_30, lit_31, lit_32, lit_47, lit_48, lit_60, lit_99, lit_100, lit_144, lit_200, lit_240, lit_300, lit_576, lit_960, lit_1008, lit_1000000, lit_100000000, true_implies, not_true_eq_false, false_implies, not_false_eq_true, true_and, and_true, neg_1, nI_add, pk_mul, nI_clamp, le_nI, lt_nI, eq_nI, vp_nI, nI_NN, NN_nI, NN_lt, NN_le, lt_NN, le_NN, r39]
    repeat' (first | refine Rn_and (by first | omega | assumption) ?_ | refine Rn_pos (by first | omega | assumption) ?_ | refine Rn_neg (by first | omega | assumption) ?_ | refine Rn_pos' (by first | omega | assumption) ?_ | refine Rn_neg' (by first | omega | assumption) ?_ | fail)
    refine Rn_ret ⟨rfl, ?_⟩
    rw [fin]
    exact hP _ _ (Or.inl ⟨h, rfl, rfl⟩)
  by_cases h4 : n % 4 = 0
  · by_cases h48 : n ≤ 48
    · simp (disch := omega) only [lit_0, lit_1, lit_2, lit_3, lit_4, lit_5, lit_6, lit_7, lit_8, lit_9, lit_10, lit_11, lit_12, lit_17, lit_20, lit_30, lit_31, lit_32, lit_47, lit_48, lit_60, lit_99, lit_100, lit_144, lit_200, lit_240, lit_300, lit_576, lit_960, lit_1008, lit_1000000, lit_100000000, true_implies, not_true_eq_false, false_implies, not_false_eq_true, true_and, and_true, neg_1, nI_add, pk_mul, nI_clamp, le_nI, lt_nI, eq_nI, vp_nI, nI_NN, NN_nI, NN_lt, NN_le, lt_NN, le_NN, hsz, edv, esb]
      repeat' (first | refine Rv_and (by first | omega | assumption) ?_ | refine Rv_pos (by first | omega | assumption) ?_ | refine Rv_neg (by first | omega | assumption) ?_ | refine Rv_pos' (by first | omega | assumption) ?_ | refine Rv_neg' (by first | omega | assumption) ?_ | fail)
      refine Rv_KV ?_
      refine loopU (C := fun i s Q => J IM M_X8_findFault (d + 4) 44 [(0, ar 30 0), (1, ai (nI z)), (2, ai (nI i))] [] s Q) (Inv := fun m s => s = wI (wI σ 30 0 39 (nI 0)) 30 0 40 NN ∧ ∀ i, i < m → dFv c A l i 0) (n := n / 4) ?_ ?_ (by omega) ⟨rfl, fun i hi => by omega⟩
      · rintro i s hi ⟨hs, hall⟩ ih
        have s0 : s.1 30 0 39 = nI 0 := by rw [hs]; exact r39 _ _ _
        have s1 : s.1 30 0 5 = nI A := by rw [hs]; exact xA
        have s2 : s.1 58 0 z = nI n := by rw [hs]; exact hsz
        have s3 : s.2 = σ.2 := by rw [hs]; rfl
        have s4 : ∀ j, s.1 37 0 j = σ.1 37 0 j := by intro j; rw [hs]; rfl
        have hc' : ∀ k, k < 60 → Int64.toInt32 (s.2 59 0 (60 * z + k)) = c k := by rw [s3]; exact hc
        refine Rn_map (fun Q => x_X8_findFault_44) ?_
        simp (disch := omega) only [lit_0, lit_1, lit_2, lit_3, lit_4, lit_5, lit_6, lit_7, lit_8, lit_9, lit_10, lit_11, lit_12, lit_17, lit_20, lit_30, lit_31, lit_32, lit_47, lit_48, lit_60, lit_99, lit_100, lit_144, lit_200, lit_240, lit_300, lit_576, lit_960, lit_1008, lit_1000000, lit_100000000, true_implies, not_true_eq_false, false_implies, not_false_eq_true, true_and, and_true, neg_1, nI_add, pk_mul, nI_clamp, le_nI, lt_nI, eq_nI, vp_nI, nI_NN, NN_nI, NN_lt, NN_le, lt_NN, le_NN, s0, s2, edv]
        repeat' (first | refine Rn_and (by first | omega | assumption) ?_ | refine Rn_pos (by first | omega | assumption) ?_ | refine Rn_neg (by first | omega | assumption) ?_ | refine Rn_pos' (by first | omega | assumption) ?_ | refine Rn_neg' (by first | omega | assumption) ?_ | fail)
        refine Rn_cI (f_X8_faultOf hA hz (by omega) s1 hc' (by intro a b ha hb; rw [s4]; exact hl a b ha hb) (fun e he => OKd_of (dFv_ok (hall e he)).1 (dFv_ok (hall e he)).2.1) (fun v hv7 hv => ?_))
        by_cases v0 : v = 0
        · subst v0
          simp (disch := omega) only [lit_0, lit_1, lit_2, lit_3, lit_4, lit_5, lit_6, lit_7, lit_8, lit_9, lit_10, lit_11, lit_12, lit_17, lit_20, lit_30, lit_31, lit_32, lit_47, lit_48, lit_60, lit_99, lit_100, lit_144, lit_200, lit_240, lit_300, lit_576, lit_960, lit_1008, lit_1000000, lit_100000000, true_implies, not_true_eq_false, false_implies, not_false_eq_true, true_and, and_true, neg_1, nI_add, pk_mul, nI_clamp, le_nI, lt_nI, eq_nI, vp_nI, nI_NN, NN_nI, NN_lt, NN_le, lt_NN, le_NN]
          repeat' (first | refine Rn_and (by first | omega | assumption) ?_ | refine Rn_pos (by first | omega | assumption) ?_ | refine Rn_neg (by first | omega | assumption) ?_ | refine Rn_pos' (by first | omega | assumption) ?_ | refine Rn_neg' (by first | omega | assumption) ?_ | fail)
          rw [hs, fin]
          refine ih _ ⟨rfl, fun j hj => ?_⟩
          by_cases e1 : j = i
          · rw [e1]; exact hv
          · exact hall j (by omega)
        · simp (disch := omega) only [lit_0, lit_1, lit_2, lit_3, lit_4, lit_5, lit_6, lit_7, lit_8, lit_9, lit_10, lit_11, lit_12, lit_17, lit_20, lit_30, lit_31, lit_32, lit_47, lit_48, lit_60, lit_99, lit_100, lit_144, lit_200, lit_240, lit_300, lit_576, lit_960, lit_1008, lit_1000000, lit_100000000, true_implies, not_true_eq_false, false_implies, not_false_eq_true, true_and, and_true, neg_1, nI_add, pk_mul, nI_clamp, le_nI, lt_nI, eq_nI, vp_nI, nI_NN, NN_nI, NN_lt, NN_le, lt_NN, le_NN]
          repeat' (first | refine Rn_and (by first | omega | assumption) ?_ | refine Rn_pos (by first | omega | assumption) ?_ | refine Rn_neg (by first | omega | assumption) ?_ | refine Rn_pos' (by first | omega | assumption) ?_ | refine Rn_neg' (by first | omega | assumption) ?_ | fail)
          refine Rn_map (fun Q => x_X8_findFault_44) ?_
          simp (disch := omega) only [lit_0, lit_1, lit_2, lit_3, lit_4, lit_5, lit_6, lit_7, lit_8, lit_9, lit_10, lit_11, lit_12, lit_17, lit_20, lit_30, lit_31, lit_32, lit_47, lit_48, lit_60, lit_99, lit_100, lit_144, lit_200, lit_240, lit_300, lit_576, lit_960, lit_1008, lit_1000000, lit_100000000, true_implies, not_true_eq_false, false_implies, not_false_eq_true, true_and, and_true, neg_1, nI_add, pk_mul, nI_clamp, le_nI, lt_nI, eq_nI, vp_nI, nI_NN, NN_nI, NN_lt, NN_le, lt_NN, le_NN, r39]
          repeat' (first | refine Rn_and (by first | omega | assumption) ?_ | refine Rn_pos (by first | omega | assumption) ?_ | refine Rn_neg (by first | omega | assumption) ?_ | refine Rn_pos' (by first | omega | assumption) ?_ | refine Rn_neg' (by first | omega | assumption) ?_ | fail)
          refine Rn_ret ⟨rfl, ?_⟩
          rw [hs, fin]
          exact hP _ _ (Or.inr ⟨h4, h48, Or.inr ⟨i, v, hi, v0, hv7, rfl, rfl, hv, hall⟩⟩)
      · rintro s ⟨hs, hall⟩
        have s0 : s.1 30 0 39 = nI 0 := by rw [hs]; exact r39 _ _ _
        have s2 : s.1 58 0 z = nI n := by rw [hs]; exact hsz
        refine Rn_map (fun Q => x_X8_findFault_44) ?_
        simp (disch := omega) only [lit_0, lit_1, lit_2, lit_3, lit_4, lit_5, lit_6, lit_7, lit_8, lit_9, lit_10, lit_11, lit_12, lit_17, lit_20, lit_30, lit_31, lit_32, lit_47, lit_48, lit_60, lit_99, lit_100, lit_144, lit_200, lit_240, lit_300, lit_576, lit_960, lit_1008, lit_1000000, lit_100000000, true_implies, not_true_eq_false, false_implies, not_false_eq_true, true_and, and_true, neg_1, nI_add, pk_mul, nI_clamp, le_nI, lt_nI, eq_nI, vp_nI, nI_NN, NN_nI, NN_lt, NN_le, lt_NN, le_NN, s0, s2, edv]
        repeat' (first | refine Rn_and (by first | omega | assumption) ?_ | refine Rn_pos (by first | omega | assumption) ?_ | refine Rn_neg (by first | omega | assumption) ?_ | refine Rn_pos' (by first | omega | assumption) ?_ | refine Rn_neg' (by first | omega | assumption) ?_ | fail)
        refine Rn_ret ⟨rfl, ?_⟩
        rw [hs]
        exact hP _ _ (Or.inr ⟨h4, h48, Or.inl ⟨rfl, rfl, hall⟩⟩)
    · simp (disch := omega) only [lit_0, lit_1, lit_2, lit_3, lit_4, lit_5, lit_6, lit_7, lit_8, lit_9, lit_10, lit_11, lit_12, lit_17, lit_20, lit_30, lit_31, lit_32, lit_47, lit_48, lit_60, lit_99, lit_100, lit_144, lit_200, lit_240, lit_300, lit_576, lit_960, lit_1008, lit_1000000, lit_100000000, true_implies, not_true_eq_false, false_implies, not_false_eq_true, true_and, and_true, neg_1, nI_add, pk_mul, nI_clamp, le_nI, lt_nI, eq_nI, vp_nI, nI_NN, NN_nI, NN_lt, NN_le, lt_NN, le_NN, hsz, edv, esb]
      repeat' (first | refine Rv_and (by first | omega | assumption) ?_ | refine Rv_pos (by first | omega | assumption) ?_ | refine Rv_neg (by first | omega | assumption) ?_ | refine Rv_pos' (by first | omega | assumption) ?_ | refine Rv_neg' (by first | omega | assumption) ?_ | fail)
      exact early (fun h => h48 h.2)
  · simp (disch := omega) only [lit_0, lit_1, lit_2, lit_3, lit_4, lit_5, lit_6, lit_7, lit_8, lit_9, lit_10, lit_11, lit_12, lit_17, lit_20, lit_30, lit_31, lit_32, lit_47, lit_48, lit_60, lit_99, lit_100, lit_144, lit_200, lit_240, lit_300, lit_576, lit_960, lit_1008, lit_1000000, lit_100000000, true_implies, not_true_eq_false, false_implies, not_false_eq_true, true_and, and_true, neg_1, nI_add, pk_mul, nI_clamp, le_nI, lt_nI, eq_nI, vp_nI, nI_NN, NN_nI, NN_lt, NN_le, lt_NN, le_NN, hsz, edv, esb]
    repeat' (first | refine Rv_and (by first | omega | assumption) ?_ | refine Rv_pos (by first | omega | assumption) ?_ | refine Rv_neg (by first | omega | assumption) ?_ | refine Rv_pos' (by first | omega | assumption) ?_ | refine Rv_neg' (by first | omega | assumption) ?_ | fail)
    exact early (fun h => h4 h.1)

