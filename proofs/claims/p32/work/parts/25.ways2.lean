variable {κ : Nat → Nat → Nat → Prop}
def enc (n : Nat) : Int32 := if n = 1000000 then NN else nI n
theorem enc_f {n : Nat} (h : n ≤ 5000) : enc n = nI n := if_neg (by omega)
theorem enc_F : enc 1000000 = NN := rfl
theorem wI_id {σ : Mem} {k i j : Nat} {v : Int32} (h : σ.1 k i j = v) : wI σ k i j v = σ := by
  refine Mem_ext (fun k' i' j' => ?_) rfl
  rw [wI_r]
  split
  · rename_i hh
    obtain ⟨e1, e2, e3⟩ := hh
    rw [e1, e2, e3, h]
  · rfl
theorem f_X6_apart {d a b : Nat} {σ : Mem} {P : Int32 → Mem → Prop} (ha : a < 12) (hb : b < 12) (hP : P (σ.1 6 0 (a * 12 + b)) σ) : Rn (fun K => CalI IX (d + 1) S_X6_apart [ar 1 0, ai (nI a), ai (nI b)] σ K) P := by
  refine Rn_map (fun K => x_X6_apart) ?_
  simp (disch := omega) only [lit_0, lit_1, lit_2, lit_3, lit_4, lit_5, lit_6, lit_7, lit_8, lit_9, lit_10, lit_11, lit_12, lit_17, lit_20, lit_30, lit_31, lit_32, lit_47, lit_48, lit_60, lit_99, lit_100, lit_144, lit_200, lit_240, lit_300, lit_576, lit_960, lit_1008, lit_1000000, lit_100000000, true_implies, not_true_eq_false, false_implies, not_false_eq_true, true_and, and_true, neg_1, nI_add, pk_mul, nI_clamp, le_nI, lt_nI, eq_nI, vp_nI, nI_NN, NN_nI, NN_lt, NN_le, lt_NN, le_NN]
  repeat' (first | refine Rn_and (by first | omega | assumption) ?_ | refine Rn_pos (by first | omega | assumption) ?_ | refine Rn_neg (by first | omega | assumption) ?_ | refine Rn_pos' (by first | omega | assumption) ?_ | refine Rn_neg' (by first | omega | assumption) ?_ | fail)
  exact Rn_ret hP
theorem f_X6_shorten {d p q x y z t : Nat} {σ : Mem} {P : Mem → Prop} (hp : p < 12) (hq : q < 12) (hx : x ≤ 5000 ∨ x = 1000000) (hy : y ≤ 5000 ∨ y = 1000000) (hz : z ≤ 5000 ∨ z = 1000000) (ht : t ≤ 9) (e : σ.1 6 0 (p * 12 + q) = enc z) (hP : P (wI σ 6 0 (p * 12 + q) (enc (if x + t + y < z then x + t + y else z)))) : Rv (fun K => CalV IX (d + 1) S_X6_shorten [ar 1 0, ai (nI p), ai (nI q), ai (enc x), ai (enc y), ai (nI t)] σ K) P := by
  refine Rv_map (fun K => x_X6_shorten) ?_
  have same : ¬ x + t + y < z → P σ := by
    intro h
    rw [if_neg h, wI_id e] at hP
    exact hP
  rcases hx with hx | hx
  · rcases hy with hy | hy
    · have wr : x + t + y < z → P (wI σ 6 0 (p * 12 + q) (nI (x + t + y))) := by
        intro h
        rw [if_pos h] at hP
        have : enc (x + t + y) = nI (x + t + y) := if_neg (by omega)
        rw [this] at hP
        exact hP
      rw [enc_f hx, enc_f hy]
      rcases hz with hz | hz
      · rw [enc_f hz] at e
        simp (disch := omega) only [lit_0, lit_1, lit_2, lit_3, lit_4, lit_5, lit_6, lit_7, lit_8, lit_9, lit_10, lit_11, lit_12, lit_17, lit_20, lit_30, lit_31, lit_32, lit_47, lit_48, lit_60, lit_99, lit_100, lit_144, lit_200, lit_240, lit_300, lit_576, lit_960, lit_1008, lit_1000000, lit_100000000, true_implies, not_true_eq_false, false_implies, not_false_eq_true, true_and, and_true, neg_1, nI_add, pk_mul, nI_clamp, le_nI, lt_nI, eq_nI, vp_nI, nI_NN, NN_nI, NN_lt, NN_le, lt_NN, le_NN, e]
        by_cases h : x + t + y < z
        · repeat' (first | refine Rv_and (by first | omega | assumption) ?_ | refine Rv_pos (by first | omega | assumption) ?_ | refine Rv_neg (by first | omega | assumption) ?_ | refine Rv_pos' (by first | omega | assumption) ?_ | refine Rv_neg' (by first | omega | assumption) ?_ | fail)
          exact Rv_ret (wr h)
        · repeat' (first | refine Rv_and (by first | omega | assumption) ?_ | refine Rv_pos (by first | omega | assumption) ?_ | refine Rv_neg (by first | omega | assumption) ?_ | refine Rv_pos' (by first | omega | assumption) ?_ | refine Rv_neg' (by first | omega | assumption) ?_ | fail)
          exact Rv_ret (same h)
      · subst hz
        rw [enc_F] at e
        simp (disch := omega) only [lit_0, lit_1, lit_2, lit_3, lit_4, lit_5, lit_6, lit_7, lit_8, lit_9, lit_10, lit_11, lit_12, lit_17, lit_20, lit_30, lit_31, lit_32, lit_47, lit_48, lit_60, lit_99, lit_100, lit_144, lit_200, lit_240, lit_300, lit_576, lit_960, lit_1008, lit_1000000, lit_100000000, true_implies, not_true_eq_false, false_implies, not_false_eq_true, true_and, and_true, neg_1, nI_add, pk_mul, nI_clamp, le_nI, lt_nI, eq_nI, vp_nI, nI_NN, NN_nI, NN_lt, NN_le, lt_NN, le_NN, e]
        repeat' (first | refine Rv_and (by first | omega | assumption) ?_ | refine Rv_pos (by first | omega | assumption) ?_ | refine Rv_neg (by first | omega | assumption) ?_ | refine Rv_pos' (by first | omega | assumption) ?_ | refine Rv_neg' (by first | omega | assumption) ?_ | fail)
        exact Rv_ret (wr (by omega))
    · subst hy
      rw [enc_f hx, enc_F]
      simp (disch := omega) only [lit_0, lit_1, lit_2, lit_3, lit_4, lit_5, lit_6, lit_7, lit_8, lit_9, lit_10, lit_11, lit_12, lit_17, lit_20, lit_30, lit_31, lit_32, lit_47, lit_48, lit_60, lit_99, lit_100, lit_144, lit_200, lit_240, lit_300, lit_576, lit_960, lit_1008, lit_1000000, lit_100000000, true_implies, not_true_eq_false, false_implies, not_false_eq_true, true_and, and_true, neg_1, nI_add, pk_mul, nI_clamp, le_nI, lt_nI, eq_nI, vp_nI, nI_NN, NN_nI, NN_lt, NN_le, lt_NN, le_NN]
      repeat' (first | refine Rv_and (by first | omega | assumption) ?_ | refine Rv_pos (by first | omega | assumption) ?_ | refine Rv_neg (by first | omega | assumption) ?_ | refine Rv_pos' (by first | omega | assumption) ?_ | refine Rv_neg' (by first | omega | assumption) ?_ | fail)
      exact Rv_ret (same (by omega))
  · subst hx
    rw [enc_F]
    simp (disch := omega) only [lit_0, lit_1, lit_2, lit_3, lit_4, lit_5, lit_6, lit_7, lit_8, lit_9, lit_10, lit_11, lit_12, lit_17, lit_20, lit_30, lit_31, lit_32, lit_47, lit_48, lit_60, lit_99, lit_100, lit_144, lit_200, lit_240, lit_300, lit_576, lit_960, lit_1008, lit_1000000, lit_100000000, true_implies, not_true_eq_false, false_implies, not_false_eq_true, true_and, and_true, neg_1, nI_add, pk_mul, nI_clamp, le_nI, lt_nI, eq_nI, vp_nI, nI_NN, NN_nI, NN_lt, NN_le, lt_NN, le_NN]
    exact Rv_ret (same (by omega))
def wM (σ : Mem) (A : Nat) (L : Nat → Nat → Nat) : Mem := sK σ 6 (fun i j => if i = 0 ∧ j < 144 ∧ j / 12 < A ∧ j % 12 < A then enc (L (j / 12) (j % 12)) else σ.1 6 i j)
theorem wM_r {σ : Mem} {A a b : Nat} {L : Nat → Nat → Nat} (hA : A ≤ 12) (ha : a < A) (hb : b < A) : (wM σ A L).1 6 0 (a * 12 + b) = enc (L a b) := by
  rw [wM, sK_r, if_pos rfl, if_pos (by omega), show (a * 12 + b) / 12 = a by omega, show (a * 12 + b) % 12 = b by omega]
theorem wM_o {σ : Mem} {A k i j : Nat} {L : Nat → Nat → Nat} (h : k ≠ 6) : (wM σ A L).1 k i j = σ.1 k i j := by
  rw [wM, sK_r, if_neg h]
theorem wM_w {σ : Mem} {A p q v : Nat} {L L' : Nat → Nat → Nat} (hA : A ≤ 12) (hp : p < A) (hq : q < A) (h : ∀ a b, a < A → b < A → L' a b = if a = p ∧ b = q then v else L a b) : wI (wM σ A L) 6 0 (p * 12 + q) (enc v) = wM σ A L' := by
  refine Mem_ext (fun k i j => ?_) rfl
  rw [wI_r]
  unfold wM
  simp only [sK_r]
  by_cases hk : k = 6
  · subst hk
    rw [if_pos rfl, if_pos rfl]
    by_cases hc : i = 0 ∧ j < 144 ∧ j / 12 < A ∧ j % 12 < A
    · rw [if_pos hc, if_pos hc, h _ _ hc.2.2.1 hc.2.2.2]
      by_cases hj : j = p * 12 + q
      · rw [if_pos ⟨rfl, hc.1, hj⟩, if_pos (by omega)]
      · rw [if_neg (by omega), if_neg (by omega)]
    · rw [if_neg (by omega), if_neg hc, if_neg hc]
  · rw [if_neg (by omega), if_neg hk, if_neg hk]
theorem f_X6_addWay_62 {d A a b t : Nat} {w l : Nat → Nat → Nat} {σ : Mem} {P : Mem → Prop} (hA : A ≤ 12) (ha : a < A) (hb : b < A) (ht : t ≤ 9) (hD : GDist w l) (hl : ∀ p q, p < 12 → q < 12 → l p q ≤ 108 ∨ l p q = 1000000) (xA : σ.1 1 0 5 = nI A) (e0 : wM σ A l = σ) (hP : P (wM σ A (lN' l a b t))) : Rv (fun K => J IX M_X6_addWay (d + 2) 62 [(0, ar 1 0), (1, ai (nI a)), (2, ai (nI b)), (3, ai (nI t)), (5, ai (nI 0))] [] σ (KV K)) P := by
  have hl' : ∀ p q, p < 12 → q < 12 → lN' l a b t p q ≤ 1000 ∨ lN' l a b t p q = 1000000 := by
    intro p q hp hq
    have h1 := hl p q hp hq
    have h2 := hl p a hp (by omega)
    have h3 := hl b q (by omega) hq
    have h4 := hl p b hp (by omega)
    have h5 := hl a q (by omega) hq
    unfold lN'
    omega
  have hle : ∀ p q, lN' l a b t p q ≤ l p q := by
    intro p q
    unfold lN'
    omega
  refine Rv_KV ?_
  refine loopU (C := fun i s Q => J IX M_X6_addWay (d + 2) 62 [(0, ar 1 0), (1, ai (nI a)), (2, ai (nI b)), (3, ai (nI t)), (5, ai (nI i))] [] s Q) (Inv := fun n s => s = wM σ A (fun u v => if u < n then lN' l a b t u v else l u v)) (n := A) ?_ ?_ (by omega) ?_
  · rintro p s hp hs ihp
    have s1 : s.1 1 0 5 = nI A := by rw [hs, wM_o (by omega)]; exact xA
    refine Rn_map (fun Q => x_X6_addWay_62) ?_
    simp (disch := omega) only [lit_0, lit_1, lit_2, lit_3, lit_4, lit_5, lit_6, lit_7, lit_8, lit_9, lit_10, lit_11, lit_12, lit_17, lit_20, lit_30, lit_31, lit_32, lit_47, lit_48, lit_60, lit_99, lit_100, lit_144, lit_200, lit_240, lit_300, lit_576, lit_960, lit_1008, lit_1000000, lit_100000000, true_implies, not_true_eq_false, false_implies, not_false_eq_true, true_and, and_true, neg_1, nI_add, pk_mul, nI_clamp, le_nI, lt_nI, eq_nI, vp_nI, nI_NN, NN_nI, NN_lt, NN_le, lt_NN, le_NN, s1]
    repeat' (first | refine Rn_and (by first | omega | assumption) ?_ | refine Rn_pos (by first | omega | assumption) ?_ | refine Rn_neg (by first | omega | assumption) ?_ | refine Rn_pos' (by first | omega | assumption) ?_ | refine Rn_neg' (by first | omega | assumption) ?_ | fail)
    refine loopU (C := fun i s Q => J IX M_X6_addWay (d + 2) 74 [(0, ar 1 0), (1, ai (nI a)), (2, ai (nI b)), (3, ai (nI t)), (5, ai (nI p)), (6, ai (nI i))] [] s Q) (Inv := fun n s => s = wM σ A (fun u v => if u < p ∨ (u = p ∧ v < n) then lN' l a b t u v else l u v)) (n := A) ?_ ?_ (by omega) ?_
    · rintro q s hq hs ihq
      have s1 : s.1 1 0 5 = nI A := by rw [hs, wM_o (by omega)]; exact xA
      obtain ⟨L, hL⟩ : ∃ L, L = (fun u v => if u < p ∨ (u = p ∧ v < q) then lN' l a b t u v else l u v) := ⟨_, rfl⟩
      rw [← hL] at hs
      have bnd : ∀ u v, u < 12 → v < 12 → (L u v ≤ 1000 ∨ L u v = 1000000) ∧ lN' l a b t u v ≤ L u v ∧ L u v ≤ l u v := by
        intro u v hu hv
        have h1 := hl u v hu hv
        have h2 := hl' u v hu hv
        have h3 := hle u v
        rw [hL]
        dsimp only
        split <;> omega
      have Lpq : L p q = l p q := by rw [hL]; exact if_neg (by omega)
      obtain ⟨z1, hz1⟩ : ∃ z1, z1 = (if L p a + t + L b q < L p q then L p a + t + L b q else L p q) := ⟨_, rfl⟩
      obtain ⟨L1, hL1⟩ : ∃ L1 : Nat → Nat → Nat, L1 = (fun u v => if u = p ∧ v = q then z1 else L u v) := ⟨_, rfl⟩
      have bpa := bnd p a (by omega) (by omega)
      have bbq := bnd b q (by omega) (by omega)
      have bpb := bnd p b (by omega) (by omega)
      have baq := bnd a q (by omega) (by omega)
      have bpq := bnd p q (by omega) (by omega)
      have cl := lN_closed (t := t) hD (by omega : a < 12) (by omega : b < 12) (by omega : p < 12) (by omega : q < 12)
      have z1b : (z1 ≤ 2100 ∨ z1 = 1000000) ∧ lN' l a b t p q ≤ z1 ∧ z1 ≤ l p q ∧ z1 ≤ l p a + t + l b q := by
        rw [hz1]
        split <;> omega
      have hl108 := hl p q (by omega) (by omega)
      have b1 : ∀ u v, (u = p ∧ v = b) ∨ (u = a ∧ v = q) → (L1 u v ≤ 5000 ∨ L1 u v = 1000000) ∧ lN' l a b t u v ≤ L1 u v ∧ L1 u v ≤ l u v := by
        intro u v huv
        have hu : u < 12 := by omega
        have hv : v < 12 := by omega
        have := bnd u v hu hv
        rw [hL1]
        dsimp only
        split
        · rename_i hh
          obtain ⟨e1, e2⟩ := hh
          subst e1
          subst e2
          omega
        · omega
      have c1 := b1 p b (Or.inl ⟨rfl, rfl⟩)
      have c2 := b1 a q (Or.inr ⟨rfl, rfl⟩)
      obtain ⟨z2, hz2⟩ : ∃ z2, z2 = (if L1 p b + t + L1 a q < z1 then L1 p b + t + L1 a q else z1) := ⟨_, rfl⟩
      have fin : z2 = lN' l a b t p q := by
        have hu : lN' l a b t p q = min (l p q) (min (l p a + t + l b q) (l p b + t + l a q)) := rfl
        rw [hz2]
        split <;> omega
      refine Rn_map (fun Q => r_X6_addWay_74) ?_
      simp (disch := omega) only [lit_0, lit_1, lit_2, lit_3, lit_4, lit_5, lit_6, lit_7, lit_8, lit_9, lit_10, lit_11, lit_12, lit_17, lit_20, lit_30, lit_31, lit_32, lit_47, lit_48, lit_60, lit_99, lit_100, lit_144, lit_200, lit_240, lit_300, lit_576, lit_960, lit_1008, lit_1000000, lit_100000000, true_implies, not_true_eq_false, false_implies, not_false_eq_true, true_and, and_true, neg_1, nI_add, pk_mul, nI_clamp, le_nI, lt_nI, eq_nI, vp_nI, nI_NN, NN_nI, NN_lt, NN_le, lt_NN, le_NN, s1]
      repeat' (first | refine Rn_and (by first | omega | assumption) ?_ | refine Rn_pos (by first | omega | assumption) ?_ | refine Rn_neg (by first | omega | assumption) ?_ | refine Rn_pos' (by first | omega | assumption) ?_ | refine Rn_neg' (by first | omega | assumption) ?_ | fail)
      have ra : ∀ u v, u < A → v < A → s.1 6 0 (u * 12 + v) = enc (L u v) := by
        intro u v hu hv
        rw [hs]
        exact wM_r hA hu hv
      refine Rn_cI (f_X6_apart (by omega) (by omega) ?_)
      rw [ra p a hp ha]
      refine Rn_cI (f_X6_apart (by omega) (by omega) ?_)
      rw [ra b q hb hq]
      refine Rn_cV ?_
      refine f_X6_shorten (x := L p a) (y := L b q) (z := L p q) (by omega) (by omega) (by omega) (by omega) (by omega) ht (ra p q hp hq) ?_
      rw [← hz1]
      have e1 : wI s 6 0 (p * 12 + q) (enc z1) = wM σ A L1 := by
        rw [hs]
        refine wM_w hA hp hq (fun u v hu hv => ?_)
        rw [hL1]
      rw [e1]
      have rb : ∀ u v, u < A → v < A → (wM σ A L1).1 6 0 (u * 12 + v) = enc (L1 u v) := fun u v hu hv => wM_r hA hu hv
      refine Rn_cI (f_X6_apart (by omega) (by omega) ?_)
      rw [rb p b hp hb]
      refine Rn_cI (f_X6_apart (by omega) (by omega) ?_)
      rw [rb a q ha hq]
      refine Rn_cV ?_
      have L1pq : L1 p q = z1 := by rw [hL1]; exact if_pos ⟨rfl, rfl⟩
      refine f_X6_shorten (x := L1 p b) (y := L1 a q) (z := z1) (by omega) (by omega) c1.1 c2.1 (by omega) ht (by rw [rb p q hp hq, L1pq]) ?_
      rw [← hz2, fin]
      refine ihq _ (wM_w hA hp hq (fun u v hu hv => ?_))
      rw [hL1, hL]
      dsimp only
      by_cases e : u = p ∧ v = q
      · rw [if_pos e, if_pos (by omega), e.1, e.2]
      · rw [if_neg e, if_neg e]
        by_cases e2 : u < p ∨ (u = p ∧ v < q)
        · rw [if_pos (by omega), if_pos e2]
        · rw [if_neg (by omega), if_neg e2]
    · rintro s hs
      have s1 : s.1 1 0 5 = nI A := by rw [hs, wM_o (by omega)]; exact xA
      refine Rn_map (fun Q => x_X6_addWay_74) ?_
      simp (disch := omega) only [lit_0, lit_1, lit_2, lit_3, lit_4, lit_5, lit_6, lit_7, lit_8, lit_9, lit_10, lit_11, lit_12, lit_17, lit_20, lit_30, lit_31, lit_32, lit_47, lit_48, lit_60, lit_99, lit_100, lit_144, lit_200, lit_240, lit_300, lit_576, lit_960, lit_1008, lit_1000000, lit_100000000, true_implies, not_true_eq_false, false_implies, not_false_eq_true, true_and, and_true, neg_1, nI_add, pk_mul, nI_clamp, le_nI, lt_nI, eq_nI, vp_nI, nI_NN, NN_nI, NN_lt, NN_le, lt_NN, le_NN, s1]
      repeat' (first | refine Rn_and (by first | omega | assumption) ?_ | refine Rn_pos (by first | omega | assumption) ?_ | refine Rn_neg (by first | omega | assumption) ?_ | refine Rn_pos' (by first | omega | assumption) ?_ | refine Rn_neg' (by first | omega | assumption) ?_ | fail)
      refine ihp _ ?_
      rw [hs]
      unfold wM
      congr 1
      funext i j
      by_cases hc : i = 0 ∧ j < 144 ∧ j / 12 < A ∧ j % 12 < A
      · rw [if_pos hc, if_pos hc]
        congr 1
        dsimp only
        by_cases e2 : j / 12 < p + 1
        · rw [if_pos (by omega), if_pos e2]
        · rw [if_neg (by omega), if_neg e2]
      · rw [if_neg hc, if_neg hc]
    · rw [hs]
      unfold wM
      congr 1
      funext i j
      by_cases hc : i = 0 ∧ j < 144 ∧ j / 12 < A ∧ j % 12 < A
      · rw [if_pos hc, if_pos hc]
        congr 1
        dsimp only
        by_cases e2 : j / 12 < p
        · rw [if_pos e2, if_pos (by omega)]
        · rw [if_neg e2, if_neg (by omega)]
      · rw [if_neg hc, if_neg hc]
  · rintro s hs
    have s1 : s.1 1 0 5 = nI A := by rw [hs, wM_o (by omega)]; exact xA
    refine Rn_map (fun Q => x_X6_addWay_62) ?_
    simp (disch := omega) only [lit_0, lit_1, lit_2, lit_3, lit_4, lit_5, lit_6, lit_7, lit_8, lit_9, lit_10, lit_11, lit_12, lit_17, lit_20, lit_30, lit_31, lit_32, lit_47, lit_48, lit_60, lit_99, lit_100, lit_144, lit_200, lit_240, lit_300, lit_576, lit_960, lit_1008, lit_1000000, lit_100000000, true_implies, not_true_eq_false, false_implies, not_false_eq_true, true_and, and_true, neg_1, nI_add, pk_mul, nI_clamp, le_nI, lt_nI, eq_nI, vp_nI, nI_NN, NN_nI, NN_lt, NN_le, lt_NN, le_NN, s1]
    repeat' (first | refine Rn_and (by first | omega | assumption) ?_ | refine Rn_pos (by first | omega | assumption) ?_ | refine Rn_neg (by first | omega | assumption) ?_ | refine Rn_pos' (by first | omega | assumption) ?_ | refine Rn_neg' (by first | omega | assumption) ?_ | fail)
    refine Rn_ret ⟨rfl, ?_⟩
    have e : s = wM σ A (lN' l a b t) := by
      rw [hs]
      unfold wM
      congr 1
      funext i j
      by_cases hc : i = 0 ∧ j < 144 ∧ j / 12 < A ∧ j % 12 < A
      · rw [if_pos hc, if_pos hc]
        congr 1
        exact if_pos hc.2.2.1
      · rw [if_neg hc, if_neg hc]
    rw [e]
    exact hP
  · refine e0.symm.trans ?_
    unfold wM
    congr 1

