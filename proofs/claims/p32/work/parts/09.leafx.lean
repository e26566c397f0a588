variable {κ : Nat → Nat → Nat → Prop}
theorem f_fill12 {d o : Nat} {v : Int32} {σ : Mem}  : Rv (fun K => CalV IX (d + 1) S_J7_fill_53178 [ar 12 o, ai v] σ K) (fun s => s = sK σ 12 (fun i j => if i = o ∧ j < 48 then v else σ.1 12 i j)) := by
  refine Rv_map (fun K => x_fill12) (Rv_KV ?_)
  try simp (disch := omega) only [lit_0, lit_1, lit_2, lit_3, lit_4, lit_5, lit_6, lit_7, lit_8, lit_9, lit_10, lit_11, lit_12, lit_17, lit_20, lit_30, lit_31, lit_32, lit_47, lit_48, lit_60, lit_99, lit_100, lit_144, lit_200, lit_240, lit_300, lit_576, lit_960, lit_1008, lit_1000000, lit_100000000, true_implies, not_true_eq_false, false_implies, not_false_eq_true, true_and, and_true, neg_1, nI_add, pk_mul, nI_clamp, le_nI, lt_nI, eq_nI, vp_nI, nI_NN, NN_nI, NN_lt, NN_le, lt_NN, le_NN]
  refine loopU (C := fun i s Q => J IX M_J7_fill_53178 (d + 1) 5 [(0, ar 12 o), (1, ai v), (2, ai (nI i)), (3, ai (nI 48))] [] s Q) (Inv := fun n s => (True) ∧ s = sK σ 12 (fun i j => if i = o ∧ j < n then v else σ.1 12 i j)) (n := 48) ?_ ?_ (by omega) ?_
  · rintro i s hi ⟨hl, hs⟩ ih
    refine Rn_map (fun Q => x_fill12_5) ?_
    simp (disch := omega) only [lit_0, lit_1, lit_2, lit_3, lit_4, lit_5, lit_6, lit_7, lit_8, lit_9, lit_10, lit_11, lit_12, lit_17, lit_20, lit_30, lit_31, lit_32, lit_47, lit_48, lit_60, lit_99, lit_100, lit_144, lit_200, lit_240, lit_300, lit_576, lit_960, lit_1008, lit_1000000, lit_100000000, true_implies, not_true_eq_false, false_implies, not_false_eq_true, true_and, and_true, neg_1, nI_add, pk_mul, nI_clamp, le_nI, lt_nI, eq_nI, vp_nI, nI_NN, NN_nI, NN_lt, NN_le, lt_NN, le_NN]
    repeat' (first | refine Rn_and (by first | omega | assumption) ?_ | refine Rn_pos (by first | omega | assumption) ?_ | refine Rn_neg (by first | omega | assumption) ?_ | refine Rn_pos' (by first | omega | assumption) ?_ | refine Rn_neg' (by first | omega | assumption) ?_ | fail)
    subst hs
    refine ih _ ⟨by first | trivial | omega, Mem_ext (fun k a b => ?_) rfl⟩
    (simp only [wI_r, sK_r]; grind)
  · rintro s ⟨hl, hs⟩
    refine Rn_map (fun Q => x_fill12_5) ?_
    simp (disch := omega) only [lit_0, lit_1, lit_2, lit_3, lit_4, lit_5, lit_6, lit_7, lit_8, lit_9, lit_10, lit_11, lit_12, lit_17, lit_20, lit_30, lit_31, lit_32, lit_47, lit_48, lit_60, lit_99, lit_100, lit_144, lit_200, lit_240, lit_300, lit_576, lit_960, lit_1008, lit_1000000, lit_100000000, true_implies, not_true_eq_false, false_implies, not_false_eq_true, true_and, and_true, neg_1, nI_add, pk_mul, nI_clamp, le_nI, lt_nI, eq_nI, vp_nI, nI_NN, NN_nI, NN_lt, NN_le, lt_NN, le_NN]
    repeat' (first | refine Rn_and (by first | omega | assumption) ?_ | refine Rn_pos (by first | omega | assumption) ?_ | refine Rn_neg (by first | omega | assumption) ?_ | refine Rn_pos' (by first | omega | assumption) ?_ | refine Rn_neg' (by first | omega | assumption) ?_ | fail)
    exact Rn_ret ⟨rfl, hs⟩
  · refine ⟨by first | trivial | omega, Mem_ext (fun k a b => ?_) rfl⟩
    simp only [wI_r, sK_r]
    grind
theorem f_fill16 {d : Nat} {v : Int32} {σ : Mem}  : Rv (fun K => CalV IX (d + 1) S_J7_fill_53178 [ar 16 0, ai v] σ K) (fun s => s = sK σ 16 (fun i j => if i = 0 ∧ j < 576 then v else σ.1 16 i j)) := by
  refine Rv_map (fun K => x_fill16) (Rv_KV ?_)
  try simp (disch := omega) only [lit_0, lit_1, lit_2, lit_3, lit_4, lit_5, lit_6, lit_7, lit_8, lit_9, lit_10, lit_11, lit_12, lit_17, lit_20, lit_30, lit_31, lit_32, lit_47, lit_48, lit_60, lit_99, lit_100, lit_144, lit_200, lit_240, lit_300, lit_576, lit_960, lit_1008, lit_1000000, lit_100000000, true_implies, not_true_eq_false, false_implies, not_false_eq_true, true_and, and_true, neg_1, nI_add, pk_mul, nI_clamp, le_nI, lt_nI, eq_nI, vp_nI, nI_NN, NN_nI, NN_lt, NN_le, lt_NN, le_NN]
  refine loopU (C := fun i s Q => J IX M_J7_fill_53178 (d + 1) 5 [(0, ar 16 0), (1, ai v), (2, ai (nI i)), (3, ai (nI 576))] [] s Q) (Inv := fun n s => (True) ∧ s = sK σ 16 (fun i j => if i = 0 ∧ j < n then v else σ.1 16 i j)) (n := 576) ?_ ?_ (by omega) ?_
  · rintro i s hi ⟨hl, hs⟩ ih
    refine Rn_map (fun Q => x_fill16_5) ?_
    simp (disch := omega) only [lit_0, lit_1, lit_2, lit_3, lit_4, lit_5, lit_6, lit_7, lit_8, lit_9, lit_10, lit_11, lit_12, lit_17, lit_20, lit_30, lit_31, lit_32, lit_47, lit_48, lit_60, lit_99, lit_100, lit_144, lit_200, lit_240, lit_300, lit_576, lit_960, lit_1008, lit_1000000, lit_100000000, true_implies, not_true_eq_false, false_implies, not_false_eq_true, true_and, and_true, neg_1, nI_add, pk_mul, nI_clamp, le_nI, lt_nI, eq_nI, vp_nI, nI_NN, NN_nI, NN_lt, NN_le, lt_NN, le_NN]
    repeat' (first | refine Rn_and (by first | omega | assumption) ?_ | refine Rn_pos (by first | omega | assumption) ?_ | refine Rn_neg (by first | omega | assumption) ?_ | refine Rn_pos' (by first | omega | assumption) ?_ | refine Rn_neg' (by first | omega | assumption) ?_ | fail)
    subst hs
    refine ih _ ⟨by first | trivial | omega, Mem_ext (fun k a b => ?_) rfl⟩
    (simp only [wI_r, sK_r]; grind)
  · rintro s ⟨hl, hs⟩
    refine Rn_map (fun Q => x_fill16_5) ?_
    simp (disch := omega) only [lit_0, lit_1, lit_2, lit_3, lit_4, lit_5, lit_6, lit_7, lit_8, lit_9, lit_10, lit_11, lit_12, lit_17, lit_20, lit_30, lit_31, lit_32, lit_47, lit_48, lit_60, lit_99, lit_100, lit_144, lit_200, lit_240, lit_300, lit_576, lit_960, lit_1008, lit_1000000, lit_100000000, true_implies, not_true_eq_false, false_implies, not_false_eq_true, true_and, and_true, neg_1, nI_add, pk_mul, nI_clamp, le_nI, lt_nI, eq_nI, vp_nI, nI_NN, NN_nI, NN_lt, NN_le, lt_NN, le_NN]
    repeat' (first | refine Rn_and (by first | omega | assumption) ?_ | refine Rn_pos (by first | omega | assumption) ?_ | refine Rn_neg (by first | omega | assumption) ?_ | refine Rn_pos' (by first | omega | assumption) ?_ | refine Rn_neg' (by first | omega | assumption) ?_ | fail)
    exact Rn_ret ⟨rfl, hs⟩
  · refine ⟨by first | trivial | omega, Mem_ext (fun k a b => ?_) rfl⟩
    simp only [wI_r, sK_r]
    grind
theorem f_fill18 {d : Nat} {v : Int32} {σ : Mem}  : Rv (fun K => CalV IX (d + 1) S_J7_fill_53178 [ar 18 0, ai v] σ K) (fun s => s = sK σ 18 (fun i j => if i = 0 ∧ j < 48 then v else σ.1 18 i j)) := by
  refine Rv_map (fun K => x_fill18) (Rv_KV ?_)
  try simp (disch := omega) only [lit_0, lit_1, lit_2, lit_3, lit_4, lit_5, lit_6, lit_7, lit_8, lit_9, lit_10, lit_11, lit_12, lit_17, lit_20, lit_30, lit_31, lit_32, lit_47, lit_48, lit_60, lit_99, lit_100, lit_144, lit_200, lit_240, lit_300, lit_576, lit_960, lit_1008, lit_1000000, lit_100000000, true_implies, not_true_eq_false, false_implies, not_false_eq_true, true_and, and_true, neg_1, nI_add, pk_mul, nI_clamp, le_nI, lt_nI, eq_nI, vp_nI, nI_NN, NN_nI, NN_lt, NN_le, lt_NN, le_NN]
  refine loopU (C := fun i s Q => J IX M_J7_fill_53178 (d + 1) 5 [(0, ar 18 0), (1, ai v), (2, ai (nI i)), (3, ai (nI 48))] [] s Q) (Inv := fun n s => (True) ∧ s = sK σ 18 (fun i j => if i = 0 ∧ j < n then v else σ.1 18 i j)) (n := 48) ?_ ?_ (by omega) ?_
  · rintro i s hi ⟨hl, hs⟩ ih
    refine Rn_map (fun Q => x_fill18_5) ?_
    simp (disch := omega) only [lit_0, lit_1, lit_2, lit_3, lit_4, lit_5, lit_6, lit_7, lit_8, lit_9, lit_10, lit_11, lit_12, lit_17, lit_20, lit_30, lit_31, lit_32, lit_47, lit_48, lit_60, lit_99, lit_100, lit_144, lit_200, lit_240, lit_300, lit_576, lit_960, lit_1008, lit_1000000, lit_100000000, true_implies, not_true_eq_false, false_implies, not_false_eq_true, true_and, and_true, neg_1, nI_add, pk_mul, nI_clamp, le_nI, lt_nI, eq_nI, vp_nI, nI_NN, NN_nI, NN_lt, NN_le, lt_NN, le_NN]
    repeat' (first | refine Rn_and (by first | omega | assumption) ?_ | refine Rn_pos (by first | omega | assumption) ?_ | refine Rn_neg (by first | omega | assumption) ?_ | refine Rn_pos' (by first | omega | assumption) ?_ | refine Rn_neg' (by first | omega | assumption) ?_ | fail)
    subst hs
    refine ih _ ⟨by first | trivial | omega, Mem_ext (fun k a b => ?_) rfl⟩
    (simp only [wI_r, sK_r]; grind)
  · rintro s ⟨hl, hs⟩
    refine Rn_map (fun Q => x_fill18_5) ?_
    simp (disch := omega) only [lit_0, lit_1, lit_2, lit_3, lit_4, lit_5, lit_6, lit_7, lit_8, lit_9, lit_10, lit_11, lit_12, lit_17, lit_20, lit_30, lit_31, lit_32, lit_47, lit_48, lit_60, lit_99, lit_100, lit_144, lit_200, lit_240, lit_300, lit_576, lit_960, lit_1008, lit_1000000, lit_100000000, true_implies, not_true_eq_false, false_implies, not_false_eq_true, true_and, and_true, neg_1, nI_add, pk_mul, nI_clamp, le_nI, lt_nI, eq_nI, vp_nI, nI_NN, NN_nI, NN_lt, NN_le, lt_NN, le_NN]
    repeat' (first | refine Rn_and (by first | omega | assumption) ?_ | refine Rn_pos (by first | omega | assumption) ?_ | refine Rn_neg (by first | omega | assumption) ?_ | refine Rn_pos' (by first | omega | assumption) ?_ | refine Rn_neg' (by first | omega | assumption) ?_ | fail)
    exact Rn_ret ⟨rfl, hs⟩
  · refine ⟨by first | trivial | omega, Mem_ext (fun k a b => ?_) rfl⟩
    simp only [wI_r, sK_r]
    grind
theorem f_fill19 {d : Nat} {v : Int32} {σ : Mem}  : Rv (fun K => CalV IX (d + 1) S_J7_fill_53178 [ar 19 0, ai v] σ K) (fun s => s = sK σ 19 (fun i j => if i = 0 ∧ j < 576 then v else σ.1 19 i j)) := by
  refine Rv_map (fun K => x_fill19) (Rv_KV ?_)
  try simp (disch := omega) only [lit_0, lit_1, lit_2, lit_3, lit_4, lit_5, lit_6, lit_7, lit_8, lit_9, lit_10, lit_11, lit_12, lit_17, lit_20, lit_30, lit_31, lit_32, lit_47, lit_48, lit_60, lit_99, lit_100, lit_144, lit_200, lit_240, lit_300, lit_576, lit_960, lit_1008, lit_1000000, lit_100000000, true_implies, not_true_eq_false, false_implies, not_false_eq_true, true_and, and_true, neg_1, nI_add, pk_mul, nI_clamp, le_nI, lt_nI, eq_nI, vp_nI, nI_NN, NN_nI, NN_lt, NN_le, lt_NN, le_NN]
  refine loopU (C := fun i s Q => J IX M_J7_fill_53178 (d + 1) 5 [(0, ar 19 0), (1, ai v), (2, ai (nI i)), (3, ai (nI 576))] [] s Q) (Inv := fun n s => (True) ∧ s = sK σ 19 (fun i j => if i = 0 ∧ j < n then v else σ.1 19 i j)) (n := 576) ?_ ?_ (by omega) ?_
  · rintro i s hi ⟨hl, hs⟩ ih
    refine Rn_map (fun Q => x_fill19_5) ?_
    simp (disch := omega) only [lit_0, lit_1, lit_2, lit_3, lit_4, lit_5, lit_6, lit_7, lit_8, lit_9, lit_10, lit_11, lit_12, lit_17, lit_20, lit_30, lit_31, lit_32, lit_47, lit_48, lit_60, lit_99, lit_100, lit_144, lit_200, lit_240, lit_300, lit_576, lit_960, lit_1008, lit_1000000, lit_100000000, true_implies, not_true_eq_false, false_implies, not_false_eq_true, true_and, and_true, neg_1, nI_add, pk_mul, nI_clamp, le_nI, lt_nI, eq_nI, vp_nI, nI_NN, NN_nI, NN_lt, NN_le, lt_NN, le_NN]
    repeat' (first | refine Rn_and (by first | omega | assumption) ?_ | refine Rn_pos (by first | omega | assumption) ?_ | refine Rn_neg (by first | omega | assumption) ?_ | refine Rn_pos' (by first | omega | assumption) ?_ | refine Rn_neg' (by first | omega | assumption) ?_ | fail)
    subst hs
    refine ih _ ⟨by first | trivial | omega, Mem_ext (fun k a b => ?_) rfl⟩
    (simp only [wI_r, sK_r]; grind)
  · rintro s ⟨hl, hs⟩
    refine Rn_map (fun Q => x_fill19_5) ?_
    simp (disch := omega) only [lit_0, lit_1, lit_2, lit_3, lit_4, lit_5, lit_6, lit_7, lit_8, lit_9, lit_10, lit_11, lit_12, lit_17, lit_20, lit_30, lit_31, lit_32, lit_47, lit_48, lit_60, lit_99, lit_100, lit_144, lit_200, lit_240, lit_300, lit_576, lit_960, lit_1008, lit_1000000, lit_100000000, true_implies, not_true_eq_false, false_implies, not_false_eq_true, true_and, and_true, neg_1, nI_add, pk_mul, nI_clamp, le_nI, lt_nI, eq_nI, vp_nI, nI_NN, NN_nI, NN_lt, NN_le, lt_NN, le_NN]
    repeat' (first | refine Rn_and (by first | omega | assumption) ?_ | refine Rn_pos (by first | omega | assumption) ?_ | refine Rn_neg (by first | omega | assumption) ?_ | refine Rn_pos' (by first | omega | assumption) ?_ | refine Rn_neg' (by first | omega | assumption) ?_ | fail)
    exact Rn_ret ⟨rfl, hs⟩
  · refine ⟨by first | trivial | omega, Mem_ext (fun k a b => ?_) rfl⟩
    simp only [wI_r, sK_r]
    grind
theorem f_fill27 {d : Nat} {v : Int32} {σ : Mem}  : Rv (fun K => CalV IX (d + 1) S_J7_fill_53178 [ar 27 0, ai v] σ K) (fun s => s = sK σ 27 (fun i j => if i = 0 ∧ j < 12 then v else σ.1 27 i j)) := by
  refine Rv_map (fun K => x_fill27) (Rv_KV ?_)
  try simp (disch := omega) only [lit_0, lit_1, lit_2, lit_3, lit_4, lit_5, lit_6, lit_7, lit_8, lit_9, lit_10, lit_11, lit_12, lit_17, lit_20, lit_30, lit_31, lit_32, lit_47, lit_48, lit_60, lit_99, lit_100, lit_144, lit_200, lit_240, lit_300, lit_576, lit_960, lit_1008, lit_1000000, lit_100000000, true_implies, not_true_eq_false, false_implies, not_false_eq_true, true_and, and_true, neg_1, nI_add, pk_mul, nI_clamp, le_nI, lt_nI, eq_nI, vp_nI, nI_NN, NN_nI, NN_lt, NN_le, lt_NN, le_NN]
  refine loopU (C := fun i s Q => J IX M_J7_fill_53178 (d + 1) 5 [(0, ar 27 0), (1, ai v), (2, ai (nI i)), (3, ai (nI 12))] [] s Q) (Inv := fun n s => (True) ∧ s = sK σ 27 (fun i j => if i = 0 ∧ j < n then v else σ.1 27 i j)) (n := 12) ?_ ?_ (by omega) ?_
  · rintro i s hi ⟨hl, hs⟩ ih
    refine Rn_map (fun Q => x_fill27_5) ?_
    simp (disch := omega) only [lit_0, lit_1, lit_2, lit_3, lit_4, lit_5, lit_6, lit_7, lit_8, lit_9, lit_10, lit_11, lit_12, lit_17, lit_20, lit_30, lit_31, lit_32, lit_47, lit_48, lit_60, lit_99, lit_100, lit_144, lit_200, lit_240, lit_300, lit_576, lit_960, lit_1008, lit_1000000, lit_100000000, true_implies, not_true_eq_false, false_implies, not_false_eq_true, true_and, and_true, neg_1, nI_add, pk_mul, nI_clamp, le_nI, lt_nI, eq_nI, vp_nI, nI_NN, NN_nI, NN_lt, NN_le, lt_NN, le_NN]
    repeat' (first | refine Rn_and (by first | omega | assumption) ?_ | refine Rn_pos (by first | omega | assumption) ?_ | refine Rn_neg (by first | omega | assumption) ?_ | refine Rn_pos' (by first | omega | assumption) ?_ | refine Rn_neg' (by first | omega | assumption) ?_ | fail)
    subst hs
    refine ih _ ⟨by first | trivial | omega, Mem_ext (fun k a b => ?_) rfl⟩
    (simp only [wI_r, sK_r]; grind)
  · rintro s ⟨hl, hs⟩
    refine Rn_map (fun Q => x_fill27_5) ?_
    simp (disch := omega) only [lit_0, lit_1, lit_2, lit_3, lit_4, lit_5, lit_6, lit_7, lit_8, lit_9, lit_10, lit_11, lit_12, lit_17, lit_20, lit_30, lit_31, lit_32, lit_47, lit_48, lit_60, lit_99, lit_100, lit_144, lit_200, lit_240, lit_300, lit_576, lit_960, lit_1008, lit_1000000, lit_100000000, true_implies, not_true_eq_false, false_implies, not_false_eq_true, true_and, and_true, neg_1, nI_add, pk_mul, nI_clamp, le_nI, lt_nI, eq_nI, vp_nI, nI_NN, NN_nI, NN_lt, NN_le, lt_NN, le_NN]
    repeat' (first | refine Rn_and (by first | omega | assumption) ?_ | refine Rn_pos (by first | omega | assumption) ?_ | refine Rn_neg (by first | omega | assumption) ?_ | refine Rn_pos' (by first | omega | assumption) ?_ | refine Rn_neg' (by first | omega | assumption) ?_ | fail)
    exact Rn_ret ⟨rfl, hs⟩
  · refine ⟨by first | trivial | omega, Mem_ext (fun k a b => ?_) rfl⟩
    simp only [wI_r, sK_r]
    grind
theorem f_fill10 {d o : Nat} {v : Int32} {σ : Mem}  : Rv (fun K => CalV IX (d + 1) S_J7_fill_53178 [ar 10 o, ai v] σ K) (fun s => s = sK σ 10 (fun i j => if i = o ∧ j < 12 then v else σ.1 10 i j)) := by
  refine Rv_map (fun K => x_fill10) (Rv_KV ?_)
  try simp (disch := omega) only [lit_0, lit_1, lit_2, lit_3, lit_4, lit_5, lit_6, lit_7, lit_8, lit_9, lit_10, lit_11, lit_12, lit_17, lit_20, lit_30, lit_31, lit_32, lit_47, lit_48, lit_60, lit_99, lit_100, lit_144, lit_200, lit_240, lit_300, lit_576, lit_960, lit_1008, lit_1000000, lit_100000000, true_implies, not_true_eq_false, false_implies, not_false_eq_true, true_and, and_true, neg_1, nI_add, pk_mul, nI_clamp, le_nI, lt_nI, eq_nI, vp_nI, nI_NN, NN_nI, NN_lt, NN_le, lt_NN, le_NN]
  refine loopU (C := fun i s Q => J IX M_J7_fill_53178 (d + 1) 5 [(0, ar 10 o), (1, ai v), (2, ai (nI i)), (3, ai (nI 12))] [] s Q) (Inv := fun n s => (True) ∧ s = sK σ 10 (fun i j => if i = o ∧ j < n then v else σ.1 10 i j)) (n := 12) ?_ ?_ (by omega) ?_
  · rintro i s hi ⟨hl, hs⟩ ih
    refine Rn_map (fun Q => x_fill10_5) ?_
    simp (disch := omega) only [lit_0, lit_1, lit_2, lit_3, lit_4, lit_5, lit_6, lit_7, lit_8, lit_9, lit_10, lit_11, lit_12, lit_17, lit_20, lit_30, lit_31, lit_32, lit_47, lit_48, lit_60, lit_99, lit_100, lit_144, lit_200, lit_240, lit_300, lit_576, lit_960, lit_1008, lit_1000000, lit_100000000, true_implies, not_true_eq_false, false_implies, not_false_eq_true, true_and, and_true, neg_1, nI_add, pk_mul, nI_clamp, le_nI, lt_nI, eq_nI, vp_nI, nI_NN, NN_nI, NN_lt, NN_le, lt_NN, le_NN]
    repeat' (first | refine Rn_and (by first | omega | assumption) ?_ | refine Rn_pos (by first | omega | assumption) ?_ | refine Rn_neg (by first | omega | assumption) ?_ | refine Rn_pos' (by first | omega | assumption) ?_ | refine Rn_neg' (by first | omega | assumption) ?_ | fail)
    subst hs
    refine ih _ ⟨by first | trivial | omega, Mem_ext (fun k a b => ?_) rfl⟩
    (simp only [wI_r, sK_r]; grind)
  · rintro s ⟨hl, hs⟩
    refine Rn_map (fun Q => x_fill10_5) ?_
    simp (disch := omega) only [lit_0, lit_1, lit_2, lit_3, lit_4, lit_5, lit_6, lit_7, lit_8, lit_9, lit_10, lit_11, lit_12, lit_17, lit_20, lit_30, lit_31, lit_32, lit_47, lit_48, lit_60, lit_99, lit_100, lit_144, lit_200, lit_240, lit_300, lit_576, lit_960, lit_1008, lit_1000000, lit_100000000, true_implies, not_true_eq_false, false_implies, not_false_eq_true, true_and, and_true, neg_1, nI_add, pk_mul, nI_clamp, le_nI, lt_nI, eq_nI, vp_nI, nI_NN, NN_nI, NN_lt, NN_le, lt_NN, le_NN]
    repeat' (first | refine Rn_and (by first | omega | assumption) ?_ | refine Rn_pos (by first | omega | assumption) ?_ | refine Rn_neg (by first | omega | assumption) ?_ | refine Rn_pos' (by first | omega | assumption) ?_ | refine Rn_neg' (by first | omega | assumption) ?_ | fail)
    exact Rn_ret ⟨rfl, hs⟩
  · refine ⟨by first | trivial | omega, Mem_ext (fun k a b => ?_) rfl⟩
    simp only [wI_r, sK_r]
    grind
theorem f_X2_claim {d p lo hi : Nat} {w : Int32} {σ : Mem} (hp : p < 12) (hle : lo ≤ hi) (hh : hi ≤ 48) : Rv (fun K => CalV IX (d + 1) S_X2_claim [ar 17 0, ai (nI p), ai (nI lo), ai (nI hi), ai w] σ K) (fun s => s = sK (sK σ 18 (fun i t => if i = 0 ∧ lo ≤ t ∧ t < hi then σ.1 18 0 t + w else σ.1 18 i t)) 19 (fun i j => if i = 0 ∧ j / 48 = p ∧ lo ≤ j % 48 ∧ j % 48 < hi then σ.1 19 0 j + w else σ.1 19 i j)) := by
  refine Rv_map (fun K => x_X2_claim) (Rv_KV ?_)
  try simp (disch := omega) only [lit_0, lit_1, lit_2, lit_3, lit_4, lit_5, lit_6, lit_7, lit_8, lit_9, lit_10, lit_11, lit_12, lit_17, lit_20, lit_30, lit_31, lit_32, lit_47, lit_48, lit_60, lit_99, lit_100, lit_144, lit_200, lit_240, lit_300, lit_576, lit_960, lit_1008, lit_1000000, lit_100000000, true_implies, not_true_eq_false, false_implies, not_false_eq_true, true_and, and_true, neg_1, nI_add, pk_mul, nI_clamp, le_nI, lt_nI, eq_nI, vp_nI, nI_NN, NN_nI, NN_lt, NN_le, lt_NN, le_NN]
  refine loopU (C := fun i s Q => J IX M_X2_claim (d + 1) 3 [(0, ar 17 0), (1, ai (nI p)), (3, ai (nI hi)), (4, ai w), (5, ai (nI i))] [] s Q) (Inv := fun n s => (lo ≤ n) ∧ s = sK (sK σ 18 (fun i t => if i = 0 ∧ lo ≤ t ∧ t < n then σ.1 18 0 t + w else σ.1 18 i t)) 19 (fun i j => if i = 0 ∧ j / 48 = p ∧ lo ≤ j % 48 ∧ j % 48 < n then σ.1 19 0 j + w else σ.1 19 i j)) (n := hi) ?_ ?_ hle ?_
  · rintro i s hi ⟨hl, hs⟩ ih
    refine Rn_map (fun Q => x_X2_claim_3) ?_
    simp (disch := omega) only [lit_0, lit_1, lit_2, lit_3, lit_4, lit_5, lit_6, lit_7, lit_8, lit_9, lit_10, lit_11, lit_12, lit_17, lit_20, lit_30, lit_31, lit_32, lit_47, lit_48, lit_60, lit_99, lit_100, lit_144, lit_200, lit_240, lit_300, lit_576, lit_960, lit_1008, lit_1000000, lit_100000000, true_implies, not_true_eq_false, false_implies, not_false_eq_true, true_and, and_true, neg_1, nI_add, pk_mul, nI_clamp, le_nI, lt_nI, eq_nI, vp_nI, nI_NN, NN_nI, NN_lt, NN_le, lt_NN, le_NN]
    repeat' (first | refine Rn_and (by first | omega | assumption) ?_ | refine Rn_pos (by first | omega | assumption) ?_ | refine Rn_neg (by first | omega | assumption) ?_ | refine Rn_pos' (by first | omega | assumption) ?_ | refine Rn_neg' (by first | omega | assumption) ?_ | fail)
    subst hs
    refine ih _ ⟨by first | trivial | omega, Mem_ext (fun k a b => ?_) rfl⟩
    have hb1 : b = p * 48 + i ↔ (b / 48 = p ∧ b % 48 = i) := by omega
    simp only [wI_r, sK_r]
    grind
  · rintro s ⟨hl, hs⟩
    refine Rn_map (fun Q => x_X2_claim_3) ?_
    simp (disch := omega) only [lit_0, lit_1, lit_2, lit_3, lit_4, lit_5, lit_6, lit_7, lit_8, lit_9, lit_10, lit_11, lit_12, lit_17, lit_20, lit_30, lit_31, lit_32, lit_47, lit_48, lit_60, lit_99, lit_100, lit_144, lit_200, lit_240, lit_300, lit_576, lit_960, lit_1008, lit_1000000, lit_100000000, true_implies, not_true_eq_false, false_implies, not_false_eq_true, true_and, and_true, neg_1, nI_add, pk_mul, nI_clamp, le_nI, lt_nI, eq_nI, vp_nI, nI_NN, NN_nI, NN_lt, NN_le, lt_NN, le_NN]
    repeat' (first | refine Rn_and (by first | omega | assumption) ?_ | refine Rn_pos (by first | omega | assumption) ?_ | refine Rn_neg (by first | omega | assumption) ?_ | refine Rn_pos' (by first | omega | assumption) ?_ | refine Rn_neg' (by first | omega | assumption) ?_ | fail)
    exact Rn_ret ⟨rfl, hs⟩
  · refine ⟨by first | trivial | omega, Mem_ext (fun k a b => ?_) rfl⟩
    simp only [wI_r, sK_r]
    grind
theorem f_X3_leave_12 {d o lo : Nat} {σ : Mem} (hlo : lo ≤ 48) : Rv (fun K => CalV IX (d + 1) S_X3_leave [ar 9 o, ai (nI lo)] σ K) (fun s => s = sK (wI (wI σ 9 o 13 (nI 1)) 9 o 12 (nI 0)) 12 (fun i j => if i = o ∧ lo ≤ j ∧ j < 48 then NN else σ.1 12 i j)) := by
  refine Rv_map (fun K => x_X3_leave) (Rv_KV ?_)
  try simp (disch := omega) only [lit_0, lit_1, lit_2, lit_3, lit_4, lit_5, lit_6, lit_7, lit_8, lit_9, lit_10, lit_11, lit_12, lit_17, lit_20, lit_30, lit_31, lit_32, lit_47, lit_48, lit_60, lit_99, lit_100, lit_144, lit_200, lit_240, lit_300, lit_576, lit_960, lit_1008, lit_1000000, lit_100000000, true_implies, not_true_eq_false, false_implies, not_false_eq_true, true_and, and_true, neg_1, nI_add, pk_mul, nI_clamp, le_nI, lt_nI, eq_nI, vp_nI, nI_NN, NN_nI, NN_lt, NN_le, lt_NN, le_NN]
  refine loopU (C := fun i s Q => J IX M_X3_leave (d + 1) 12 [(0, ar 9 o), (2, ai (nI i))] [] s Q) (Inv := fun n s => (lo ≤ n) ∧ s = sK (wI (wI σ 9 o 13 (nI 1)) 9 o 12 (nI 0)) 12 (fun i j => if i = o ∧ lo ≤ j ∧ j < n then NN else σ.1 12 i j)) (n := 48) ?_ ?_ hlo ?_
  · rintro i s hi ⟨hl, hs⟩ ih
    refine Rn_map (fun Q => x_X3_leave_12) ?_
    simp (disch := omega) only [lit_0, lit_1, lit_2, lit_3, lit_4, lit_5, lit_6, lit_7, lit_8, lit_9, lit_10, lit_11, lit_12, lit_17, lit_20, lit_30, lit_31, lit_32, lit_47, lit_48, lit_60, lit_99, lit_100, lit_144, lit_200, lit_240, lit_300, lit_576, lit_960, lit_1008, lit_1000000, lit_100000000, true_implies, not_true_eq_false, false_implies, not_false_eq_true, true_and, and_true, neg_1, nI_add, pk_mul, nI_clamp, le_nI, lt_nI, eq_nI, vp_nI, nI_NN, NN_nI, NN_lt, NN_le, lt_NN, le_NN]
    repeat' (first | refine Rn_and (by first | omega | assumption) ?_ | refine Rn_pos (by first | omega | assumption) ?_ | refine Rn_neg (by first | omega | assumption) ?_ | refine Rn_pos' (by first | omega | assumption) ?_ | refine Rn_neg' (by first | omega | assumption) ?_ | fail)
    subst hs
    refine ih _ ⟨by first | trivial | omega, Mem_ext (fun k a b => ?_) rfl⟩
    (simp only [wI_r, sK_r]; grind)
  · rintro s ⟨hl, hs⟩
    refine Rn_map (fun Q => x_X3_leave_12) ?_
    simp (disch := omega) only [lit_0, lit_1, lit_2, lit_3, lit_4, lit_5, lit_6, lit_7, lit_8, lit_9, lit_10, lit_11, lit_12, lit_17, lit_20, lit_30, lit_31, lit_32, lit_47, lit_48, lit_60, lit_99, lit_100, lit_144, lit_200, lit_240, lit_300, lit_576, lit_960, lit_1008, lit_1000000, lit_100000000, true_implies, not_true_eq_false, false_implies, not_false_eq_true, true_and, and_true, neg_1, nI_add, pk_mul, nI_clamp, le_nI, lt_nI, eq_nI, vp_nI, nI_NN, NN_nI, NN_lt, NN_le, lt_NN, le_NN]
    repeat' (first | refine Rn_and (by first | omega | assumption) ?_ | refine Rn_pos (by first | omega | assumption) ?_ | refine Rn_neg (by first | omega | assumption) ?_ | refine Rn_pos' (by first | omega | assumption) ?_ | refine Rn_neg' (by first | omega | assumption) ?_ | fail)
    exact Rn_ret ⟨rfl, hs⟩
  · refine ⟨by first | trivial | omega, Mem_ext (fun k a b => ?_) rfl⟩
    simp only [wI_r, sK_r]
    grind
theorem f_X4_add {d f lo : Nat} {ch : Int32} {σ : Mem} (hlo : lo ≤ 48) (hc : ∀ t, t < 48 → σ.1 12 f t = NN ∨ ∃ n, n < 400 ∧ σ.1 12 f t = nI n) : Rv (fun K => CalV IX (d + 2) S_X4_add [ar 15 0, ar 12 f, ai (nI lo), ai ch] σ K) (fun s => s = sK σ 16 (fun i j => if i = 0 ∧ j < 576 ∧ lo ≤ j % 48 ∧ σ.1 12 f (j % 48) = nI (j / 48) then σ.1 16 0 j + ch else σ.1 16 i j)) := by
  refine Rv_map (fun K => x_X4_add) (Rv_KV ?_)
  refine loopU (C := fun i s Q => J IX M_X4_add (d + 2) 3 [(0, ar 15 0), (1, ar 12 f), (3, ai ch), (4, ai (nI i))] [] s Q) (Inv := fun n s => lo ≤ n ∧ s = sK σ 16 (fun i j => if i = 0 ∧ j < 576 ∧ lo ≤ j % 48 ∧ j % 48 < n ∧ σ.1 12 f (j % 48) = nI (j / 48) then σ.1 16 0 j + ch else σ.1 16 i j)) (n := 48) ?_ ?_ hlo ?_
  · rintro i s hi ⟨hl, hs⟩ ih
    have es : s.1 12 f i = σ.1 12 f i := by rw [hs]; rfl
    refine Rn_map (fun Q => x_X4_add_3) ?_
    rcases hc i hi with e | ⟨n, hn, e⟩
    · simp (disch := omega) only [lit_0, lit_1, lit_2, lit_3, lit_4, lit_5, lit_6, lit_7, lit_8, lit_9, lit_10, lit_11, lit_12, lit_17, lit_20, lit_30, lit_31, lit_32, lit_47, lit_48, lit_60, lit_99, lit_100, lit_144, lit_200, lit_240, lit_300, lit_576, lit_960, lit_1008, lit_1000000, lit_100000000, true_implies, not_true_eq_false, false_implies, not_false_eq_true, true_and, and_true, neg_1, nI_add, pk_mul, nI_clamp, le_nI, lt_nI, eq_nI, vp_nI, nI_NN, NN_nI, NN_lt, NN_le, lt_NN, le_NN, es, e]
      repeat' (first | refine Rn_and (by first | omega | assumption) ?_ | refine Rn_pos (by first | omega | assumption) ?_ | refine Rn_neg (by first | omega | assumption) ?_ | refine Rn_pos' (by first | omega | assumption) ?_ | refine Rn_neg' (by first | omega | assumption) ?_ | fail)
      subst hs
      refine ih _ ⟨by omega, Mem_ext (fun k a b => ?_) rfl⟩
      have h1 : b % 48 = i → σ.1 12 f (b % 48) ≠ nI (b / 48) ∨ ¬ b < 576 := by
        intro h
        by_cases hb : b < 576
        · refine Or.inl ?_
          rw [h, e, ne_eq, NN_nI (by omega)]
          exact not_false
        · exact Or.inr hb
      simp only [sK_r]
      grind
    · have hx := eq_nI (a := n) (b := 0)
      simp (disch := omega) only [lit_0, lit_1, lit_2, lit_3, lit_4, lit_5, lit_6, lit_7, lit_8, lit_9, lit_10, lit_11, lit_12, lit_17, lit_20, lit_30, lit_31, lit_32, lit_47, lit_48, lit_60, lit_99, lit_100, lit_144, lit_200, lit_240, lit_300, lit_576, lit_960, lit_1008, lit_1000000, lit_100000000, true_implies, not_true_eq_false, false_implies, not_false_eq_true, true_and, and_true, neg_1, nI_add, pk_mul, nI_clamp, le_nI, lt_nI, eq_nI, vp_nI, nI_NN, NN_nI, NN_lt, NN_le, lt_NN, le_NN, es, e]
      by_cases hn12 : n < 12
      · repeat' (first | refine Rn_and (by first | omega | assumption) ?_ | refine Rn_pos (by first | omega | assumption) ?_ | refine Rn_neg (by first | omega | assumption) ?_ | refine Rn_pos' (by first | omega | assumption) ?_ | refine Rn_neg' (by first | omega | assumption) ?_ | fail)
        subst hs
        refine ih _ ⟨by omega, Mem_ext (fun k a b => ?_) rfl⟩
        have hb1 : b = n * 48 + i ↔ (b / 48 = n ∧ b % 48 = i) := by omega
        have h1 : b % 48 = i → b < 576 → (σ.1 12 f (b % 48) = nI (b / 48) ↔ b / 48 = n) := by
          intro h hb
          rw [h, e, eq_nI (by omega) (by omega)]
          omega
        simp only [wI_r, sK_r]
        grind
      · repeat' (first | refine Rn_and (by first | omega | assumption) ?_ | refine Rn_pos (by first | omega | assumption) ?_ | refine Rn_neg (by first | omega | assumption) ?_ | refine Rn_pos' (by first | omega | assumption) ?_ | refine Rn_neg' (by first | omega | assumption) ?_ | fail)
        subst hs
        refine ih _ ⟨by omega, Mem_ext (fun k a b => ?_) rfl⟩
        have h1 : b % 48 = i → b < 576 → σ.1 12 f (b % 48) ≠ nI (b / 48) := by
          intro h hb
          rw [h, e, ne_eq, eq_nI (by omega) (by omega)]
          omega
        simp only [sK_r]
        grind
  · rintro s ⟨hl, hs⟩
    refine Rn_map (fun Q => x_X4_add_3) ?_
    simp (disch := omega) only [lit_0, lit_1, lit_2, lit_3, lit_4, lit_5, lit_6, lit_7, lit_8, lit_9, lit_10, lit_11, lit_12, lit_17, lit_20, lit_30, lit_31, lit_32, lit_47, lit_48, lit_60, lit_99, lit_100, lit_144, lit_200, lit_240, lit_300, lit_576, lit_960, lit_1008, lit_1000000, lit_100000000, true_implies, not_true_eq_false, false_implies, not_false_eq_true, true_and, and_true, neg_1, nI_add, pk_mul, nI_clamp, le_nI, lt_nI, eq_nI, vp_nI, nI_NN, NN_nI, NN_lt, NN_le, lt_NN, le_NN]
    repeat' (first | refine Rn_and (by first | omega | assumption) ?_ | refine Rn_pos (by first | omega | assumption) ?_ | refine Rn_neg (by first | omega | assumption) ?_ | refine Rn_pos' (by first | omega | assumption) ?_ | refine Rn_neg' (by first | omega | assumption) ?_ | fail)
    subst hs
    refine Rn_ret ⟨rfl, Mem_ext (fun k a b => ?_) rfl⟩
    have : b % 48 < 48 := by omega
    simp only [sK_r]
    grind
  · refine ⟨by omega, Mem_ext (fun k a b => ?_) rfl⟩
    simp only [sK_r]
    grind

