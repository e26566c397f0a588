variable {κ : Nat → Nat → Nat → Prop}
/-- behind the plans anew of those from k on who are due in p -/
def LF (N p k : Nat) (a b : Mem) : Prop := ∀ i t, t < 48 → b.1 12 i t ≠ a.1 12 i t → k ≤ i ∧ N ≤ t ∧ ∃ u, N ≤ u ∧ u < 48 ∧ a.1 12 i u = nI p
theorem LF_up {N p k : Nat} {a b : Mem} (h : LF N p (k + 1) a b) : LF N p k a b := fun i t ht hn => ⟨Nat.le_of_succ_le (h i t ht hn).1, (h i t ht hn).2⟩
theorem LF_due {N p k : Nat} {a b c : Mem} (h1 : PF N k a b) (hd : ∃ t, N ≤ t ∧ t < 48 ∧ a.1 12 k t = nI p) (h : LF N p (k + 1) b c) : LF N p k a c := by
  intro i t ht hn
  by_cases e : i = k
  · subst e
    have hc : c.1 12 i t = b.1 12 i t := Classical.byContradiction (fun z => by
      have := (h i t ht z).1
      omega)
    by_cases hN : N ≤ t
    · exact ⟨Nat.le_refl _, hN, hd⟩
    · exact absurd (hc.trans (h1 i t (fun z => hN z.2))) hn
  · have hb : ∀ u, b.1 12 i u = a.1 12 i u := fun u => h1 i u (fun z => e z.1)
    obtain ⟨q1, q2, u, q3, q4, q5⟩ := h i t ht (by rw [hb]; exact hn)
    exact ⟨Nat.le_of_succ_le q1, q2, u, q3, q4, (hb u).symm.trans q5⟩
/-- of a plan anew of p0 (by its number), and of a lock of p0 -/
def An (p0 : Int32) (a b : Mem) : Prop := ∀ i t : Nat, t < 48 → b.1 12 i t ≠ a.1 12 i t → p0 = nI i ∧ (a.1 0 0 14).toInt ≤ t
def Ln (p0 : Int32) (a b : Mem) : Prop := ∀ i t : Nat, t < 48 → b.1 12 i t ≠ a.1 12 i t → (a.1 0 0 14).toInt ≤ t ∧ ∃ u : Nat, (a.1 0 0 14).toInt ≤ u ∧ u < 48 ∧ a.1 12 i u = p0
theorem An_of {N f : Nat} {a b : Mem} (h : PF N f a b) (hN : a.1 0 0 14 = nI N) (h48 : N < 48) : An (nI f) a b := by
  intro i t ht hn
  have e : i = f ∧ N ≤ t := Classical.byContradiction (fun z => hn (h i t z))
  rw [hN, nI_toInt (by omega), e.1]
  exact ⟨rfl, by omega⟩
theorem Ln_of {N p : Nat} {a b : Mem} (h : LF N p 0 a b) (hN : a.1 0 0 14 = nI N) (h48 : N < 48) : Ln (nI p) a b := by
  intro i t ht hn
  obtain ⟨-, q2, u, q3, q4, q5⟩ := h i t ht hn
  rw [hN, nI_toInt (by omega)]
  exact ⟨by omega, u, by omega, q4, q5⟩
theorem and_bit0 {x : Int32} {p : Nat} (hp : p < 32) : (x &&& (nI 1 <<< (nI p &&& nI 31)) = nI 0) = (bt x p = false) := by
  refine propext ⟨fun h => ?_, fun h => ?_⟩
  · have := congrArg (fun y => bt y p) h
    simp only [b_and, bt_shl hp, bt_nI0, decide_true, Bool.and_true] at this
    exact this
  · apply b_ext
    intro i hi
    rw [b_and, bt_shl hp, bt_nI0]
    by_cases e : i = p
    · subst e; simp [h]
    · simp [e]
theorem R_lockloop {P W F G C N D B p : Nat} {w l : Nat → Nat → Nat} {dx dm : Nat} (hp : p < P) (hP : P ≤ 12) (hB : B = 1) (hF20 : F ≤ 20) : ∀ n k σx σm v, n + k = F → RelW κ (fun _ => True) σx σm P W F G C N D B w l → Rn (fun Q => J IX M_X7_replanThoseDueIn (dx + 5) 4 [(0, ar 0 0), (1, ai (nI p)), (2, ai v), (3, ai (nI k))] [] σx Q) (fun rx sx => Rn (fun Q => J IM M_X8_lock (dm + 5) 48 [(0, ar 30 0), (1, ai (nI p)), (2, ai (nI 1)), (3, ai v), (4, ai (nI 0)), (5, ai (nI k))] [] σm Q) (fun rm sm => ∃ y, (rx = some (ai y) ∧ LF N p k σx sx) ∧ rm = some (ai y) ∧ RelW κ (fun _ => True) sx sm P W F G C N D B w l)) := by
  intro n
  induction n with
  | zero =>
    intro k σx σm v hk R
    have R0 := R
    obtain ⟨gSc, gRef, gHrs, gLck, gWay, gFar, gDist, gShl, gCell, gHome, gKeys, gLike, gDuty, gGone, gBent, gPlan, gCost, gSeat, gMeet, gTly, gKnow, gFlt, gRow, gPl1, gWel⟩ := R
    obtain ⟨⟨xP, mP, _⟩, ⟨xW, mW, hW⟩, ⟨xF, mF, hF⟩, ⟨xG, mG, hG⟩, ⟨xC, mC, hC⟩, ⟨xN, mN, hN⟩, ⟨xD, mD, hD⟩, ⟨xB, mB, hB1⟩, hpl, hb0⟩ := gSc
    refine Rn_map (fun Q => x_X7_replanThoseDueIn_4) ?_
    simp (disch := omega) only [lit_0, lit_1, lit_2, lit_3, lit_4, lit_5, lit_6, lit_7, lit_8, lit_9, lit_10, lit_11, lit_12, lit_17, lit_20, lit_30, lit_31, lit_32, lit_47, lit_48, lit_60, lit_99, lit_100, lit_144, lit_200, lit_240, lit_300, lit_576, lit_960, lit_1008, lit_1000000, lit_100000000, true_implies, not_true_eq_false, false_implies, not_false_eq_true, true_and, and_true, neg_1, nI_add, pk_mul, nI_clamp, le_nI, lt_nI, eq_nI, vp_nI, nI_NN, NN_nI, NN_lt, NN_le, lt_NN, le_NN, xF]
    repeat' (first | refine Rn_and (by first | omega | assumption) ?_ | refine Rn_pos (by first | omega | assumption) ?_ | refine Rn_neg (by first | omega | assumption) ?_ | refine Rn_pos' (by first | omega | assumption) ?_ | refine Rn_neg' (by first | omega | assumption) ?_ | fail)
    refine Rn_ret ?_
    refine Rn_map (fun Q => x_X8_lock_48) ?_
    simp (disch := omega) only [lit_0, lit_1, lit_2, lit_3, lit_4, lit_5, lit_6, lit_7, lit_8, lit_9, lit_10, lit_11, lit_12, lit_17, lit_20, lit_30, lit_31, lit_32, lit_47, lit_48, lit_60, lit_99, lit_100, lit_144, lit_200, lit_240, lit_300, lit_576, lit_960, lit_1008, lit_1000000, lit_100000000, true_implies, not_true_eq_false, false_implies, not_false_eq_true, true_and, and_true, neg_1, nI_add, pk_mul, nI_clamp, le_nI, lt_nI, eq_nI, vp_nI, nI_NN, NN_nI, NN_lt, NN_le, lt_NN, le_NN, mF]
    repeat' (first | refine Rn_and (by first | omega | assumption) ?_ | refine Rn_pos (by first | omega | assumption) ?_ | refine Rn_neg (by first | omega | assumption) ?_ | refine Rn_pos' (by first | omega | assumption) ?_ | refine Rn_neg' (by first | omega | assumption) ?_ | fail)
    exact Rn_ret ⟨v, ⟨rfl, fun i t ht h => absurd rfl h⟩, rfl, R0⟩
  | succ n ih =>
    intro k σx σm v hk R
    have R0 := R
    obtain ⟨gSc, gRef, gHrs, gLck, gWay, gFar, gDist, gShl, gCell, gHome, gKeys, gLike, gDuty, gGone, gBent, gPlan, gCost, gSeat, gMeet, gTly, gKnow, gFlt, gRow, gPl1, gWel⟩ := R
    obtain ⟨⟨xP, mP, _⟩, ⟨xW, mW, hW⟩, ⟨xF, mF, hF⟩, ⟨xG, mG, hG⟩, ⟨xC, mC, hC⟩, ⟨xN, mN, hN⟩, ⟨xD, mD, hD⟩, ⟨xB, mB, hB1⟩, hpl, hb0⟩ := gSc
    have hco : ∀ t, t < 48 → σx.1 12 k t = σm.1 46 0 (48 * k + t) := fun t ht => gPlan k t (by omega) ht
    refine Rn_map (fun Q => x_X7_replanThoseDueIn_4) ?_
    simp (disch := omega) only [lit_0, lit_1, lit_2, lit_3, lit_4, lit_5, lit_6, lit_7, lit_8, lit_9, lit_10, lit_11, lit_12, lit_17, lit_20, lit_30, lit_31, lit_32, lit_47, lit_48, lit_60, lit_99, lit_100, lit_144, lit_200, lit_240, lit_300, lit_576, lit_960, lit_1008, lit_1000000, lit_100000000, true_implies, not_true_eq_false, false_implies, not_false_eq_true, true_and, and_true, neg_1, nI_add, pk_mul, nI_clamp, le_nI, lt_nI, eq_nI, vp_nI, nI_NN, NN_nI, NN_lt, NN_le, lt_NN, le_NN, xF, xN]
    repeat' (first | refine Rn_and (by first | omega | assumption) ?_ | refine Rn_pos (by first | omega | assumption) ?_ | refine Rn_neg (by first | omega | assumption) ?_ | refine Rn_pos' (by first | omega | assumption) ?_ | refine Rn_neg' (by first | omega | assumption) ?_ | fail)
    refine Rn_cI (Rn_mono (f_X3_isDueIn (by omega)) ?_)
    rintro r s2 ⟨hs2, hr⟩
    rw [hs2]
    rcases hr with ⟨⟨t, t1, t2, t3⟩, hr⟩ | ⟨hall, hr⟩
    · rw [hr]
      have hg0 : σm.1 43 0 k = nI 0 := by
        rcases (gGone k (by omega)).2 with h | h
        · exact h
        · have := (gPl1 k t (by omega) t2).2 (Or.inr (Or.inr ⟨h, t1⟩))
          rw [hco t t2, this, NN_nI (by omega)] at t3
          exact t3.elim
      simp (disch := omega) only [lit_0, lit_1, lit_2, lit_3, lit_4, lit_5, lit_6, lit_7, lit_8, lit_9, lit_10, lit_11, lit_12, lit_17, lit_20, lit_30, lit_31, lit_32, lit_47, lit_48, lit_60, lit_99, lit_100, lit_144, lit_200, lit_240, lit_300, lit_576, lit_960, lit_1008, lit_1000000, lit_100000000, true_implies, not_true_eq_false, false_implies, not_false_eq_true, true_and, and_true, neg_1, nI_add, pk_mul, nI_clamp, le_nI, lt_nI, eq_nI, vp_nI, nI_NN, NN_nI, NN_lt, NN_le, lt_NN, le_NN]
      repeat' (first | refine Rn_and (by first | omega | assumption) ?_ | refine Rn_pos (by first | omega | assumption) ?_ | refine Rn_neg (by first | omega | assumption) ?_ | refine Rn_pos' (by first | omega | assumption) ?_ | refine Rn_neg' (by first | omega | assumption) ?_ | fail)
      refine Rn_cI (Rn_mono (R_replan (dm := dm) R0 (by omega) hB hg0 (Or.inr trivial)) ?_)
      rintro r1 sx1 hm1
      obtain ⟨r2, sm1, ⟨e1, ⟨_, hPF⟩, R1⟩, hk1⟩ := hm1
      have R1' : RelW κ (fun _ => True) sx1 sm1 P W F G C N D B w l := by
        obtain ⟨hSc', gRef', gHrs', gLck', gWay', gFar', gDist', gShl', gCell', gHome', gKeys', gLike', gDuty', gGone', gBent', gPlan', gCost', gSeat', gMeet', gTly', gKnow', gFlt', gRow', gPl1', gWel'⟩ := R1
        exact ⟨hSc', gRef', gHrs', gLck', gWay', gFar', gDist', gShl', gCell', gHome', gKeys', gLike', gDuty', gGone', gBent', gPlan', gCost', gSeat', gMeet', gTly', gKnow', gFlt', gRow', gPl1', fun u hu _ h43 => gWel' u hu (Or.inl trivial) h43⟩
      have ihk := ih (k + 1) sx1 sm1 (v + nI 1) (by omega) R1'
      refine Rn_mono ihk ?_
      rintro rx sx hm0
      have hm2 := Rn_mono hm0 (P' := fun rm sm => ∃ y, (rx = some (ai y) ∧ LF N p k σx sx) ∧ rm = some (ai y) ∧ RelW κ (fun _ => True) sx sm P W F G C N D B w l) (by
        rintro rm sm ⟨y, ⟨e, hL⟩, e2, R2⟩
        exact ⟨y, ⟨e, LF_due hPF ⟨t, t1, t2, t3⟩ hL⟩, e2, R2⟩)
      refine Rn_map (fun Q => x_X8_lock_48) ?_
      simp (disch := omega) only [lit_0, lit_1, lit_2, lit_3, lit_4, lit_5, lit_6, lit_7, lit_8, lit_9, lit_10, lit_11, lit_12, lit_17, lit_20, lit_30, lit_31, lit_32, lit_47, lit_48, lit_60, lit_99, lit_100, lit_144, lit_200, lit_240, lit_300, lit_576, lit_960, lit_1008, lit_1000000, lit_100000000, true_implies, not_true_eq_false, false_implies, not_false_eq_true, true_and, and_true, neg_1, nI_add, pk_mul, nI_clamp, le_nI, lt_nI, eq_nI, vp_nI, nI_NN, NN_nI, NN_lt, NN_le, lt_NN, le_NN, mF]
      repeat' (first | refine Rn_and (by first | omega | assumption) ?_ | refine Rn_pos (by first | omega | assumption) ?_ | refine Rn_neg (by first | omega | assumption) ?_ | refine Rn_pos' (by first | omega | assumption) ?_ | refine Rn_neg' (by first | omega | assumption) ?_ | fail)
      refine Rn_cI (Rn_mono (f_X8_willBeIn (by omega) (by omega) mN) ?_)
      rintro r3 s3 ⟨hs3, hr3⟩
      rw [hs3]
      rcases hr3 with ⟨_, hr3⟩ | ⟨hall3, hr3⟩
      · rw [hr3]
        simp (disch := omega) only [lit_0, lit_1, lit_2, lit_3, lit_4, lit_5, lit_6, lit_7, lit_8, lit_9, lit_10, lit_11, lit_12, lit_17, lit_20, lit_30, lit_31, lit_32, lit_47, lit_48, lit_60, lit_99, lit_100, lit_144, lit_200, lit_240, lit_300, lit_576, lit_960, lit_1008, lit_1000000, lit_100000000, true_implies, not_true_eq_false, false_implies, not_false_eq_true, true_and, and_true, neg_1, nI_add, pk_mul, nI_clamp, le_nI, lt_nI, eq_nI, vp_nI, nI_NN, NN_nI, NN_lt, NN_le, lt_NN, le_NN]
        repeat' (first | refine Rn_and (by first | omega | assumption) ?_ | refine Rn_pos (by first | omega | assumption) ?_ | refine Rn_neg (by first | omega | assumption) ?_ | refine Rn_pos' (by first | omega | assumption) ?_ | refine Rn_neg' (by first | omega | assumption) ?_ | fail)
        refine Rn_cI ?_
        exact ⟨r2, sm1, hm2, hk1⟩
      · exact absurd ((hco t t2).symm.trans t3) (hall3 t t1 t2)
    · rw [hr]
      simp (disch := omega) only [lit_0, lit_1, lit_2, lit_3, lit_4, lit_5, lit_6, lit_7, lit_8, lit_9, lit_10, lit_11, lit_12, lit_17, lit_20, lit_30, lit_31, lit_32, lit_47, lit_48, lit_60, lit_99, lit_100, lit_144, lit_200, lit_240, lit_300, lit_576, lit_960, lit_1008, lit_1000000, lit_100000000, true_implies, not_true_eq_false, false_implies, not_false_eq_true, true_and, and_true, neg_1, nI_add, pk_mul, nI_clamp, le_nI, lt_nI, eq_nI, vp_nI, nI_NN, NN_nI, NN_lt, NN_le, lt_NN, le_NN]
      repeat' (first | refine Rn_and (by first | omega | assumption) ?_ | refine Rn_pos (by first | omega | assumption) ?_ | refine Rn_neg (by first | omega | assumption) ?_ | refine Rn_pos' (by first | omega | assumption) ?_ | refine Rn_neg' (by first | omega | assumption) ?_ | fail)
      have ihk := ih (k + 1) σx σm v (by omega) R0
      refine Rn_mono ihk ?_
      rintro rx sx hm0
      have hm2 := Rn_mono hm0 (P' := fun rm sm => ∃ y, (rx = some (ai y) ∧ LF N p k σx sx) ∧ rm = some (ai y) ∧ RelW κ (fun _ => True) sx sm P W F G C N D B w l) (by
        rintro rm sm ⟨y, ⟨e, hL⟩, e2, R2⟩
        exact ⟨y, ⟨e, LF_up hL⟩, e2, R2⟩)
      refine Rn_map (fun Q => x_X8_lock_48) ?_
      simp (disch := omega) only [lit_0, lit_1, lit_2, lit_3, lit_4, lit_5, lit_6, lit_7, lit_8, lit_9, lit_10, lit_11, lit_12, lit_17, lit_20, lit_30, lit_31, lit_32, lit_47, lit_48, lit_60, lit_99, lit_100, lit_144, lit_200, lit_240, lit_300, lit_576, lit_960, lit_1008, lit_1000000, lit_100000000, true_implies, not_true_eq_false, false_implies, not_false_eq_true, true_and, and_true, neg_1, nI_add, pk_mul, nI_clamp, le_nI, lt_nI, eq_nI, vp_nI, nI_NN, NN_nI, NN_lt, NN_le, lt_NN, le_NN, mF]
      repeat' (first | refine Rn_and (by first | omega | assumption) ?_ | refine Rn_pos (by first | omega | assumption) ?_ | refine Rn_neg (by first | omega | assumption) ?_ | refine Rn_pos' (by first | omega | assumption) ?_ | refine Rn_neg' (by first | omega | assumption) ?_ | fail)
      refine Rn_cI (Rn_mono (f_X8_willBeIn (by omega) (by omega) mN) ?_)
      rintro r3 s3 ⟨hs3, hr3⟩
      rw [hs3]
      rcases hr3 with ⟨⟨t, t1, t2, t3⟩, _⟩ | ⟨_, hr3⟩
      · exact absurd ((hco t t2).trans t3) (hall t t1 t2)
      · rw [hr3]
        simp (disch := omega) only [lit_0, lit_1, lit_2, lit_3, lit_4, lit_5, lit_6, lit_7, lit_8, lit_9, lit_10, lit_11, lit_12, lit_17, lit_20, lit_30, lit_31, lit_32, lit_47, lit_48, lit_60, lit_99, lit_100, lit_144, lit_200, lit_240, lit_300, lit_576, lit_960, lit_1008, lit_1000000, lit_100000000, true_implies, not_true_eq_false, false_implies, not_false_eq_true, true_and, and_true, neg_1, nI_add, pk_mul, nI_clamp, le_nI, lt_nI, eq_nI, vp_nI, nI_NN, NN_nI, NN_lt, NN_le, lt_NN, le_NN]
        repeat' (first | refine Rn_and (by first | omega | assumption) ?_ | refine Rn_pos (by first | omega | assumption) ?_ | refine Rn_neg (by first | omega | assumption) ?_ | refine Rn_pos' (by first | omega | assumption) ?_ | refine Rn_neg' (by first | omega | assumption) ?_ | fail)
        exact hm2
theorem R_again {σx σm : Mem} {dx dm : Nat} {p0 : Int32} (R : Rel κ σx σm) : Rn (fun K => CalI IX (dx + 5) S_X7_again [ar 0 0, ai p0] σx K) (fun r sx => Rn (fun K => CalI IM (dm + 5) S_X8_again [ar 30 0, ai p0] σm K) (fun r' sm => Agree κ r r' sx sm ∧ An p0 σx sx)) := by
  have R0 := R
  obtain ⟨P, W, F, G, C, N, D, B, w, l, gSc, gRef, gHrs, gLck, gWay, gFar, gDist, gShl, gCell, gHome, gKeys, gLike, gDuty, gGone, gBent, gPlan, gCost, gSeat, gMeet, gTly, gKnow, gFlt, gRow, gPln⟩ := R
  have hSc0 := gSc
  obtain ⟨⟨xP, mP, hP⟩, ⟨xW, mW, hW⟩, ⟨xF, mF, hF⟩, ⟨xG, mG, hG⟩, ⟨xC, mC, hC⟩, ⟨xN, mN, hN⟩, ⟨xD, mD, hD⟩, ⟨xB, mB, hB⟩, hpl, hb0⟩ := hSc0
  rcases ix_cases p0 F (by omega) with hf | hf | ⟨f, hf, rfl⟩
  · refine Rn_map (fun K => x_X7_again) ?_
    try simp (disch := omega) only [lit_0, lit_1, lit_2, lit_3, lit_4, lit_5, lit_6, lit_7, lit_8, lit_9, lit_10, lit_11, lit_12, lit_17, lit_20, lit_30, lit_31, lit_32, lit_47, lit_48, lit_60, lit_99, lit_100, lit_144, lit_200, lit_240, lit_300, lit_576, lit_960, lit_1008, lit_1000000, lit_100000000, true_implies, not_true_eq_false, false_implies, not_false_eq_true, true_and, and_true, neg_1, nI_add, pk_mul, nI_clamp, vp_nI, tI_lt, tI_le, tI_eq, tI_nI, tI_NN, tI_pred, xP, xW, xF, xG, xC, xN, xD, xB, pk_sub, tI_sub, Nat.add_sub_cancel_left, Nat.add_sub_cancel, wI_same]
    repeat' (first | refine Rn_and (by first | omega | assumption) ?_ | refine Rn_pos (by first | omega | assumption) ?_ | refine Rn_neg (by first | omega | assumption) ?_ | refine Rn_pos' (by first | omega | assumption) ?_ | refine Rn_neg' (by first | omega | assumption) ?_ | refine Rn_if (fun _ => ?_) (fun _ => ?_) | refine Rn_if' (fun _ => ?_) (fun _ => ?_) | fail)
    all_goals (refine Rn_ret ?_; refine Rn_map (fun K => x_X8_again) ?_)
    all_goals try simp (disch := omega) only [lit_0, lit_1, lit_2, lit_3, lit_4, lit_5, lit_6, lit_7, lit_8, lit_9, lit_10, lit_11, lit_12, lit_17, lit_20, lit_30, lit_31, lit_32, lit_47, lit_48, lit_60, lit_99, lit_100, lit_144, lit_200, lit_240, lit_300, lit_576, lit_960, lit_1008, lit_1000000, lit_100000000, true_implies, not_true_eq_false, false_implies, not_false_eq_true, true_and, and_true, neg_1, nI_add, pk_mul, nI_clamp, vp_nI, tI_lt, tI_le, tI_eq, tI_nI, tI_NN, tI_pred, mP, mW, mF, mG, mC, mN, mD, mB, pk_sub, tI_sub, Nat.add_sub_cancel_left, Nat.add_sub_cancel, wI_same]
    all_goals repeat' (first | refine Rn_and (by first | omega | assumption) ?_ | refine Rn_pos (by first | omega | assumption) ?_ | refine Rn_neg (by first | omega | assumption) ?_ | refine Rn_pos' (by first | omega | assumption) ?_ | refine Rn_neg' (by first | omega | assumption) ?_ | refine Rn_if (fun _ => ?_) (fun _ => ?_) | refine Rn_if' (fun _ => ?_) (fun _ => ?_) | fail)
    all_goals first
      | exact Rn_ret ⟨Agr rfl R0, fun i t ht h => absurd rfl h⟩
      | exact Rn_ret ⟨Agr rfl (Rel_ref R0 1), fun i t ht h => absurd rfl h⟩ | exact Rn_ret ⟨Agr rfl (Rel_ref R0 2), fun i t ht h => absurd rfl h⟩ | exact Rn_ret ⟨Agr rfl (Rel_ref R0 3), fun i t ht h => absurd rfl h⟩ | exact Rn_ret ⟨Agr rfl (Rel_ref R0 4), fun i t ht h => absurd rfl h⟩ | exact Rn_ret ⟨Agr rfl (Rel_ref R0 5), fun i t ht h => absurd rfl h⟩ | exact Rn_ret ⟨Agr rfl (Rel_ref R0 6), fun i t ht h => absurd rfl h⟩ | exact Rn_ret ⟨Agr rfl (Rel_ref R0 7), fun i t ht h => absurd rfl h⟩
      | (exfalso; omega)
  · refine Rn_map (fun K => x_X7_again) ?_
    try simp (disch := omega) only [lit_0, lit_1, lit_2, lit_3, lit_4, lit_5, lit_6, lit_7, lit_8, lit_9, lit_10, lit_11, lit_12, lit_17, lit_20, lit_30, lit_31, lit_32, lit_47, lit_48, lit_60, lit_99, lit_100, lit_144, lit_200, lit_240, lit_300, lit_576, lit_960, lit_1008, lit_1000000, lit_100000000, true_implies, not_true_eq_false, false_implies, not_false_eq_true, true_and, and_true, neg_1, nI_add, pk_mul, nI_clamp, vp_nI, tI_lt, tI_le, tI_eq, tI_nI, tI_NN, tI_pred, xP, xW, xF, xG, xC, xN, xD, xB, pk_sub, tI_sub, Nat.add_sub_cancel_left, Nat.add_sub_cancel, wI_same]
    repeat' (first | refine Rn_and (by first | omega | assumption) ?_ | refine Rn_pos (by first | omega | assumption) ?_ | refine Rn_neg (by first | omega | assumption) ?_ | refine Rn_pos' (by first | omega | assumption) ?_ | refine Rn_neg' (by first | omega | assumption) ?_ | refine Rn_if (fun _ => ?_) (fun _ => ?_) | refine Rn_if' (fun _ => ?_) (fun _ => ?_) | fail)
    all_goals (refine Rn_ret ?_; refine Rn_map (fun K => x_X8_again) ?_)
    all_goals try simp (disch := omega) only [lit_0, lit_1, lit_2, lit_3, lit_4, lit_5, lit_6, lit_7, lit_8, lit_9, lit_10, lit_11, lit_12, lit_17, lit_20, lit_30, lit_31, lit_32, lit_47, lit_48, lit_60, lit_99, lit_100, lit_144, lit_200, lit_240, lit_300, lit_576, lit_960, lit_1008, lit_1000000, lit_100000000, true_implies, not_true_eq_false, false_implies, not_false_eq_true, true_and, and_true, neg_1, nI_add, pk_mul, nI_clamp, vp_nI, tI_lt, tI_le, tI_eq, tI_nI, tI_NN, tI_pred, mP, mW, mF, mG, mC, mN, mD, mB, pk_sub, tI_sub, Nat.add_sub_cancel_left, Nat.add_sub_cancel, wI_same]
    all_goals repeat' (first | refine Rn_and (by first | omega | assumption) ?_ | refine Rn_pos (by first | omega | assumption) ?_ | refine Rn_neg (by first | omega | assumption) ?_ | refine Rn_pos' (by first | omega | assumption) ?_ | refine Rn_neg' (by first | omega | assumption) ?_ | refine Rn_if (fun _ => ?_) (fun _ => ?_) | refine Rn_if' (fun _ => ?_) (fun _ => ?_) | fail)
    all_goals first
      | exact Rn_ret ⟨Agr rfl R0, fun i t ht h => absurd rfl h⟩
      | exact Rn_ret ⟨Agr rfl (Rel_ref R0 1), fun i t ht h => absurd rfl h⟩ | exact Rn_ret ⟨Agr rfl (Rel_ref R0 2), fun i t ht h => absurd rfl h⟩ | exact Rn_ret ⟨Agr rfl (Rel_ref R0 3), fun i t ht h => absurd rfl h⟩ | exact Rn_ret ⟨Agr rfl (Rel_ref R0 4), fun i t ht h => absurd rfl h⟩ | exact Rn_ret ⟨Agr rfl (Rel_ref R0 5), fun i t ht h => absurd rfl h⟩ | exact Rn_ret ⟨Agr rfl (Rel_ref R0 6), fun i t ht h => absurd rfl h⟩ | exact Rn_ret ⟨Agr rfl (Rel_ref R0 7), fun i t ht h => absurd rfl h⟩
      | (exfalso; omega)
  · rcases (gGone f (by omega)).2 with eg | eg
    all_goals have egx := (gGone f (by omega)).1.trans eg
    · by_cases hB0 : B = 0
      · refine Rn_map (fun K => x_X7_again) ?_
        try simp (disch := omega) only [lit_0, lit_1, lit_2, lit_3, lit_4, lit_5, lit_6, lit_7, lit_8, lit_9, lit_10, lit_11, lit_12, lit_17, lit_20, lit_30, lit_31, lit_32, lit_47, lit_48, lit_60, lit_99, lit_100, lit_144, lit_200, lit_240, lit_300, lit_576, lit_960, lit_1008, lit_1000000, lit_100000000, true_implies, not_true_eq_false, false_implies, not_false_eq_true, true_and, and_true, neg_1, nI_add, pk_mul, nI_clamp, vp_nI, tI_lt, tI_le, tI_eq, tI_nI, tI_NN, tI_pred, xP, xW, xF, xG, xC, xN, xD, xB, egx, pk_sub, tI_sub, Nat.add_sub_cancel_left, Nat.add_sub_cancel, wI_same]
        repeat' (first | refine Rn_and (by first | omega | assumption) ?_ | refine Rn_pos (by first | omega | assumption) ?_ | refine Rn_neg (by first | omega | assumption) ?_ | refine Rn_pos' (by first | omega | assumption) ?_ | refine Rn_neg' (by first | omega | assumption) ?_ | refine Rn_if (fun _ => ?_) (fun _ => ?_) | refine Rn_if' (fun _ => ?_) (fun _ => ?_) | fail)
        all_goals (refine Rn_ret ?_; refine Rn_map (fun K => x_X8_again) ?_)
        all_goals try simp (disch := omega) only [lit_0, lit_1, lit_2, lit_3, lit_4, lit_5, lit_6, lit_7, lit_8, lit_9, lit_10, lit_11, lit_12, lit_17, lit_20, lit_30, lit_31, lit_32, lit_47, lit_48, lit_60, lit_99, lit_100, lit_144, lit_200, lit_240, lit_300, lit_576, lit_960, lit_1008, lit_1000000, lit_100000000, true_implies, not_true_eq_false, false_implies, not_false_eq_true, true_and, and_true, neg_1, nI_add, pk_mul, nI_clamp, vp_nI, tI_lt, tI_le, tI_eq, tI_nI, tI_NN, tI_pred, mP, mW, mF, mG, mC, mN, mD, mB, eg, pk_sub, tI_sub, Nat.add_sub_cancel_left, Nat.add_sub_cancel, wI_same]
        all_goals repeat' (first | refine Rn_and (by first | omega | assumption) ?_ | refine Rn_pos (by first | omega | assumption) ?_ | refine Rn_neg (by first | omega | assumption) ?_ | refine Rn_pos' (by first | omega | assumption) ?_ | refine Rn_neg' (by first | omega | assumption) ?_ | refine Rn_if (fun _ => ?_) (fun _ => ?_) | refine Rn_if' (fun _ => ?_) (fun _ => ?_) | fail)
        all_goals first
          | exact Rn_ret ⟨Agr rfl R0, fun i t ht h => absurd rfl h⟩
          | exact Rn_ret ⟨Agr rfl (Rel_ref R0 1), fun i t ht h => absurd rfl h⟩ | exact Rn_ret ⟨Agr rfl (Rel_ref R0 2), fun i t ht h => absurd rfl h⟩ | exact Rn_ret ⟨Agr rfl (Rel_ref R0 3), fun i t ht h => absurd rfl h⟩ | exact Rn_ret ⟨Agr rfl (Rel_ref R0 4), fun i t ht h => absurd rfl h⟩ | exact Rn_ret ⟨Agr rfl (Rel_ref R0 5), fun i t ht h => absurd rfl h⟩ | exact Rn_ret ⟨Agr rfl (Rel_ref R0 6), fun i t ht h => absurd rfl h⟩ | exact Rn_ret ⟨Agr rfl (Rel_ref R0 7), fun i t ht h => absurd rfl h⟩
          | (exfalso; omega)
      · have RW := RelW_of (show RelAt κ σx σm P W F G C N D B w l from ⟨gSc, gRef, gHrs, gLck, gWay, gFar, gDist, gShl, gCell, gHome, gKeys, gLike, gDuty, gGone, gBent, gPlan, gCost, gSeat, gMeet, gTly, gKnow, gFlt, gRow, gPln⟩) (by omega)
        refine Rn_map (fun K => x_X7_again) ?_
        simp (disch := omega) only [lit_0, lit_1, lit_2, lit_3, lit_4, lit_5, lit_6, lit_7, lit_8, lit_9, lit_10, lit_11, lit_12, lit_17, lit_20, lit_30, lit_31, lit_32, lit_47, lit_48, lit_60, lit_99, lit_100, lit_144, lit_200, lit_240, lit_300, lit_576, lit_960, lit_1008, lit_1000000, lit_100000000, true_implies, not_true_eq_false, false_implies, not_false_eq_true, true_and, and_true, neg_1, nI_add, pk_mul, nI_clamp, vp_nI, tI_lt, tI_le, tI_eq, tI_nI, tI_NN, tI_pred, xP, xW, xF, xG, xC, xN, xD, xB, egx]
        repeat' (first | refine Rn_and (by first | omega | assumption) ?_ | refine Rn_pos (by first | omega | assumption) ?_ | refine Rn_neg (by first | omega | assumption) ?_ | refine Rn_pos' (by first | omega | assumption) ?_ | refine Rn_neg' (by first | omega | assumption) ?_ | fail)
        refine Rn_mono (R_replan (dm := dm) RW hf (by omega) eg (Or.inr trivial)) ?_
        rintro rx sx hm
        refine Rn_map (fun K => x_X8_again) ?_
        simp (disch := omega) only [lit_0, lit_1, lit_2, lit_3, lit_4, lit_5, lit_6, lit_7, lit_8, lit_9, lit_10, lit_11, lit_12, lit_17, lit_20, lit_30, lit_31, lit_32, lit_47, lit_48, lit_60, lit_99, lit_100, lit_144, lit_200, lit_240, lit_300, lit_576, lit_960, lit_1008, lit_1000000, lit_100000000, true_implies, not_true_eq_false, false_implies, not_false_eq_true, true_and, and_true, neg_1, nI_add, pk_mul, nI_clamp, vp_nI, tI_lt, tI_le, tI_eq, tI_nI, tI_NN, tI_pred, mP, mW, mF, mG, mC, mN, mD, mB, eg, tI_pred]
        repeat' (first | refine Rn_and (by first | omega | assumption) ?_ | refine Rn_pos (by first | omega | assumption) ?_ | refine Rn_neg (by first | omega | assumption) ?_ | refine Rn_pos' (by first | omega | assumption) ?_ | refine Rn_neg' (by first | omega | assumption) ?_ | fail)
        refine Rn_mono hm ?_
        rintro rm sm ⟨e, ⟨_, hPF⟩, R1⟩
        exact ⟨Agr e ⟨_, _, _, _, _, _, _, _, _, _, (RelW_to R1 (fun _ _ _ => Or.inl trivial))⟩, An_of (a := σx) hPF xN (by omega)⟩
    · refine Rn_map (fun K => x_X7_again) ?_
      try simp (disch := omega) only [lit_0, lit_1, lit_2, lit_3, lit_4, lit_5, lit_6, lit_7, lit_8, lit_9, lit_10, lit_11, lit_12, lit_17, lit_20, lit_30, lit_31, lit_32, lit_47, lit_48, lit_60, lit_99, lit_100, lit_144, lit_200, lit_240, lit_300, lit_576, lit_960, lit_1008, lit_1000000, lit_100000000, true_implies, not_true_eq_false, false_implies, not_false_eq_true, true_and, and_true, neg_1, nI_add, pk_mul, nI_clamp, vp_nI, tI_lt, tI_le, tI_eq, tI_nI, tI_NN, tI_pred, xP, xW, xF, xG, xC, xN, xD, xB, egx, pk_sub, tI_sub, Nat.add_sub_cancel_left, Nat.add_sub_cancel, wI_same]
      repeat' (first | refine Rn_and (by first | omega | assumption) ?_ | refine Rn_pos (by first | omega | assumption) ?_ | refine Rn_neg (by first | omega | assumption) ?_ | refine Rn_pos' (by first | omega | assumption) ?_ | refine Rn_neg' (by first | omega | assumption) ?_ | refine Rn_if (fun _ => ?_) (fun _ => ?_) | refine Rn_if' (fun _ => ?_) (fun _ => ?_) | fail)
      all_goals (refine Rn_ret ?_; refine Rn_map (fun K => x_X8_again) ?_)
      all_goals try simp (disch := omega) only [lit_0, lit_1, lit_2, lit_3, lit_4, lit_5, lit_6, lit_7, lit_8, lit_9, lit_10, lit_11, lit_12, lit_17, lit_20, lit_30, lit_31, lit_32, lit_47, lit_48, lit_60, lit_99, lit_100, lit_144, lit_200, lit_240, lit_300, lit_576, lit_960, lit_1008, lit_1000000, lit_100000000, true_implies, not_true_eq_false, false_implies, not_false_eq_true, true_and, and_true, neg_1, nI_add, pk_mul, nI_clamp, vp_nI, tI_lt, tI_le, tI_eq, tI_nI, tI_NN, tI_pred, mP, mW, mF, mG, mC, mN, mD, mB, eg, pk_sub, tI_sub, Nat.add_sub_cancel_left, Nat.add_sub_cancel, wI_same]
      all_goals repeat' (first | refine Rn_and (by first | omega | assumption) ?_ | refine Rn_pos (by first | omega | assumption) ?_ | refine Rn_neg (by first | omega | assumption) ?_ | refine Rn_pos' (by first | omega | assumption) ?_ | refine Rn_neg' (by first | omega | assumption) ?_ | refine Rn_if (fun _ => ?_) (fun _ => ?_) | refine Rn_if' (fun _ => ?_) (fun _ => ?_) | fail)
      all_goals first
        | exact Rn_ret ⟨Agr rfl R0, fun i t ht h => absurd rfl h⟩
        | exact Rn_ret ⟨Agr rfl (Rel_ref R0 1), fun i t ht h => absurd rfl h⟩ | exact Rn_ret ⟨Agr rfl (Rel_ref R0 2), fun i t ht h => absurd rfl h⟩ | exact Rn_ret ⟨Agr rfl (Rel_ref R0 3), fun i t ht h => absurd rfl h⟩ | exact Rn_ret ⟨Agr rfl (Rel_ref R0 4), fun i t ht h => absurd rfl h⟩ | exact Rn_ret ⟨Agr rfl (Rel_ref R0 5), fun i t ht h => absurd rfl h⟩ | exact Rn_ret ⟨Agr rfl (Rel_ref R0 6), fun i t ht h => absurd rfl h⟩ | exact Rn_ret ⟨Agr rfl (Rel_ref R0 7), fun i t ht h => absurd rfl h⟩
        | (exfalso; omega)

theorem R_bend {σx σm : Mem} {dx dm : Nat} {p0 p1 p2 p3 : Int32} (R : Rel κ σx σm) : Rn (fun K => CalI IX (dx + 5) S_X7_bend [ar 0 0, ai p0, ai p1, ai p2, ai p3] σx K) (fun r sx => Rn (fun K => CalI IM (dm + 5) S_X8_bend [ar 30 0, ai p0, ai p1, ai p2, ai p3] σm K) (fun r' sm => Agree κ r r' sx sm ∧ An p0 σx sx)) := by
  have R0 := R
  obtain ⟨P, W, F, G, C, N, D, B, w, l, gSc, gRef, gHrs, gLck, gWay, gFar, gDist, gShl, gCell, gHome, gKeys, gLike, gDuty, gGone, gBent, gPlan, gCost, gSeat, gMeet, gTly, gKnow, gFlt, gRow, gPln⟩ := R
  have hSc0 := gSc
  obtain ⟨⟨xP, mP, hP⟩, ⟨xW, mW, hW⟩, ⟨xF, mF, hF⟩, ⟨xG, mG, hG⟩, ⟨xC, mC, hC⟩, ⟨xN, mN, hN⟩, ⟨xD, mD, hD⟩, ⟨xB, mB, hB⟩, hpl, hb0⟩ := hSc0
  rcases ix_cases p0 F (by omega) with hf | hf | ⟨f, hf, rfl⟩
  · refine Rn_map (fun K => x_X7_bend) ?_
    try simp (disch := omega) only [lit_0, lit_1, lit_2, lit_3, lit_4, lit_5, lit_6, lit_7, lit_8, lit_9, lit_10, lit_11, lit_12, lit_17, lit_20, lit_30, lit_31, lit_32, lit_47, lit_48, lit_60, lit_99, lit_100, lit_144, lit_200, lit_240, lit_300, lit_576, lit_960, lit_1008, lit_1000000, lit_100000000, true_implies, not_true_eq_false, false_implies, not_false_eq_true, true_and, and_true, neg_1, nI_add, pk_mul, nI_clamp, vp_nI, tI_lt, tI_le, tI_eq, tI_nI, tI_NN, tI_pred, xP, xW, xF, xG, xC, xN, xD, xB, pk_sub, tI_sub, Nat.add_sub_cancel_left, Nat.add_sub_cancel, wI_same]
    repeat' (first | refine Rn_and (by first | omega | assumption) ?_ | refine Rn_pos (by first | omega | assumption) ?_ | refine Rn_neg (by first | omega | assumption) ?_ | refine Rn_pos' (by first | omega | assumption) ?_ | refine Rn_neg' (by first | omega | assumption) ?_ | refine Rn_if (fun _ => ?_) (fun _ => ?_) | refine Rn_if' (fun _ => ?_) (fun _ => ?_) | fail)
    all_goals (refine Rn_ret ?_; refine Rn_map (fun K => x_X8_bend) ?_)
    all_goals try simp (disch := omega) only [lit_0, lit_1, lit_2, lit_3, lit_4, lit_5, lit_6, lit_7, lit_8, lit_9, lit_10, lit_11, lit_12, lit_17, lit_20, lit_30, lit_31, lit_32, lit_47, lit_48, lit_60, lit_99, lit_100, lit_144, lit_200, lit_240, lit_300, lit_576, lit_960, lit_1008, lit_1000000, lit_100000000, true_implies, not_true_eq_false, false_implies, not_false_eq_true, true_and, and_true, neg_1, nI_add, pk_mul, nI_clamp, vp_nI, tI_lt, tI_le, tI_eq, tI_nI, tI_NN, tI_pred, mP, mW, mF, mG, mC, mN, mD, mB, pk_sub, tI_sub, Nat.add_sub_cancel_left, Nat.add_sub_cancel, wI_same]
    all_goals repeat' (first | refine Rn_and (by first | omega | assumption) ?_ | refine Rn_pos (by first | omega | assumption) ?_ | refine Rn_neg (by first | omega | assumption) ?_ | refine Rn_pos' (by first | omega | assumption) ?_ | refine Rn_neg' (by first | omega | assumption) ?_ | refine Rn_if (fun _ => ?_) (fun _ => ?_) | refine Rn_if' (fun _ => ?_) (fun _ => ?_) | fail)
    all_goals first
      | exact Rn_ret ⟨Agr rfl R0, fun i t ht h => absurd rfl h⟩
      | exact Rn_ret ⟨Agr rfl (Rel_ref R0 1), fun i t ht h => absurd rfl h⟩ | exact Rn_ret ⟨Agr rfl (Rel_ref R0 2), fun i t ht h => absurd rfl h⟩ | exact Rn_ret ⟨Agr rfl (Rel_ref R0 3), fun i t ht h => absurd rfl h⟩ | exact Rn_ret ⟨Agr rfl (Rel_ref R0 4), fun i t ht h => absurd rfl h⟩ | exact Rn_ret ⟨Agr rfl (Rel_ref R0 5), fun i t ht h => absurd rfl h⟩ | exact Rn_ret ⟨Agr rfl (Rel_ref R0 6), fun i t ht h => absurd rfl h⟩ | exact Rn_ret ⟨Agr rfl (Rel_ref R0 7), fun i t ht h => absurd rfl h⟩
      | (exfalso; omega)
  · refine Rn_map (fun K => x_X7_bend) ?_
    try simp (disch := omega) only [lit_0, lit_1, lit_2, lit_3, lit_4, lit_5, lit_6, lit_7, lit_8, lit_9, lit_10, lit_11, lit_12, lit_17, lit_20, lit_30, lit_31, lit_32, lit_47, lit_48, lit_60, lit_99, lit_100, lit_144, lit_200, lit_240, lit_300, lit_576, lit_960, lit_1008, lit_1000000, lit_100000000, true_implies, not_true_eq_false, false_implies, not_false_eq_true, true_and, and_true, neg_1, nI_add, pk_mul, nI_clamp, vp_nI, tI_lt, tI_le, tI_eq, tI_nI, tI_NN, tI_pred, xP, xW, xF, xG, xC, xN, xD, xB, pk_sub, tI_sub, Nat.add_sub_cancel_left, Nat.add_sub_cancel, wI_same]
    repeat' (first | refine Rn_and (by first | omega | assumption) ?_ | refine Rn_pos (by first | omega | assumption) ?_ | refine Rn_neg (by first | omega | assumption) ?_ | refine Rn_pos' (by first | omega | assumption) ?_ | refine Rn_neg' (by first | omega | assumption) ?_ | refine Rn_if (fun _ => ?_) (fun _ => ?_) | refine Rn_if' (fun _ => ?_) (fun _ => ?_) | fail)
    all_goals (refine Rn_ret ?_; refine Rn_map (fun K => x_X8_bend) ?_)
    all_goals try simp (disch := omega) only [lit_0, lit_1, lit_2, lit_3, lit_4, lit_5, lit_6, lit_7, lit_8, lit_9, lit_10, lit_11, lit_12, lit_17, lit_20, lit_30, lit_31, lit_32, lit_47, lit_48, lit_60, lit_99, lit_100, lit_144, lit_200, lit_240, lit_300, lit_576, lit_960, lit_1008, lit_1000000, lit_100000000, true_implies, not_true_eq_false, false_implies, not_false_eq_true, true_and, and_true, neg_1, nI_add, pk_mul, nI_clamp, vp_nI, tI_lt, tI_le, tI_eq, tI_nI, tI_NN, tI_pred, mP, mW, mF, mG, mC, mN, mD, mB, pk_sub, tI_sub, Nat.add_sub_cancel_left, Nat.add_sub_cancel, wI_same]
    all_goals repeat' (first | refine Rn_and (by first | omega | assumption) ?_ | refine Rn_pos (by first | omega | assumption) ?_ | refine Rn_neg (by first | omega | assumption) ?_ | refine Rn_pos' (by first | omega | assumption) ?_ | refine Rn_neg' (by first | omega | assumption) ?_ | refine Rn_if (fun _ => ?_) (fun _ => ?_) | refine Rn_if' (fun _ => ?_) (fun _ => ?_) | fail)
    all_goals first
      | exact Rn_ret ⟨Agr rfl R0, fun i t ht h => absurd rfl h⟩
      | exact Rn_ret ⟨Agr rfl (Rel_ref R0 1), fun i t ht h => absurd rfl h⟩ | exact Rn_ret ⟨Agr rfl (Rel_ref R0 2), fun i t ht h => absurd rfl h⟩ | exact Rn_ret ⟨Agr rfl (Rel_ref R0 3), fun i t ht h => absurd rfl h⟩ | exact Rn_ret ⟨Agr rfl (Rel_ref R0 4), fun i t ht h => absurd rfl h⟩ | exact Rn_ret ⟨Agr rfl (Rel_ref R0 5), fun i t ht h => absurd rfl h⟩ | exact Rn_ret ⟨Agr rfl (Rel_ref R0 6), fun i t ht h => absurd rfl h⟩ | exact Rn_ret ⟨Agr rfl (Rel_ref R0 7), fun i t ht h => absurd rfl h⟩
      | (exfalso; omega)
  · rcases (gGone f (by omega)).2 with eg | eg
    all_goals have egx := (gGone f (by omega)).1.trans eg
    · rcases ix_cases p1 P (by omega) with hp | hp | ⟨p, hp, rfl⟩
      · refine Rn_map (fun K => x_X7_bend) ?_
        try simp (disch := omega) only [lit_0, lit_1, lit_2, lit_3, lit_4, lit_5, lit_6, lit_7, lit_8, lit_9, lit_10, lit_11, lit_12, lit_17, lit_20, lit_30, lit_31, lit_32, lit_47, lit_48, lit_60, lit_99, lit_100, lit_144, lit_200, lit_240, lit_300, lit_576, lit_960, lit_1008, lit_1000000, lit_100000000, true_implies, not_true_eq_false, false_implies, not_false_eq_true, true_and, and_true, neg_1, nI_add, pk_mul, nI_clamp, vp_nI, tI_lt, tI_le, tI_eq, tI_nI, tI_NN, tI_pred, xP, xW, xF, xG, xC, xN, xD, xB, egx, pk_sub, tI_sub, Nat.add_sub_cancel_left, Nat.add_sub_cancel, wI_same]
        repeat' (first | refine Rn_and (by first | omega | assumption) ?_ | refine Rn_pos (by first | omega | assumption) ?_ | refine Rn_neg (by first | omega | assumption) ?_ | refine Rn_pos' (by first | omega | assumption) ?_ | refine Rn_neg' (by first | omega | assumption) ?_ | refine Rn_if (fun _ => ?_) (fun _ => ?_) | refine Rn_if' (fun _ => ?_) (fun _ => ?_) | fail)
        all_goals (refine Rn_ret ?_; refine Rn_map (fun K => x_X8_bend) ?_)
        all_goals try simp (disch := omega) only [lit_0, lit_1, lit_2, lit_3, lit_4, lit_5, lit_6, lit_7, lit_8, lit_9, lit_10, lit_11, lit_12, lit_17, lit_20, lit_30, lit_31, lit_32, lit_47, lit_48, lit_60, lit_99, lit_100, lit_144, lit_200, lit_240, lit_300, lit_576, lit_960, lit_1008, lit_1000000, lit_100000000, true_implies, not_true_eq_false, false_implies, not_false_eq_true, true_and, and_true, neg_1, nI_add, pk_mul, nI_clamp, vp_nI, tI_lt, tI_le, tI_eq, tI_nI, tI_NN, tI_pred, mP, mW, mF, mG, mC, mN, mD, mB, eg, pk_sub, tI_sub, Nat.add_sub_cancel_left, Nat.add_sub_cancel, wI_same]
        all_goals repeat' (first | refine Rn_and (by first | omega | assumption) ?_ | refine Rn_pos (by first | omega | assumption) ?_ | refine Rn_neg (by first | omega | assumption) ?_ | refine Rn_pos' (by first | omega | assumption) ?_ | refine Rn_neg' (by first | omega | assumption) ?_ | refine Rn_if (fun _ => ?_) (fun _ => ?_) | refine Rn_if' (fun _ => ?_) (fun _ => ?_) | fail)
        all_goals first
          | exact Rn_ret ⟨Agr rfl R0, fun i t ht h => absurd rfl h⟩
          | exact Rn_ret ⟨Agr rfl (Rel_ref R0 1), fun i t ht h => absurd rfl h⟩ | exact Rn_ret ⟨Agr rfl (Rel_ref R0 2), fun i t ht h => absurd rfl h⟩ | exact Rn_ret ⟨Agr rfl (Rel_ref R0 3), fun i t ht h => absurd rfl h⟩ | exact Rn_ret ⟨Agr rfl (Rel_ref R0 4), fun i t ht h => absurd rfl h⟩ | exact Rn_ret ⟨Agr rfl (Rel_ref R0 5), fun i t ht h => absurd rfl h⟩ | exact Rn_ret ⟨Agr rfl (Rel_ref R0 6), fun i t ht h => absurd rfl h⟩ | exact Rn_ret ⟨Agr rfl (Rel_ref R0 7), fun i t ht h => absurd rfl h⟩
          | (exfalso; omega)
      · refine Rn_map (fun K => x_X7_bend) ?_
        try simp (disch := omega) only [lit_0, lit_1, lit_2, lit_3, lit_4, lit_5, lit_6, lit_7, lit_8, lit_9, lit_10, lit_11, lit_12, lit_17, lit_20, lit_30, lit_31, lit_32, lit_47, lit_48, lit_60, lit_99, lit_100, lit_144, lit_200, lit_240, lit_300, lit_576, lit_960, lit_1008, lit_1000000, lit_100000000, true_implies, not_true_eq_false, false_implies, not_false_eq_true, true_and, and_true, neg_1, nI_add, pk_mul, nI_clamp, vp_nI, tI_lt, tI_le, tI_eq, tI_nI, tI_NN, tI_pred, xP, xW, xF, xG, xC, xN, xD, xB, egx, pk_sub, tI_sub, Nat.add_sub_cancel_left, Nat.add_sub_cancel, wI_same]
        repeat' (first | refine Rn_and (by first | omega | assumption) ?_ | refine Rn_pos (by first | omega | assumption) ?_ | refine Rn_neg (by first | omega | assumption) ?_ | refine Rn_pos' (by first | omega | assumption) ?_ | refine Rn_neg' (by first | omega | assumption) ?_ | refine Rn_if (fun _ => ?_) (fun _ => ?_) | refine Rn_if' (fun _ => ?_) (fun _ => ?_) | fail)
        all_goals (refine Rn_ret ?_; refine Rn_map (fun K => x_X8_bend) ?_)
        all_goals try simp (disch := omega) only [lit_0, lit_1, lit_2, lit_3, lit_4, lit_5, lit_6, lit_7, lit_8, lit_9, lit_10, lit_11, lit_12, lit_17, lit_20, lit_30, lit_31, lit_32, lit_47, lit_48, lit_60, lit_99, lit_100, lit_144, lit_200, lit_240, lit_300, lit_576, lit_960, lit_1008, lit_1000000, lit_100000000, true_implies, not_true_eq_false, false_implies, not_false_eq_true, true_and, and_true, neg_1, nI_add, pk_mul, nI_clamp, vp_nI, tI_lt, tI_le, tI_eq, tI_nI, tI_NN, tI_pred, mP, mW, mF, mG, mC, mN, mD, mB, eg, pk_sub, tI_sub, Nat.add_sub_cancel_left, Nat.add_sub_cancel, wI_same]
        all_goals repeat' (first | refine Rn_and (by first | omega | assumption) ?_ | refine Rn_pos (by first | omega | assumption) ?_ | refine Rn_neg (by first | omega | assumption) ?_ | refine Rn_pos' (by first | omega | assumption) ?_ | refine Rn_neg' (by first | omega | assumption) ?_ | refine Rn_if (fun _ => ?_) (fun _ => ?_) | refine Rn_if' (fun _ => ?_) (fun _ => ?_) | fail)
        all_goals first
          | exact Rn_ret ⟨Agr rfl R0, fun i t ht h => absurd rfl h⟩
          | exact Rn_ret ⟨Agr rfl (Rel_ref R0 1), fun i t ht h => absurd rfl h⟩ | exact Rn_ret ⟨Agr rfl (Rel_ref R0 2), fun i t ht h => absurd rfl h⟩ | exact Rn_ret ⟨Agr rfl (Rel_ref R0 3), fun i t ht h => absurd rfl h⟩ | exact Rn_ret ⟨Agr rfl (Rel_ref R0 4), fun i t ht h => absurd rfl h⟩ | exact Rn_ret ⟨Agr rfl (Rel_ref R0 5), fun i t ht h => absurd rfl h⟩ | exact Rn_ret ⟨Agr rfl (Rel_ref R0 6), fun i t ht h => absurd rfl h⟩ | exact Rn_ret ⟨Agr rfl (Rel_ref R0 7), fun i t ht h => absurd rfl h⟩
          | (exfalso; omega)
      · by_cases hs : (0 ≤ p2.toInt ∧ p2.toInt < p3.toInt ∧ p3.toInt ≤ 48)
        · by_cases hB0 : B = 0
          · refine Rn_map (fun K => x_X7_bend) ?_
            try simp (disch := omega) only [lit_0, lit_1, lit_2, lit_3, lit_4, lit_5, lit_6, lit_7, lit_8, lit_9, lit_10, lit_11, lit_12, lit_17, lit_20, lit_30, lit_31, lit_32, lit_47, lit_48, lit_60, lit_99, lit_100, lit_144, lit_200, lit_240, lit_300, lit_576, lit_960, lit_1008, lit_1000000, lit_100000000, true_implies, not_true_eq_false, false_implies, not_false_eq_true, true_and, and_true, neg_1, nI_add, pk_mul, nI_clamp, vp_nI, tI_lt, tI_le, tI_eq, tI_nI, tI_NN, tI_pred, xP, xW, xF, xG, xC, xN, xD, xB, egx, pk_sub, tI_sub, Nat.add_sub_cancel_left, Nat.add_sub_cancel, wI_same]
            repeat' (first | refine Rn_and (by first | omega | assumption) ?_ | refine Rn_pos (by first | omega | assumption) ?_ | refine Rn_neg (by first | omega | assumption) ?_ | refine Rn_pos' (by first | omega | assumption) ?_ | refine Rn_neg' (by first | omega | assumption) ?_ | refine Rn_if (fun _ => ?_) (fun _ => ?_) | refine Rn_if' (fun _ => ?_) (fun _ => ?_) | fail)
            all_goals (refine Rn_ret ?_; refine Rn_map (fun K => x_X8_bend) ?_)
            all_goals try simp (disch := omega) only [lit_0, lit_1, lit_2, lit_3, lit_4, lit_5, lit_6, lit_7, lit_8, lit_9, lit_10, lit_11, lit_12, lit_17, lit_20, lit_30, lit_31, lit_32, lit_47, lit_48, lit_60, lit_99, lit_100, lit_144, lit_200, lit_240, lit_300, lit_576, lit_960, lit_1008, lit_1000000, lit_100000000, true_implies, not_true_eq_false, false_implies, not_false_eq_true, true_and, and_true, neg_1, nI_add, pk_mul, nI_clamp, vp_nI, tI_lt, tI_le, tI_eq, tI_nI, tI_NN, tI_pred, mP, mW, mF, mG, mC, mN, mD, mB, eg, pk_sub, tI_sub, Nat.add_sub_cancel_left, Nat.add_sub_cancel, wI_same]
            all_goals repeat' (first | refine Rn_and (by first | omega | assumption) ?_ | refine Rn_pos (by first | omega | assumption) ?_ | refine Rn_neg (by first | omega | assumption) ?_ | refine Rn_pos' (by first | omega | assumption) ?_ | refine Rn_neg' (by first | omega | assumption) ?_ | refine Rn_if (fun _ => ?_) (fun _ => ?_) | refine Rn_if' (fun _ => ?_) (fun _ => ?_) | fail)
            all_goals first
              | exact Rn_ret ⟨Agr rfl R0, fun i t ht h => absurd rfl h⟩
              | exact Rn_ret ⟨Agr rfl (Rel_ref R0 1), fun i t ht h => absurd rfl h⟩ | exact Rn_ret ⟨Agr rfl (Rel_ref R0 2), fun i t ht h => absurd rfl h⟩ | exact Rn_ret ⟨Agr rfl (Rel_ref R0 3), fun i t ht h => absurd rfl h⟩ | exact Rn_ret ⟨Agr rfl (Rel_ref R0 4), fun i t ht h => absurd rfl h⟩ | exact Rn_ret ⟨Agr rfl (Rel_ref R0 5), fun i t ht h => absurd rfl h⟩ | exact Rn_ret ⟨Agr rfl (Rel_ref R0 6), fun i t ht h => absurd rfl h⟩ | exact Rn_ret ⟨Agr rfl (Rel_ref R0 7), fun i t ht h => absurd rfl h⟩
              | (exfalso; omega)
          · obtain ⟨a, ha, e1⟩ := of_tI (x := p2) (n := 48) (by omega) (by omega)
            obtain ⟨b, hb, e2⟩ := of_tI (x := p3) (n := 49) (by omega) (by omega)
            have e1' := congrArg Int32.toInt e1
            have e2' := congrArg Int32.toInt e2
            rw [nI_toInt (by omega)] at e1' e2'
            have h9 : ∀ u j, j ≠ 9 → j ≠ 8 → j ≠ 7 → j ≠ 12 → (wI (wI (wI (wI σx 9 f 12 (nI 1)) 9 f 7 (nI p)) 9 f 8 p2) 9 f 9 p3).1 9 u j = σx.1 9 u j := fun u j h1 h2 h3 h4 => by rw [wI_j h1, wI_j h2, wI_j h3, wI_j h4]
            have RW : RelW κ (fun _ => True) (wI (wI (wI (wI σx 9 f 12 (nI 1)) 9 f 7 (nI p)) 9 f 8 p2) 9 f 9 p3) (wI (wI (wI (wI σm 44 0 f (nI 1)) 45 0 (3 * f) (nI p)) 45 0 (3 * f + 1) p2) 45 0 (3 * f + 2) p3) P W F G C N D B w l := by
              have RW0 := RelW_of (show RelAt κ σx σm P W F G C N D B w l from ⟨gSc, gRef, gHrs, gLck, gWay, gFar, gDist, gShl, gCell, gHome, gKeys, gLike, gDuty, gGone, gBent, gPlan, gCost, gSeat, gMeet, gTly, gKnow, gFlt, gRow, gPln⟩) (by omega)
              obtain ⟨_, _, _, _, _, _, _, _, _, _, _, _, _, _, _, _, _, _, _, _, _, _, _, gPl1, gWel⟩ := RW0
              refine ⟨gSc, gRef, gHrs, gLck, gWay, gFar, gDist, gShl, gCell, (GHome_c (fun _ => h9 _ _ (by omega) (by omega) (by omega) (by omega)) gHome), (GKeys_c (fun _ => h9 _ _ (by omega) (by omega) (by omega) (by omega)) gKeys), gLike, (GDuty_c (fun _ => h9 _ _ (by omega) (by omega) (by omega) (by omega)) gDuty), (GGone_c (fun _ => h9 _ _ (by omega) (by omega) (by omega) (by omega)) gGone), ?_, gPlan, (GCost_c (fun _ => h9 _ _ (by omega) (by omega) (by omega) (by omega)) gCost), gSeat, gMeet, gTly, (GKnow_c (fun _ => h9 _ _ (by omega) (by omega) (by omega) (by omega)) gKnow), gFlt, gRow, gPl1, gWel⟩
              intro u hu
              have gu := gBent u hu
              by_cases h : u = f
              · subst h
                refine ⟨by simp [wI_r], Or.inr ⟨by simp [wI_r], p, a, b, hp, by omega, by omega, ?_, ?_, ?_, ?_, ?_, ?_⟩⟩ <;> simp [wI_r, e1, e2]
              · have z0 : 3 * u ≠ 3 * f := by omega
                have k9 : ∀ j, (wI (wI (wI (wI σx 9 f 12 (nI 1)) 9 f 7 (nI p)) 9 f 8 p2) 9 f 9 p3).1 9 u j = σx.1 9 u j := by
                  intro j
                  simp [wI_r, h]
                have k44 : (wI (wI (wI (wI σm 44 0 f (nI 1)) 45 0 (3 * f) (nI p)) 45 0 (3 * f + 1) p2) 45 0 (3 * f + 2) p3).1 44 0 u = σm.1 44 0 u := by
                  simp [wI_r, h]
                have k45 : ∀ i, i < 3 → (wI (wI (wI (wI σm 44 0 f (nI 1)) 45 0 (3 * f) (nI p)) 45 0 (3 * f + 1) p2) 45 0 (3 * f + 2) p3).1 45 0 (3 * u + i) = σm.1 45 0 (3 * u + i) := by
                  intro i hi
                  have d0 : 3 * u + i ≠ 3 * f := by omega
                  have d1 : 3 * u + i ≠ 3 * f + 1 := by omega
                  have d2 : 3 * u + i ≠ 3 * f + 2 := by omega
                  simp [wI_r, d0, d1, d2]
                have k450 := k45 0 (by omega)
                simp only [Nat.add_zero] at k450
                rw [k9, k9, k9, k9, k44, k450, k45 1 (by omega), k45 2 (by omega)]
                exact gu
            refine Rn_map (fun K => x_X7_bend) ?_
            simp (disch := omega) only [lit_0, lit_1, lit_2, lit_3, lit_4, lit_5, lit_6, lit_7, lit_8, lit_9, lit_10, lit_11, lit_12, lit_17, lit_20, lit_30, lit_31, lit_32, lit_47, lit_48, lit_60, lit_99, lit_100, lit_144, lit_200, lit_240, lit_300, lit_576, lit_960, lit_1008, lit_1000000, lit_100000000, true_implies, not_true_eq_false, false_implies, not_false_eq_true, true_and, and_true, neg_1, nI_add, pk_mul, nI_clamp, vp_nI, tI_lt, tI_le, tI_eq, tI_nI, tI_NN, tI_pred, xP, xW, xF, xG, xC, xN, xD, xB, egx]
            repeat' (first | refine Rn_and (by first | omega | assumption) ?_ | refine Rn_pos (by first | omega | assumption) ?_ | refine Rn_neg (by first | omega | assumption) ?_ | refine Rn_pos' (by first | omega | assumption) ?_ | refine Rn_neg' (by first | omega | assumption) ?_ | fail)
            refine Rn_mono (R_replan (dm := dm) RW hf (by omega) eg (Or.inr trivial)) ?_
            rintro rx sx hm
            refine Rn_map (fun K => x_X8_bend) ?_
            simp (disch := omega) only [lit_0, lit_1, lit_2, lit_3, lit_4, lit_5, lit_6, lit_7, lit_8, lit_9, lit_10, lit_11, lit_12, lit_17, lit_20, lit_30, lit_31, lit_32, lit_47, lit_48, lit_60, lit_99, lit_100, lit_144, lit_200, lit_240, lit_300, lit_576, lit_960, lit_1008, lit_1000000, lit_100000000, true_implies, not_true_eq_false, false_implies, not_false_eq_true, true_and, and_true, neg_1, nI_add, pk_mul, nI_clamp, vp_nI, tI_lt, tI_le, tI_eq, tI_nI, tI_NN, tI_pred, mP, mW, mF, mG, mC, mN, mD, mB, eg, tI_pred]
            repeat' (first | refine Rn_and (by first | omega | assumption) ?_ | refine Rn_pos (by first | omega | assumption) ?_ | refine Rn_neg (by first | omega | assumption) ?_ | refine Rn_pos' (by first | omega | assumption) ?_ | refine Rn_neg' (by first | omega | assumption) ?_ | fail)
            refine Rn_mono hm ?_
            rintro rm sm ⟨e, ⟨_, hPF⟩, R1⟩
            exact ⟨Agr e ⟨_, _, _, _, _, _, _, _, _, _, (RelW_to R1 (fun _ _ _ => Or.inl trivial))⟩, An_of (a := σx) hPF xN (by omega)⟩
        · rcases (by omega : p2.toInt < 0 ∨ (0 ≤ p2.toInt ∧ p3.toInt ≤ p2.toInt) ∨ (0 ≤ p2.toInt ∧ p2.toInt < p3.toInt ∧ 48 < p3.toInt)) with hs | hs | hs
          all_goals (
            refine Rn_map (fun K => x_X7_bend) ?_
            try simp (disch := omega) only [lit_0, lit_1, lit_2, lit_3, lit_4, lit_5, lit_6, lit_7, lit_8, lit_9, lit_10, lit_11, lit_12, lit_17, lit_20, lit_30, lit_31, lit_32, lit_47, lit_48, lit_60, lit_99, lit_100, lit_144, lit_200, lit_240, lit_300, lit_576, lit_960, lit_1008, lit_1000000, lit_100000000, true_implies, not_true_eq_false, false_implies, not_false_eq_true, true_and, and_true, neg_1, nI_add, pk_mul, nI_clamp, vp_nI, tI_lt, tI_le, tI_eq, tI_nI, tI_NN, tI_pred, xP, xW, xF, xG, xC, xN, xD, xB, egx, pk_sub, tI_sub, Nat.add_sub_cancel_left, Nat.add_sub_cancel, wI_same]
            repeat' (first | refine Rn_and (by first | omega | assumption) ?_ | refine Rn_pos (by first | omega | assumption) ?_ | refine Rn_neg (by first | omega | assumption) ?_ | refine Rn_pos' (by first | omega | assumption) ?_ | refine Rn_neg' (by first | omega | assumption) ?_ | refine Rn_if (fun _ => ?_) (fun _ => ?_) | refine Rn_if' (fun _ => ?_) (fun _ => ?_) | fail)
            all_goals (refine Rn_ret ?_; refine Rn_map (fun K => x_X8_bend) ?_)
            all_goals try simp (disch := omega) only [lit_0, lit_1, lit_2, lit_3, lit_4, lit_5, lit_6, lit_7, lit_8, lit_9, lit_10, lit_11, lit_12, lit_17, lit_20, lit_30, lit_31, lit_32, lit_47, lit_48, lit_60, lit_99, lit_100, lit_144, lit_200, lit_240, lit_300, lit_576, lit_960, lit_1008, lit_1000000, lit_100000000, true_implies, not_true_eq_false, false_implies, not_false_eq_true, true_and, and_true, neg_1, nI_add, pk_mul, nI_clamp, vp_nI, tI_lt, tI_le, tI_eq, tI_nI, tI_NN, tI_pred, mP, mW, mF, mG, mC, mN, mD, mB, eg, pk_sub, tI_sub, Nat.add_sub_cancel_left, Nat.add_sub_cancel, wI_same]
            all_goals repeat' (first | refine Rn_and (by first | omega | assumption) ?_ | refine Rn_pos (by first | omega | assumption) ?_ | refine Rn_neg (by first | omega | assumption) ?_ | refine Rn_pos' (by first | omega | assumption) ?_ | refine Rn_neg' (by first | omega | assumption) ?_ | refine Rn_if (fun _ => ?_) (fun _ => ?_) | refine Rn_if' (fun _ => ?_) (fun _ => ?_) | fail)
            all_goals first
              | exact Rn_ret ⟨Agr rfl R0, fun i t ht h => absurd rfl h⟩
              | exact Rn_ret ⟨Agr rfl (Rel_ref R0 1), fun i t ht h => absurd rfl h⟩ | exact Rn_ret ⟨Agr rfl (Rel_ref R0 2), fun i t ht h => absurd rfl h⟩ | exact Rn_ret ⟨Agr rfl (Rel_ref R0 3), fun i t ht h => absurd rfl h⟩ | exact Rn_ret ⟨Agr rfl (Rel_ref R0 4), fun i t ht h => absurd rfl h⟩ | exact Rn_ret ⟨Agr rfl (Rel_ref R0 5), fun i t ht h => absurd rfl h⟩ | exact Rn_ret ⟨Agr rfl (Rel_ref R0 6), fun i t ht h => absurd rfl h⟩ | exact Rn_ret ⟨Agr rfl (Rel_ref R0 7), fun i t ht h => absurd rfl h⟩
              | (exfalso; omega))
    · refine Rn_map (fun K => x_X7_bend) ?_
      try simp (disch := omega) only [lit_0, lit_1, lit_2, lit_3, lit_4, lit_5, lit_6, lit_7, lit_8, lit_9, lit_10, lit_11, lit_12, lit_17, lit_20, lit_30, lit_31, lit_32, lit_47, lit_48, lit_60, lit_99, lit_100, lit_144, lit_200, lit_240, lit_300, lit_576, lit_960, lit_1008, lit_1000000, lit_100000000, true_implies, not_true_eq_false, false_implies, not_false_eq_true, true_and, and_true, neg_1, nI_add, pk_mul, nI_clamp, vp_nI, tI_lt, tI_le, tI_eq, tI_nI, tI_NN, tI_pred, xP, xW, xF, xG, xC, xN, xD, xB, egx, pk_sub, tI_sub, Nat.add_sub_cancel_left, Nat.add_sub_cancel, wI_same]
      repeat' (first | refine Rn_and (by first | omega | assumption) ?_ | refine Rn_pos (by first | omega | assumption) ?_ | refine Rn_neg (by first | omega | assumption) ?_ | refine Rn_pos' (by first | omega | assumption) ?_ | refine Rn_neg' (by first | omega | assumption) ?_ | refine Rn_if (fun _ => ?_) (fun _ => ?_) | refine Rn_if' (fun _ => ?_) (fun _ => ?_) | fail)
      all_goals (refine Rn_ret ?_; refine Rn_map (fun K => x_X8_bend) ?_)
      all_goals try simp (disch := omega) only [lit_0, lit_1, lit_2, lit_3, lit_4, lit_5, lit_6, lit_7, lit_8, lit_9, lit_10, lit_11, lit_12, lit_17, lit_20, lit_30, lit_31, lit_32, lit_47, lit_48, lit_60, lit_99, lit_100, lit_144, lit_200, lit_240, lit_300, lit_576, lit_960, lit_1008, lit_1000000, lit_100000000, true_implies, not_true_eq_false, false_implies, not_false_eq_true, true_and, and_true, neg_1, nI_add, pk_mul, nI_clamp, vp_nI, tI_lt, tI_le, tI_eq, tI_nI, tI_NN, tI_pred, mP, mW, mF, mG, mC, mN, mD, mB, eg, pk_sub, tI_sub, Nat.add_sub_cancel_left, Nat.add_sub_cancel, wI_same]
      all_goals repeat' (first | refine Rn_and (by first | omega | assumption) ?_ | refine Rn_pos (by first | omega | assumption) ?_ | refine Rn_neg (by first | omega | assumption) ?_ | refine Rn_pos' (by first | omega | assumption) ?_ | refine Rn_neg' (by first | omega | assumption) ?_ | refine Rn_if (fun _ => ?_) (fun _ => ?_) | refine Rn_if' (fun _ => ?_) (fun _ => ?_) | fail)
      all_goals first
        | exact Rn_ret ⟨Agr rfl R0, fun i t ht h => absurd rfl h⟩
        | exact Rn_ret ⟨Agr rfl (Rel_ref R0 1), fun i t ht h => absurd rfl h⟩ | exact Rn_ret ⟨Agr rfl (Rel_ref R0 2), fun i t ht h => absurd rfl h⟩ | exact Rn_ret ⟨Agr rfl (Rel_ref R0 3), fun i t ht h => absurd rfl h⟩ | exact Rn_ret ⟨Agr rfl (Rel_ref R0 4), fun i t ht h => absurd rfl h⟩ | exact Rn_ret ⟨Agr rfl (Rel_ref R0 5), fun i t ht h => absurd rfl h⟩ | exact Rn_ret ⟨Agr rfl (Rel_ref R0 6), fun i t ht h => absurd rfl h⟩ | exact Rn_ret ⟨Agr rfl (Rel_ref R0 7), fun i t ht h => absurd rfl h⟩
        | (exfalso; omega)

theorem R_lock {σx σm : Mem} {dx dm : Nat} {p0 p1 : Int32} (R : Rel κ σx σm) (h2 : p1 = nI 0 ∨ p1 = nI 1) : Rn (fun K => CalI IX (dx + 6) S_X7_lock [ar 0 0, ai p0, ai p1] σx K) (fun r sx => Rn (fun K => CalI IM (dm + 5) S_X8_lock [ar 30 0, ai p0, ai p1] σm K) (fun r' sm => Agree κ r r' sx sm ∧ Ln p0 σx sx)) := by
  have R0 := R
  obtain ⟨P, W, F, G, C, N, D, B, w, l, gSc, gRef, gHrs, gLck, gWay, gFar, gDist, gShl, gCell, gHome, gKeys, gLike, gDuty, gGone, gBent, gPlan, gCost, gSeat, gMeet, gTly, gKnow, gFlt, gRow, gPln⟩ := R
  have hSc0 := gSc
  obtain ⟨⟨xP, mP, hP⟩, ⟨xW, mW, hW⟩, ⟨xF, mF, hF⟩, ⟨xG, mG, hG⟩, ⟨xC, mC, hC⟩, ⟨xN, mN, hN⟩, ⟨xD, mD, hD⟩, ⟨xB, mB, hB⟩, hpl, hb0⟩ := hSc0
  rcases ix_cases p0 P (by omega) with hp | hp | ⟨p, hp, rfl⟩
  · refine Rn_map (fun K => x_X7_lock) ?_
    try simp (disch := omega) only [lit_0, lit_1, lit_2, lit_3, lit_4, lit_5, lit_6, lit_7, lit_8, lit_9, lit_10, lit_11, lit_12, lit_17, lit_20, lit_30, lit_31, lit_32, lit_47, lit_48, lit_60, lit_99, lit_100, lit_144, lit_200, lit_240, lit_300, lit_576, lit_960, lit_1008, lit_1000000, lit_100000000, true_implies, not_true_eq_false, false_implies, not_false_eq_true, true_and, and_true, neg_1, nI_add, pk_mul, nI_clamp, vp_nI, tI_lt, tI_le, tI_eq, tI_nI, tI_NN, tI_pred, xP, xW, xF, xG, xC, xN, xD, xB, pk_sub, tI_sub, Nat.add_sub_cancel_left, Nat.add_sub_cancel, wI_same]
    repeat' (first | refine Rn_and (by first | omega | assumption) ?_ | refine Rn_pos (by first | omega | assumption) ?_ | refine Rn_neg (by first | omega | assumption) ?_ | refine Rn_pos' (by first | omega | assumption) ?_ | refine Rn_neg' (by first | omega | assumption) ?_ | refine Rn_if (fun _ => ?_) (fun _ => ?_) | refine Rn_if' (fun _ => ?_) (fun _ => ?_) | fail)
    all_goals (refine Rn_ret ?_; refine Rn_map (fun K => x_X8_lock) ?_)
    all_goals try simp (disch := omega) only [lit_0, lit_1, lit_2, lit_3, lit_4, lit_5, lit_6, lit_7, lit_8, lit_9, lit_10, lit_11, lit_12, lit_17, lit_20, lit_30, lit_31, lit_32, lit_47, lit_48, lit_60, lit_99, lit_100, lit_144, lit_200, lit_240, lit_300, lit_576, lit_960, lit_1008, lit_1000000, lit_100000000, true_implies, not_true_eq_false, false_implies, not_false_eq_true, true_and, and_true, neg_1, nI_add, pk_mul, nI_clamp, vp_nI, tI_lt, tI_le, tI_eq, tI_nI, tI_NN, tI_pred, mP, mW, mF, mG, mC, mN, mD, mB, pk_sub, tI_sub, Nat.add_sub_cancel_left, Nat.add_sub_cancel, wI_same]
    all_goals repeat' (first | refine Rn_and (by first | omega | assumption) ?_ | refine Rn_pos (by first | omega | assumption) ?_ | refine Rn_neg (by first | omega | assumption) ?_ | refine Rn_pos' (by first | omega | assumption) ?_ | refine Rn_neg' (by first | omega | assumption) ?_ | refine Rn_if (fun _ => ?_) (fun _ => ?_) | refine Rn_if' (fun _ => ?_) (fun _ => ?_) | fail)
    all_goals first
      | exact Rn_ret ⟨Agr rfl R0, fun i t ht h => absurd rfl h⟩
      | exact Rn_ret ⟨Agr rfl (Rel_ref R0 1), fun i t ht h => absurd rfl h⟩ | exact Rn_ret ⟨Agr rfl (Rel_ref R0 2), fun i t ht h => absurd rfl h⟩ | exact Rn_ret ⟨Agr rfl (Rel_ref R0 3), fun i t ht h => absurd rfl h⟩ | exact Rn_ret ⟨Agr rfl (Rel_ref R0 4), fun i t ht h => absurd rfl h⟩ | exact Rn_ret ⟨Agr rfl (Rel_ref R0 5), fun i t ht h => absurd rfl h⟩ | exact Rn_ret ⟨Agr rfl (Rel_ref R0 6), fun i t ht h => absurd rfl h⟩ | exact Rn_ret ⟨Agr rfl (Rel_ref R0 7), fun i t ht h => absurd rfl h⟩
      | (exfalso; omega)
  · refine Rn_map (fun K => x_X7_lock) ?_
    try simp (disch := omega) only [lit_0, lit_1, lit_2, lit_3, lit_4, lit_5, lit_6, lit_7, lit_8, lit_9, lit_10, lit_11, lit_12, lit_17, lit_20, lit_30, lit_31, lit_32, lit_47, lit_48, lit_60, lit_99, lit_100, lit_144, lit_200, lit_240, lit_300, lit_576, lit_960, lit_1008, lit_1000000, lit_100000000, true_implies, not_true_eq_false, false_implies, not_false_eq_true, true_and, and_true, neg_1, nI_add, pk_mul, nI_clamp, vp_nI, tI_lt, tI_le, tI_eq, tI_nI, tI_NN, tI_pred, xP, xW, xF, xG, xC, xN, xD, xB, pk_sub, tI_sub, Nat.add_sub_cancel_left, Nat.add_sub_cancel, wI_same]
    repeat' (first | refine Rn_and (by first | omega | assumption) ?_ | refine Rn_pos (by first | omega | assumption) ?_ | refine Rn_neg (by first | omega | assumption) ?_ | refine Rn_pos' (by first | omega | assumption) ?_ | refine Rn_neg' (by first | omega | assumption) ?_ | refine Rn_if (fun _ => ?_) (fun _ => ?_) | refine Rn_if' (fun _ => ?_) (fun _ => ?_) | fail)
    all_goals (refine Rn_ret ?_; refine Rn_map (fun K => x_X8_lock) ?_)
    all_goals try simp (disch := omega) only [lit_0, lit_1, lit_2, lit_3, lit_4, lit_5, lit_6, lit_7, lit_8, lit_9, lit_10, lit_11, lit_12, lit_17, lit_20, lit_30, lit_31, lit_32, lit_47, lit_48, lit_60, lit_99, lit_100, lit_144, lit_200, lit_240, lit_300, lit_576, lit_960, lit_1008, lit_1000000, lit_100000000, true_implies, not_true_eq_false, false_implies, not_false_eq_true, true_and, and_true, neg_1, nI_add, pk_mul, nI_clamp, vp_nI, tI_lt, tI_le, tI_eq, tI_nI, tI_NN, tI_pred, mP, mW, mF, mG, mC, mN, mD, mB, pk_sub, tI_sub, Nat.add_sub_cancel_left, Nat.add_sub_cancel, wI_same]
    all_goals repeat' (first | refine Rn_and (by first | omega | assumption) ?_ | refine Rn_pos (by first | omega | assumption) ?_ | refine Rn_neg (by first | omega | assumption) ?_ | refine Rn_pos' (by first | omega | assumption) ?_ | refine Rn_neg' (by first | omega | assumption) ?_ | refine Rn_if (fun _ => ?_) (fun _ => ?_) | refine Rn_if' (fun _ => ?_) (fun _ => ?_) | fail)
    all_goals first
      | exact Rn_ret ⟨Agr rfl R0, fun i t ht h => absurd rfl h⟩
      | exact Rn_ret ⟨Agr rfl (Rel_ref R0 1), fun i t ht h => absurd rfl h⟩ | exact Rn_ret ⟨Agr rfl (Rel_ref R0 2), fun i t ht h => absurd rfl h⟩ | exact Rn_ret ⟨Agr rfl (Rel_ref R0 3), fun i t ht h => absurd rfl h⟩ | exact Rn_ret ⟨Agr rfl (Rel_ref R0 4), fun i t ht h => absurd rfl h⟩ | exact Rn_ret ⟨Agr rfl (Rel_ref R0 5), fun i t ht h => absurd rfl h⟩ | exact Rn_ret ⟨Agr rfl (Rel_ref R0 6), fun i t ht h => absurd rfl h⟩ | exact Rn_ret ⟨Agr rfl (Rel_ref R0 7), fun i t ht h => absurd rfl h⟩
      | (exfalso; omega)
  · by_cases hB0 : B = 0
    · refine Rn_map (fun K => x_X7_lock) ?_
      try simp (disch := omega) only [lit_0, lit_1, lit_2, lit_3, lit_4, lit_5, lit_6, lit_7, lit_8, lit_9, lit_10, lit_11, lit_12, lit_17, lit_20, lit_30, lit_31, lit_32, lit_47, lit_48, lit_60, lit_99, lit_100, lit_144, lit_200, lit_240, lit_300, lit_576, lit_960, lit_1008, lit_1000000, lit_100000000, true_implies, not_true_eq_false, false_implies, not_false_eq_true, true_and, and_true, neg_1, nI_add, pk_mul, nI_clamp, vp_nI, tI_lt, tI_le, tI_eq, tI_nI, tI_NN, tI_pred, xP, xW, xF, xG, xC, xN, xD, xB, pk_sub, tI_sub, Nat.add_sub_cancel_left, Nat.add_sub_cancel, wI_same]
      repeat' (first | refine Rn_and (by first | omega | assumption) ?_ | refine Rn_pos (by first | omega | assumption) ?_ | refine Rn_neg (by first | omega | assumption) ?_ | refine Rn_pos' (by first | omega | assumption) ?_ | refine Rn_neg' (by first | omega | assumption) ?_ | refine Rn_if (fun _ => ?_) (fun _ => ?_) | refine Rn_if' (fun _ => ?_) (fun _ => ?_) | fail)
      all_goals (refine Rn_ret ?_; refine Rn_map (fun K => x_X8_lock) ?_)
      all_goals try simp (disch := omega) only [lit_0, lit_1, lit_2, lit_3, lit_4, lit_5, lit_6, lit_7, lit_8, lit_9, lit_10, lit_11, lit_12, lit_17, lit_20, lit_30, lit_31, lit_32, lit_47, lit_48, lit_60, lit_99, lit_100, lit_144, lit_200, lit_240, lit_300, lit_576, lit_960, lit_1008, lit_1000000, lit_100000000, true_implies, not_true_eq_false, false_implies, not_false_eq_true, true_and, and_true, neg_1, nI_add, pk_mul, nI_clamp, vp_nI, tI_lt, tI_le, tI_eq, tI_nI, tI_NN, tI_pred, mP, mW, mF, mG, mC, mN, mD, mB, pk_sub, tI_sub, Nat.add_sub_cancel_left, Nat.add_sub_cancel, wI_same]
      all_goals repeat' (first | refine Rn_and (by first | omega | assumption) ?_ | refine Rn_pos (by first | omega | assumption) ?_ | refine Rn_neg (by first | omega | assumption) ?_ | refine Rn_pos' (by first | omega | assumption) ?_ | refine Rn_neg' (by first | omega | assumption) ?_ | refine Rn_if (fun _ => ?_) (fun _ => ?_) | refine Rn_if' (fun _ => ?_) (fun _ => ?_) | fail)
      all_goals first
        | exact Rn_ret ⟨Agr rfl R0, fun i t ht h => absurd rfl h⟩
        | exact Rn_ret ⟨Agr rfl (Rel_ref R0 1), fun i t ht h => absurd rfl h⟩ | exact Rn_ret ⟨Agr rfl (Rel_ref R0 2), fun i t ht h => absurd rfl h⟩ | exact Rn_ret ⟨Agr rfl (Rel_ref R0 3), fun i t ht h => absurd rfl h⟩ | exact Rn_ret ⟨Agr rfl (Rel_ref R0 4), fun i t ht h => absurd rfl h⟩ | exact Rn_ret ⟨Agr rfl (Rel_ref R0 5), fun i t ht h => absurd rfl h⟩ | exact Rn_ret ⟨Agr rfl (Rel_ref R0 6), fun i t ht h => absurd rfl h⟩ | exact Rn_ret ⟨Agr rfl (Rel_ref R0 7), fun i t ht h => absurd rfl h⟩
        | (exfalso; omega)
    · obtain ⟨i1, i2⟩ := gLck.1 p (by omega)
      have off : Rel κ (wI σx 0 0 13 (σx.1 0 0 13 &&& ((nI 1 <<< (nI p &&& nI 31)) ^^^ NN))) (wI σm 35 0 p (nI 0)) := by
        refine ⟨P, W, F, G, C, N, D, B, w, l, ?_, gRef, gHrs, ?_, gWay, gFar, gDist, gShl, gCell, gHome, gKeys, gLike, gDuty, gGone, gBent, gPlan, gCost, gSeat, gMeet, gTly, gKnow, gFlt, gRow, gPln⟩
        · exact ⟨⟨xP, mP, hP⟩, ⟨xW, mW, hW⟩, ⟨xF, mF, hF⟩, ⟨xG, mG, hG⟩, ⟨xC, mC, hC⟩, ⟨xN, mN, hN⟩, ⟨xD, mD, hD⟩, ⟨xB, mB, hB⟩, hpl, hb0⟩
        · refine ⟨fun q hq => ?_, fun q hq => ?_⟩
          · have g := gLck.1 q hq
            rw [wI_same, wI_r, b_and, b_xor, bt_shl (by omega), bt_NN q (by omega)]
            by_cases e : q = p
            · rw [if_pos ⟨rfl, rfl, e⟩]
              refine ⟨Or.inl rfl, ?_⟩
              simp only [e, decide_true, Bool.xor_true, Bool.not_true, Bool.and_false, Bool.false_eq_true, false_iff]
              decide
            · rw [if_neg (fun z => e z.2.2)]
              simpa [e] using g
          · rw [wI_same, b_and, gLck.2 q hq, Bool.false_and]
      have sameon : σm.1 35 0 p = nI 1 → wI σm 35 0 p (nI 1) = σm := fun h => wI_id h
      have RW : σm.1 35 0 p = nI 0 → RelW κ (fun _ => True) (wI σx 0 0 13 (σx.1 0 0 13 ||| (nI 1 <<< (nI p &&& nI 31)))) (wI σm 35 0 p (nI 1)) P W F G C N D B w l := by
        intro h35
        have RW0 := RelW_of (show RelAt κ σx σm P W F G C N D B w l from ⟨gSc, gRef, gHrs, gLck, gWay, gFar, gDist, gShl, gCell, gHome, gKeys, gLike, gDuty, gGone, gBent, gPlan, gCost, gSeat, gMeet, gTly, gKnow, gFlt, gRow, gPln⟩) (by omega)
        obtain ⟨_, _, _, _, _, _, _, _, _, _, _, _, _, _, _, _, _, _, _, _, _, _, _, gPl1, gWel⟩ := RW0
        refine ⟨?_, gRef, gHrs, ?_, gWay, gFar, gDist, gShl, gCell, gHome, gKeys, gLike, gDuty, gGone, gBent, gPlan, gCost, gSeat, gMeet, gTly, gKnow, gFlt, gRow, gPl1, gWel⟩
        · exact ⟨⟨xP, mP, hP⟩, ⟨xW, mW, hW⟩, ⟨xF, mF, hF⟩, ⟨xG, mG, hG⟩, ⟨xC, mC, hC⟩, ⟨xN, mN, hN⟩, ⟨xD, mD, hD⟩, ⟨xB, mB, hB⟩, hpl, hb0⟩
        · refine ⟨fun q hq => ?_, fun q hq => ?_⟩
          · have g := gLck.1 q hq
            rw [wI_same, wI_r, b_or, bt_shl (by omega)]
            by_cases e : q = p
            · rw [if_pos ⟨rfl, rfl, e⟩]
              simp [e]
            · rw [if_neg (fun z => e z.2.2)]
              simpa [e] using g
          · rw [wI_same, b_or, gLck.2 q hq, bt_shl (by omega)]
            simp
            omega
      have eP : nI P - nI 1 = nI (P - 1) := pk_sub (by omega)
      have h01 : (nI 0 = nI 1) = False := by simp; decide
      rcases h2 with rfl | rfl
      · by_cases hk : bt (σx.1 0 0 13) p = true
        all_goals try simp only [Bool.not_eq_true] at hk
        all_goals (
          refine Rn_map (fun K => x_X7_lock) ?_
          simp (disch := omega) only [lit_0, lit_1, lit_2, lit_3, lit_4, lit_5, lit_6, lit_7, lit_8, lit_9, lit_10, lit_11, lit_12, lit_17, lit_20, lit_30, lit_31, lit_32, lit_47, lit_48, lit_60, lit_99, lit_100, lit_144, lit_200, lit_240, lit_300, lit_576, lit_960, lit_1008, lit_1000000, lit_100000000, true_implies, not_true_eq_false, false_implies, not_false_eq_true, true_and, and_true, neg_1, nI_add, pk_mul, nI_clamp, le_nI, lt_nI, eq_nI, vp_nI, nI_NN, NN_nI, NN_lt, NN_le, lt_NN, le_NN, xP, xW, xF, xG, xC, xN, xD, xB, and_bit0, hk, Bool.true_eq_false]
          repeat' (first | refine Rn_and (by first | omega | assumption) ?_ | refine Rn_pos (by first | omega | assumption) ?_ | refine Rn_neg (by first | omega | assumption) ?_ | refine Rn_pos' (by first | omega | assumption) ?_ | refine Rn_neg' (by first | omega | assumption) ?_ | fail)
          refine Rn_ret ?_
          refine Rn_map (fun K => x_X8_lock) ?_
          simp (disch := omega) only [lit_0, lit_1, lit_2, lit_3, lit_4, lit_5, lit_6, lit_7, lit_8, lit_9, lit_10, lit_11, lit_12, lit_17, lit_20, lit_30, lit_31, lit_32, lit_47, lit_48, lit_60, lit_99, lit_100, lit_144, lit_200, lit_240, lit_300, lit_576, lit_960, lit_1008, lit_1000000, lit_100000000, true_implies, not_true_eq_false, false_implies, not_false_eq_true, true_and, and_true, neg_1, nI_add, pk_mul, nI_clamp, le_nI, lt_nI, eq_nI, vp_nI, nI_NN, NN_nI, NN_lt, NN_le, lt_NN, le_NN, mP, mW, mF, mG, mC, mN, mD, mB, eP]
          repeat' (first | refine Rn_and (by first | omega | assumption) ?_ | refine Rn_pos (by first | omega | assumption) ?_ | refine Rn_neg (by first | omega | assumption) ?_ | refine Rn_pos' (by first | omega | assumption) ?_ | refine Rn_neg' (by first | omega | assumption) ?_ | fail)
          refine Rn_and (by simp) ?_
          refine Rn_KQ (Rn_map (fun Q => x_X8_lock_48) ?_)
          simp (disch := omega) only [lit_0, lit_1, lit_2, lit_3, lit_4, lit_5, lit_6, lit_7, lit_8, lit_9, lit_10, lit_11, lit_12, lit_17, lit_20, lit_30, lit_31, lit_32, lit_47, lit_48, lit_60, lit_99, lit_100, lit_144, lit_200, lit_240, lit_300, lit_576, lit_960, lit_1008, lit_1000000, lit_100000000, true_implies, not_true_eq_false, false_implies, not_false_eq_true, true_and, and_true, neg_1, nI_add, pk_mul, nI_clamp, le_nI, lt_nI, eq_nI, vp_nI, nI_NN, NN_nI, NN_lt, NN_le, lt_NN, le_NN]
          repeat' (first | refine Rn_and (by first | omega | assumption) ?_ | refine Rn_pos (by first | omega | assumption) ?_ | refine Rn_neg (by first | omega | assumption) ?_ | refine Rn_pos' (by first | omega | assumption) ?_ | refine Rn_neg' (by first | omega | assumption) ?_ | fail)
          exact Rn_ret ⟨_, rfl, Agr rfl off, fun i t ht h => absurd rfl h⟩)
      · by_cases hk : bt (σx.1 0 0 13) p = true
        · have h35 := i2.1 hk
          refine Rn_map (fun K => x_X7_lock) ?_
          simp (disch := omega) only [lit_0, lit_1, lit_2, lit_3, lit_4, lit_5, lit_6, lit_7, lit_8, lit_9, lit_10, lit_11, lit_12, lit_17, lit_20, lit_30, lit_31, lit_32, lit_47, lit_48, lit_60, lit_99, lit_100, lit_144, lit_200, lit_240, lit_300, lit_576, lit_960, lit_1008, lit_1000000, lit_100000000, true_implies, not_true_eq_false, false_implies, not_false_eq_true, true_and, and_true, neg_1, nI_add, pk_mul, nI_clamp, le_nI, lt_nI, eq_nI, vp_nI, nI_NN, NN_nI, NN_lt, NN_le, lt_NN, le_NN, xP, xW, xF, xG, xC, xN, xD, xB, and_bit0, hk, Bool.true_eq_false]
          repeat' (first | refine Rn_and (by first | omega | assumption) ?_ | refine Rn_pos (by first | omega | assumption) ?_ | refine Rn_neg (by first | omega | assumption) ?_ | refine Rn_pos' (by first | omega | assumption) ?_ | refine Rn_neg' (by first | omega | assumption) ?_ | fail)
          refine Rn_ret ?_
          refine Rn_map (fun K => x_X8_lock) ?_
          simp (disch := omega) only [lit_0, lit_1, lit_2, lit_3, lit_4, lit_5, lit_6, lit_7, lit_8, lit_9, lit_10, lit_11, lit_12, lit_17, lit_20, lit_30, lit_31, lit_32, lit_47, lit_48, lit_60, lit_99, lit_100, lit_144, lit_200, lit_240, lit_300, lit_576, lit_960, lit_1008, lit_1000000, lit_100000000, true_implies, not_true_eq_false, false_implies, not_false_eq_true, true_and, and_true, neg_1, nI_add, pk_mul, nI_clamp, le_nI, lt_nI, eq_nI, vp_nI, nI_NN, NN_nI, NN_lt, NN_le, lt_NN, le_NN, mP, mW, mF, mG, mC, mN, mD, mB, eP, h35]
          repeat' (first | refine Rn_and (by first | omega | assumption) ?_ | refine Rn_pos (by first | omega | assumption) ?_ | refine Rn_neg (by first | omega | assumption) ?_ | refine Rn_pos' (by first | omega | assumption) ?_ | refine Rn_neg' (by first | omega | assumption) ?_ | fail)
          refine Rn_and (by simp) ?_
          refine Rn_KQ (Rn_map (fun Q => x_X8_lock_48) ?_)
          simp (disch := omega) only [lit_0, lit_1, lit_2, lit_3, lit_4, lit_5, lit_6, lit_7, lit_8, lit_9, lit_10, lit_11, lit_12, lit_17, lit_20, lit_30, lit_31, lit_32, lit_47, lit_48, lit_60, lit_99, lit_100, lit_144, lit_200, lit_240, lit_300, lit_576, lit_960, lit_1008, lit_1000000, lit_100000000, true_implies, not_true_eq_false, false_implies, not_false_eq_true, true_and, and_true, neg_1, nI_add, pk_mul, nI_clamp, le_nI, lt_nI, eq_nI, vp_nI, nI_NN, NN_nI, NN_lt, NN_le, lt_NN, le_NN]
          repeat' (first | refine Rn_and (by first | omega | assumption) ?_ | refine Rn_pos (by first | omega | assumption) ?_ | refine Rn_neg (by first | omega | assumption) ?_ | refine Rn_pos' (by first | omega | assumption) ?_ | refine Rn_neg' (by first | omega | assumption) ?_ | fail)
          refine Rn_ret ⟨_, rfl, Agr rfl ?_, fun i t ht h => absurd rfl h⟩
          rw [sameon h35]
          exact R0
        · have h35 : σm.1 35 0 p = nI 0 := i1.resolve_right (fun h => hk (i2.2 h))
          simp only [Bool.not_eq_true] at hk
          refine Rn_map (fun K => x_X7_lock) ?_
          simp (disch := omega) only [lit_0, lit_1, lit_2, lit_3, lit_4, lit_5, lit_6, lit_7, lit_8, lit_9, lit_10, lit_11, lit_12, lit_17, lit_20, lit_30, lit_31, lit_32, lit_47, lit_48, lit_60, lit_99, lit_100, lit_144, lit_200, lit_240, lit_300, lit_576, lit_960, lit_1008, lit_1000000, lit_100000000, true_implies, not_true_eq_false, false_implies, not_false_eq_true, true_and, and_true, neg_1, nI_add, pk_mul, nI_clamp, le_nI, lt_nI, eq_nI, vp_nI, nI_NN, NN_nI, NN_lt, NN_le, lt_NN, le_NN, xP, xW, xF, xG, xC, xN, xD, xB, and_bit0, hk, Bool.true_eq_false]
          repeat' (first | refine Rn_and (by first | omega | assumption) ?_ | refine Rn_pos (by first | omega | assumption) ?_ | refine Rn_neg (by first | omega | assumption) ?_ | refine Rn_pos' (by first | omega | assumption) ?_ | refine Rn_neg' (by first | omega | assumption) ?_ | fail)
          refine Rn_map (fun K => x_X7_replanThoseDueIn) (Rn_KQ ?_)
          simp (disch := omega) only [lit_0, lit_1, lit_2, lit_3, lit_4, lit_5, lit_6, lit_7, lit_8, lit_9, lit_10, lit_11, lit_12, lit_17, lit_20, lit_30, lit_31, lit_32, lit_47, lit_48, lit_60, lit_99, lit_100, lit_144, lit_200, lit_240, lit_300, lit_576, lit_960, lit_1008, lit_1000000, lit_100000000, true_implies, not_true_eq_false, false_implies, not_false_eq_true, true_and, and_true, neg_1, nI_add, pk_mul, nI_clamp, le_nI, lt_nI, eq_nI, vp_nI, nI_NN, NN_nI, NN_lt, NN_le, lt_NN, le_NN]
          refine Rn_mono (R_lockloop (dm := dm) (G := G) hp hP (by omega) hF F 0 _ _ (nI 0) (by omega) (RW h35)) ?_
          rintro rx sx hm
          have hm2 : Rn (fun K => CalI IM (dm + 5) S_X8_lock [ar 30 0, ai (nI p), ai (nI 1)] σm K) (fun y sm => (rx = some (ai y) ∧ LF N p 0 σx sx) ∧ RelW κ (fun _ => True) sx sm P W F G C N D B w l) := by
            refine Rn_map (fun K => x_X8_lock) ?_
            simp (disch := omega) only [lit_0, lit_1, lit_2, lit_3, lit_4, lit_5, lit_6, lit_7, lit_8, lit_9, lit_10, lit_11, lit_12, lit_17, lit_20, lit_30, lit_31, lit_32, lit_47, lit_48, lit_60, lit_99, lit_100, lit_144, lit_200, lit_240, lit_300, lit_576, lit_960, lit_1008, lit_1000000, lit_100000000, true_implies, not_true_eq_false, false_implies, not_false_eq_true, true_and, and_true, neg_1, nI_add, pk_mul, nI_clamp, le_nI, lt_nI, eq_nI, vp_nI, nI_NN, NN_nI, NN_lt, NN_le, lt_NN, le_NN, mP, mW, mF, mG, mC, mN, mD, mB, eP, h35]
            repeat' (first | refine Rn_and (by first | omega | assumption) ?_ | refine Rn_pos (by first | omega | assumption) ?_ | refine Rn_neg (by first | omega | assumption) ?_ | refine Rn_pos' (by first | omega | assumption) ?_ | refine Rn_neg' (by first | omega | assumption) ?_ | fail)
            refine Rn_and (by simp) ?_
            refine Rn_KQ (Rn_mono hm ?_)
            rintro rm sm ⟨y, e1, e2, R1⟩
            exact ⟨y, e2, e1, R1⟩
          obtain ⟨y, sm, ⟨⟨e1, hLF⟩, R1⟩, hk2⟩ := hm2
          exact ⟨y, e1, y, sm, ⟨Agr rfl ⟨_, _, _, _, _, _, _, _, _, _, RelW_to R1 (fun _ _ _ => trivial)⟩, Ln_of hLF xN (by omega)⟩, hk2⟩

