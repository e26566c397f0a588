variable {κ : Nat → Nat → Nat → Prop}
/-! ===== planning anew: both programs together ===== -/
def GPl1 (m43 m46 : Nat → Int32) (P F N B : Nat) (w : Nat → Nat → Nat) : Prop := ∀ f t, f < 20 → t < 48 → PCode P w (m46 (48 * f + t)) ∧ (B = 0 ∨ F ≤ f ∨ (m43 f = nI 1 ∧ N ≤ t) → m46 (48 * f + t) = NN)
/-- the relation, where only the plans of those in S are known to be well formed -/
def RelW (κ : Nat → Nat → Nat → Prop) (S : Nat → Prop) (σx σm : Mem) (P W F G C N D B : Nat) (w l : Nat → Nat → Nat) : Prop :=
  GSc κ (σx.1 0 0) (σx.1 1 0) (σm.1 30 0) P W F G C N D B ∧ GRef (σx.1 28 0) (σm.1 31 0) ∧ GHrs (σx.1 2 0) (σx.1 3 0) (σx.1 4 0) (σm.1 32 0) (σm.1 33 0) (σm.1 34 0) P ∧ GLck (σx.1 0 0 13) (σm.1 35 0) P ∧ GWay (σx.1 5 0) (σm.1 36 0) P w ∧ GFar (σx.1 6 0) (σm.1 37 0) P l ∧ GDist w l ∧ GShl (σx.1 7) (σm.1 57 0) (σm.1 58 0) F ∧ GCell (σx.2 8) (σm.2 59 0) ∧ GHome (σx.1 9) (σm.1 38 0) P F ∧ GKeys (σx.1 9) (σm.1 39 0) ∧ GLike (σx.1 10) (σm.1 40 0) F ∧ GDuty (σx.1 9) (σx.1 11) (σm.1 41 0) (σm.1 42 0) P ∧ GGone (σx.1 9) (σm.1 43 0) ∧ GBent (σx.1 9) (σm.1 44 0) (σm.1 45 0) P ∧ GPlan (σx.1 12) (σm.1 46 0) ∧ GCost (σx.1 9) (σm.1 47 0) ∧ GSeat (σx.1 16 0) (σm.1 48 0) ∧ GMeet (σx.1 14) (σm.1 49 0) (σm.1 50 0) P F G ∧ GTly (σx.1 14) (σm.1 51 0) (σm.1 52 0) (σm.1 53 0) ∧ GKnow (σx.1 9) (σx.1 13) (σm.1 54 0) C ∧ GFlt (σx.1 23 0) (σm.1 30 0) ∧ GRow (σx.1 21 0) ∧ GPl1 (σm.1 43 0) (σm.1 46 0) P F N B w ∧ ∀ f, f < F → S f → σm.1 43 0 f = nI 0 → PWell w (fun t => σm.1 46 0 (48 * f + t))
theorem RelW_of {σx σm : Mem} {P W F G C N D B : Nat} {w l : Nat → Nat → Nat} (h : RelAt κ σx σm P W F G C N D B w l) (hB : B = 1) : RelW κ (fun _ => True) σx σm P W F G C N D B w l := by
  obtain ⟨gSc, gRef, gHrs, gLck, gWay, gFar, gDist, gShl, gCell, gHome, gKeys, gLike, gDuty, gGone, gBent, gPlan, gCost, gSeat, gMeet, gTly, gKnow, gFlt, gRow, gPln⟩ := h
  exact ⟨gSc, gRef, gHrs, gLck, gWay, gFar, gDist, gShl, gCell, gHome, gKeys, gLike, gDuty, gGone, gBent, gPlan, gCost, gSeat, gMeet, gTly, gKnow, gFlt, gRow, gPln.1, fun f hf _ h43 => gPln.2 f hf hB h43⟩
theorem RelW_to {S : Nat → Prop} {σx σm : Mem} {P W F G C N D B : Nat} {w l : Nat → Nat → Nat} (h : RelW κ S σx σm P W F G C N D B w l) (hS : ∀ f, f < F → σm.1 43 0 f = nI 0 → S f) : RelAt κ σx σm P W F G C N D B w l := by
  obtain ⟨gSc, gRef, gHrs, gLck, gWay, gFar, gDist, gShl, gCell, gHome, gKeys, gLike, gDuty, gGone, gBent, gPlan, gCost, gSeat, gMeet, gTly, gKnow, gFlt, gRow, gPl1, gWel⟩ := h
  exact ⟨gSc, gRef, gHrs, gLck, gWay, gFar, gDist, gShl, gCell, gHome, gKeys, gLike, gDuty, gGone, gBent, gPlan, gCost, gSeat, gMeet, gTly, gKnow, gFlt, gRow, gPl1, fun f hf _ h43 => gWel f hf (hS f hf h43) h43⟩
theorem cS_bd {a b : Nat → Nat} {v : Nat → Int32} {on : Nat → Bool} {n t : Nat} (h : ∀ k, k < n → ∃ m, m ≤ 100 ∧ v k = nI m) : ∃ m, m ≤ 100 * n ∧ cS a b v on n t = nI m := by
  induction n with
  | zero => exact ⟨0, by omega, rfl⟩
  | succ k ih =>
    obtain ⟨m, h1, h2⟩ := ih (fun j hj => h j (by omega))
    obtain ⟨x, h3, h4⟩ := h k (by omega)
    rw [cS, h2, h4]
    split
    · exact ⟨m + x, by omega, nI_add _ _⟩
    · exact ⟨m, by omega, add_nI0 _⟩
theorem sS_bd {p a b : Nat → Nat} {v : Nat → Int32} {on : Nat → Bool} {n q t : Nat} (h : ∀ k, k < n → ∃ m, m ≤ 100 ∧ v k = nI m) : ∃ m, m ≤ 100 * n ∧ sS p a b v on n q t = nI m := by
  induction n with
  | zero => exact ⟨0, by omega, rfl⟩
  | succ k ih =>
    obtain ⟨m, h1, h2⟩ := ih (fun j hj => h j (by omega))
    obtain ⟨x, h3, h4⟩ := h k (by omega)
    rw [sS, h2, h4]
    split
    · exact ⟨m + x, by omega, nI_add _ _⟩
    · exact ⟨m, by omega, add_nI0 _⟩
theorem fX6_o {σ : Mem} {f N z p0 : Nat} {c : Nat → Int32} {s : Nat → Nat → Int32} {ow L C : Nat → Int32} {ch w : Nat → Nat → Nat} {T : Int32} {k i j : Nat} (h0 : k ≠ 0 ∨ j ≠ 12) (h12 : k ≠ 12) (h16 : k ≠ 16) (h18 : k ≠ 18) (h19 : k ≠ 19) (h20 : k ≠ 20) (h21 : k ≠ 21) (h22 : k ≠ 22) (h9 : k ≠ 9 ∨ j ≠ 10) : (fX6 σ f N z p0 c s ow L C ch w T).1 k i j = σ.1 k i j := by
  rw [fX6, sK_r, if_neg h16, fX5, wI_r, if_neg (fun z => h9.elim (fun h => h z.1) (fun h => h z.2.2)), sK_r, if_neg h12, mS_o ⟨h20, h21, h22⟩, mX_o ⟨h18, h19⟩, fX1, sK_r, if_neg h16, wI_r, if_neg (fun z => h0.elim (fun h => h z.1) (fun h => h z.2.2))]
theorem sm_o {σ : Mem} {f N z : Nat} {c : Nat → Int32} {s : Nat → Nat → Int32} {L C : Nat → Int32} {pc : Nat → Nat} {T : Int32} {k i j : Nat} (h46 : k ≠ 46) (h48 : k ≠ 48) (h30 : k ≠ 30 ∨ j ≠ 4) (h61 : k ≠ 61) (h62 : k ≠ 62) (h63 : k ≠ 63) (h64 : k ≠ 64) (h47 : k ≠ 47) : (wI (wkM (mT (fM3 σ f N z c s) L C) f z pc 48) 47 0 f T).1 k i j = σ.1 k i j := by
  rw [wI_r, if_neg (fun z => h47 z.1), wkM_o ⟨h46, h48⟩, mT_o ⟨h63, h64⟩, fM3_o h46 h48 h30 h61 h62]
theorem runs_eq {w : Nat → Nat → Nat} {co : Nat → Int32} {N b0 w0 z : Nat} {p q b t : Nat} (hN : 0 < N) (hN48 : N < 48) (hb0 : b0 ≤ N - 1) (hw0 : N - 1 < b0 + w0) (hz : z = min (b0 + w0) 48) (hrun : ∀ u, b0 ≤ u → u < 48 → u < b0 + w0 → co u = co (N - 1)) (hmx : b0 = 0 ∨ co (b0 - 1) ≠ co (N - 1)) (ht : t < z) (b1 : b ≤ t) (b2 : t < b + w p q) (b3 : ∀ u, b ≤ u → u < 48 → u < b + w p q → co u = co t) (b4 : b = 0 ∨ co (b - 1) ≠ co t) (hcov : ¬ b + w p q ≤ N - 1) : co t = co (N - 1) ∧ b = b0 := by
  have e : co t = co (N - 1) := by
    by_cases h : t ≤ N - 1
    · exact (b3 (N - 1) (by omega) (by omega) (by omega)).symm
    · exact hrun t (by omega) (by omega) (by omega)
  refine ⟨e, ?_⟩
  rcases Nat.lt_trichotomy b b0 with h | h | h
  · rcases hmx with h1 | h1
    · omega
    · exact absurd ((b3 (b0 - 1) (by omega) (by omega) (by omega)).trans e) h1
  · exact h
  · rcases b4 with h1 | h1
    · omega
    · exact absurd ((hrun (b - 1) (by omega) (by omega) (by omega)).trans e.symm) h1

