/-! ===== an act of the law ===== -/
def kA (P0 F0 : Nat) : Nat → Nat → Nat → Prop := fun P F _ => P = P0 ∧ F = F0
def kB (P0 F0 : Nat) : Nat → Nat → Nat → Prop := fun P F B => P = P0 ∧ F = F0 ∧ B = 0
/-- whom and which place a cell names -/
def ff (q : Int32) (F0 : Nat) : Int32 := ((q >>> ((3 : Int32) &&& 31)) &&& 7) - ((q >>> ((3 : Int32) &&& 31)) &&& 7) / nI F0 * nI F0
def pp (q : Int32) (P0 : Nat) : Int32 := ((q >>> ((6 : Int32) &&& 31)) &&& 7) - ((q >>> ((6 : Int32) &&& 31)) &&& 7) / nI P0 * nI P0
/-- what an act leaves of the plans -/
def Fr (q : Int32) (P0 F0 : Nat) (a b : Mem) : Prop := ((q &&& 7).toInt = 2 ∨ (q &&& 7).toInt = 3 ∨ (q &&& 7).toInt = 5 → An (ff q F0) a b) ∧ ((q &&& 7).toInt = 4 → Ln (pp q P0) a b)
theorem c_acts {P0 F0 : Nat} {q : Int32} {σ : Mem} {K : Mem → Prop} (hP : 0 < P0) (hF : 0 < F0) (H : Inv (kA P0 F0) σ) (h : ∀ s, Inv (kA P0 F0) s → Fr q P0 F0 σ s → K s) : CalV IX 8 S_L_acts [ar 0 0, ai q] σ K := by
  obtain ⟨P, F, N, B, ⟨e1, e2⟩, xP, hP12, xF, hF20, xN, hN⟩ := Inv_num H
  subst e1 e2
  obtain ⟨σm, R⟩ := H
  refine r_L_acts_0 (d := 7) (Q := fun v σ' => v = none ∧ K σ') ?_
  refine c_st0 (d := 5) ?_
  refine c_st2 (d := 5) ?_
  rw [xP, xF]
  refine ⟨nI_n0 hF (by omega), nI_n0 hP (by omega), fun z => ⟨fun _ => ⟨fun _ => ?_, fun _ => ?_⟩, fun _ => ?_⟩, fun z => ?_, fun z => ?_, fun z => ?_, fun z => ?_, fun z => ⟨fun _ => ?_, fun _ => ?_⟩, fun z => ?_, fun z => ?_, trivial⟩
  · exact use_R (R_key (dm := 0) R (Or.inl rfl)) (fun r sx r' sm hp => ⟨rfl, h sx ⟨sm, hp.2⟩ ⟨fun y => by omega, fun y => by omega⟩⟩)
  · exact use_R (R_key (dm := 0) R (Or.inr rfl)) (fun r sx r' sm hp => ⟨rfl, h sx ⟨sm, hp.2⟩ ⟨fun y => by omega, fun y => by omega⟩⟩)
  · exact use_R (R_gone (dm := 0) R) (fun r sx r' sm hp => ⟨rfl, h sx ⟨sm, hp.2⟩ ⟨fun y => by omega, fun y => by omega⟩⟩)
  · exact use_R (R_tick (dm := 0) R) (fun r sx r' sm hp => ⟨rfl, h sx ⟨sm, hp.2⟩ ⟨fun y => by omega, fun y => by omega⟩⟩)
  · exact use_R (R_tick (dm := 0) R) (fun r sx r' sm hp => ⟨rfl, h sx ⟨sm, hp.2⟩ ⟨fun y => by omega, fun y => by omega⟩⟩)
  · exact use_R (R_bend (dm := 0) R) (fun r sx r' sm hp => ⟨rfl, h sx ⟨sm, hp.1.2⟩ ⟨fun _ => hp.2, fun y => by omega⟩⟩)
  · exact use_R (R_bend (dm := 0) R) (fun r sx r' sm hp => ⟨rfl, h sx ⟨sm, hp.1.2⟩ ⟨fun _ => hp.2, fun y => by omega⟩⟩)
  · exact use_R (R_lock (dm := 0) R (Or.inl rfl)) (fun r sx r' sm hp => ⟨rfl, h sx ⟨sm, hp.1.2⟩ ⟨fun y => by omega, fun _ => hp.2⟩⟩)
  · exact use_R (R_lock (dm := 0) R (Or.inr rfl)) (fun r sx r' sm hp => ⟨rfl, h sx ⟨sm, hp.1.2⟩ ⟨fun y => by omega, fun _ => hp.2⟩⟩)
  · exact use_R (R_again (dm := 0) R) (fun r sx r' sm hp => ⟨rfl, h sx ⟨sm, hp.1.2⟩ ⟨fun _ => hp.2, fun y => by omega⟩⟩)
  · exact use_R (R_happen (dm := 0) R) (fun r sx r' sm hp => ⟨rfl, h sx ⟨sm, hp.2⟩ ⟨fun y => by omega, fun y => by omega⟩⟩)
