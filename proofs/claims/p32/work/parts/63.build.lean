/-! ===== the town that the law builds ===== -/
theorem and_le' (x : Int32) (k : Nat) (hk : k < 2 ^ 31) : ∃ m, m ≤ k ∧ x &&& Int32.ofNat k = nI m := and_le x hk
theorem n_25 (x : Int32) : ∃ n, 2 ≤ n ∧ n ≤ 5 ∧ 2 + (x &&& 3) = nI n := by
  obtain ⟨m, hm, e⟩ := and_le' x 3 (by omega)
  have e : x &&& 3 = nI m := e
  rw [e]
  exact ⟨2 + m, by omega, by omega, nI_add 2 m⟩
theorem m_24 (x : Int32) : ∃ n, 2 ≤ n ∧ n ≤ 4 ∧ 2 + ((x &&& 3) - (x &&& 3) / 3 * 3) = nI n := by
  obtain ⟨m, hm, e⟩ := and_le' x 3 (by omega)
  have e : x &&& 3 = nI m := e
  rw [e]
  have e2 : nI m - nI m / 3 * 3 = nI (m % 3) := irem_nI (b := 3) (by omega) (by omega)
  rw [e2]
  exact ⟨2 + m % 3, by omega, by omega, nI_add 2 _⟩
theorem h_n (x : Int32) {n : Nat} (h0 : 0 < n) (hn : n < 2 ^ 31) : ∃ h, h < n ∧ (x &&& 7) - (x &&& 7) / nI n * nI n = nI h := by
  obtain ⟨m, hm, e⟩ := and_le' x 7 (by omega)
  have e : x &&& 7 = nI m := e
  rw [e, irem_nI (by omega) hn]
  exact ⟨m % n, Nat.mod_lt _ h0, rfl⟩
theorem pl_ok (x y z : Int32) : 1 ≤ (1 + (x &&& 1)).toInt ∧ (1 + (x &&& 1)).toInt ≤ 9 ∧ 0 ≤ (y &&& 31).toInt ∧ (y &&& 31).toInt < (if ((y &&& 31) + 1) + (z &&& 63) < 48 then ((y &&& 31) + 1) + (z &&& 63) else 48).toInt ∧ (if ((y &&& 31) + 1) + (z &&& 63) < 48 then ((y &&& 31) + 1) + (z &&& 63) else 48).toInt ≤ 48 := by
  obtain ⟨a, ha, e1⟩ := and_le' x 1 (by omega)
  obtain ⟨b, hb, e2⟩ := and_le' y 31 (by omega)
  obtain ⟨c, hc, e3⟩ := and_le' z 63 (by omega)
  have e1 : x &&& 1 = nI a := e1
  have e2 : y &&& 31 = nI b := e2
  have e3 : z &&& 63 = nI c := e3
  have s1 : (1 : Int32) + nI a = nI (1 + a) := nI_add 1 a
  have s2 : nI b + 1 = nI (b + 1) := nI_add b 1
  rw [e1, e2, e3, s1, s2, nI_add, lit_48, nI_toInt (by omega), nI_toInt (by omega)]
  have hl : (nI (b + 1 + c) < nI 48) = (b + 1 + c < 48) := lt_nI (by omega) (by omega)
  by_cases h : b + 1 + c < 48
  · rw [if_pos (by rw [hl]; exact h), nI_toInt (by omega)]
    omega
  · rw [if_neg (by rw [hl]; exact h), nI_toInt (by omega)]
    omega
section Build
variable {Q : Option AV → Mem → Prop} {n : Nat}
theorem b_20 (hn2 : 2 ≤ n) (hn : n ≤ 5) (cont : ∀ σ m, Inv (kB n 0) σ → 2 ≤ m → m ≤ 4 → J IX M_L_build 8 140 [(0, ar 29 0), (1, ar 0 0), (2, ai (nI n)), (3, ai (nI m)), (4, ai 0)] [] σ Q) : ∀ k p σ, p + k = n → Inv (kB p 0) σ → J IX M_L_build 8 20 [(0, ar 29 0), (1, ar 0 0), (2, ai (nI n)), (3, ai (nI p))] [] σ Q := by
  intro k
  induction k with
  | zero =>
    intro p σ hp H
    have ep : p = n := by omega
    subst ep
    obtain ⟨σm, R⟩ := H
    refine r_L_build_20 (d := 7) ⟨fun _ => ⟨by decide, fun r2 => ?_⟩, fun z => absurd (by rw [le_nI (by omega) (by omega)]; omega) z⟩
    refine use_R (R_way (dm := 0) R) (fun r sx r' sm hp => ⟨by decide, fun r5 => ⟨by decide, ?_⟩⟩)
    obtain ⟨m, h2, h4, e⟩ := m_24 (r5 >>> ((5 : Int32) &&& 31))
    rw [e]
    exact cont sx m ⟨sm, hp.2⟩ h2 h4
  | succ k ih =>
    intro p σ hp H
    obtain ⟨σm, R⟩ := H
    have e1 : (1 : Int32) + nI p = nI (1 + p) := nI_add 1 p
    have e2 : nI p + 1 = nI (p + 1) := nI_add p 1
    refine r_L_build_20 (d := 7) ⟨fun z => absurd z (by rw [le_nI (by omega) (by omega)]; omega), fun _ => ⟨?_, fun r6 => ?_⟩⟩
    · rw [e1]
      exact nI_nlt0 (by omega)
    · refine use_R (R_place (dm := 0) (κ' := kB (p + 1) 0) R (fun P F B z => ⟨z.2.2, by have := z.1; omega, by rw [z.1], z.2.1, z.2.2⟩) (pl_ok _ _ _)) (fun r sx r' sm hq => ⟨fun _ => ?_, fun _ => ?_⟩)
      · rw [e2]
        exact ih (p + 1) sx (by omega) ⟨sm, hq.2⟩
      · refine use_R (R_way (dm := 0) hq.2) (fun r2 sx2 r2' sm2 hq2 => ?_)
        rw [e2]
        exact ih (p + 1) sx2 (by omega) ⟨sm2, hq2.2⟩
theorem b_140 {m : Nat} (hn2 : 2 ≤ n) (hn : n ≤ 5) (hm : m ≤ 4) (fin : ∀ σ, Inv (kA n m) σ → Q (some (ar 0 0)) σ) : ∀ k f σ, f + k = m → Inv (kB n f) σ → J IX M_L_build 8 140 [(0, ar 29 0), (1, ar 0 0), (2, ai (nI n)), (3, ai (nI m)), (4, ai (nI f))] [] σ Q := by
  intro k
  have hn0 : ¬ nI n = 0 := nI_n0 (by omega) (by omega)
  induction k with
  | zero =>
    intro f σ hf H
    have ef : f = m := by omega
    subst ef
    obtain ⟨σm, R⟩ := H
    refine r_L_build_140 (d := 7) ⟨fun _ => ⟨by decide, fun r11 => ⟨hn0, ?_⟩⟩, fun z => absurd (by rw [le_nI (by omega) (by omega)]; omega) z⟩
    refine use_R (R_meeting (dm := 0) R) (fun r sx r' sm hq => ?_)
    obtain ⟨sm2, R2⟩ := Inv_mono (κ' := kA n f) (fun P F B z => ⟨z.1, z.2.1⟩) (⟨sm, hq.2⟩ : Inv (kB n f) sx)
    exact use_R (R_begin (dm := 0) R2 (fun _ _ z => z)) (fun r3 sx3 r3' sm3 hq3 => fin sx3 ⟨sm3, hq3.2⟩)
  | succ k ih =>
    intro f σ hf H
    obtain ⟨σm, R⟩ := H
    have e1 : (6 : Int32) + nI f = nI (6 + f) := nI_add 6 f
    have e2 : nI f + 1 = nI (f + 1) := nI_add f 1
    refine r_L_build_140 (d := 7) ⟨fun z => absurd z (by rw [le_nI (by omega) (by omega)]; omega), fun _ => ⟨?_, fun r16 => ⟨hn0, ?_⟩⟩⟩
    · rw [e1]
      exact nI_nlt0 (by omega)
    · obtain ⟨h, hh, eh⟩ := h_n r16 (n := n) (by omega) (by omega)
      refine use_R (R_folk (dm := 0) (κ' := kB n (f + 1)) R (fun P F B z => ⟨z.2.2, by have := z.2.1; omega, ⟨h, by rw [z.1]; exact hh, eh⟩, z.1, by rw [z.2.1], z.2.2⟩)) (fun r sx r' sm hq => ⟨hn0, fun _ => ?_, fun _ => ?_⟩)
      all_goals (
        first
          | refine use_R (R_key (dm := 0) hq.2 (Or.inl rfl)) (fun _ sx1 _ sm1 q1 => ?_)
          | refine use_R (R_key (dm := 0) hq.2 (Or.inr rfl)) (fun _ sx1 _ sm1 q1 => ?_)
        refine use_R (R_row (dm := 0) q1.2) (fun _ sx2 _ sm2 q2 => ⟨hn0, ?_⟩)
        refine use_R (R_set (dm := 0) q2.2) (fun _ sx3 _ sm3 q3 => ?_)
        refine use_R (R_set (dm := 0) q3.2) (fun _ sx4 _ sm4 q4 => ?_)
        refine use_R (R_set (dm := 0) q4.2) (fun _ sx5 _ sm5 q5 => ?_)
        refine use_R (R_set (dm := 0) q5.2) (fun _ sx6 _ sm6 q6 => ?_)
        refine use_R (R_duties (dm := 0) q6.2) (fun _ sx7 _ sm7 q7 => ?_)
        rw [e2]
        exact ih (f + 1) sx7 (by omega) ⟨sm7, q7.2⟩)
end Build
/-- what build() leaves: its object's town, with two to five places, two to four folk -/
def Qb (v : Option AV) (σ : Mem) : Prop := v = some (ar 0 0) ∧ ∃ P0 F0, 0 < P0 ∧ P0 ≤ 12 ∧ 0 < F0 ∧ F0 ≤ 4 ∧ Inv (kA P0 F0) σ
theorem b_all : J IX M_L_build 8 8 [(0, ar 29 0), (1, ar 0 0)] [] mem0X Qb := by
  refine r_L_build_8 (d := 7) ⟨by decide, fun r1 => ?_⟩
  obtain ⟨n, h2, h5, e⟩ := n_25 r1
  rw [e]
  refine b_20 (Q := Qb) h2 h5 (fun σ m H m2 m4 => ?_) n 0 mem0X (by omega) ⟨mem1M, R_init ⟨rfl, rfl, rfl⟩⟩
  exact b_140 h2 h5 m4 (fun σ' H' => ⟨rfl, n, m, by omega, by omega, by omega, m4, H'⟩) m 0 σ (by omega) H
