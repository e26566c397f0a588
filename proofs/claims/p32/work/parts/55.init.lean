variable {κ : Nat → Nat → Nat → Prop}
/-! ===== the two programs, as they are made ===== -/
def w0 (_ _ : Nat) : Nat := 1000000
def l0 (a b : Nat) : Nat := if a = b then 0 else 1000000
theorem shf_8 : ∀ s, s < 8 → shf 8 s = NN := by decide +kernel
theorem R_init (hκ : κ 0 0 0) : Rel κ mem0X mem1M := by
  have e36 : ∀ j, j < 144 → mem1M.1 36 0 j = nI 1000000 := fun j hj => if_pos ⟨rfl, hj⟩
  have e37 : ∀ j, j < 144 → mem1M.1 37 0 j = if j / 12 = j % 12 then nI 0 else nI 1000000 := fun j hj => if_pos ⟨rfl, hj⟩
  have e54 : ∀ j, j < 240 → mem1M.1 54 0 j = NN := fun j hj => if_pos ⟨rfl, hj⟩
  have e46 : ∀ j, j < 960 → mem1M.1 46 0 j = NN := fun j hj => if_pos ⟨rfl, hj⟩
  refine ⟨0, 0, 0, 0, 0, 0, 0, 0, w0, l0, ?_, ?_, ?_, ?_, ?_, ?_, ?_, ?_, ?_, ?_, ?_, ?_, ?_, ?_, ?_, ?_, ?_, ?_, ?_, ?_, ?_, ?_, ?_, ?_⟩
  · exact ⟨⟨rfl, rfl, by omega⟩, ⟨rfl, rfl, by omega⟩, ⟨rfl, rfl, by omega⟩, ⟨rfl, rfl, by omega⟩, ⟨rfl, rfl, by omega⟩, ⟨rfl, rfl, by omega⟩, ⟨rfl, rfl, by omega⟩, ⟨rfl, rfl, by omega⟩, rfl, ⟨fun _ => ⟨rfl, rfl⟩, hκ⟩⟩
  · intro j; rfl
  · intro p hp; omega
  · refine ⟨fun p hp => ⟨Or.inl rfl, ?_⟩, fun p hp => b_0 p⟩
    rw [show mem0X.1 0 0 13 = 0 from rfl, b_0, show mem1M.1 35 0 p = nI 0 from rfl]
    decide
  · intro a b ha hb
    exact ⟨e36 _ (by omega), rfl, Or.inl rfl, rfl⟩
  · refine ⟨fun a b ha hb => ⟨?_, ?_, fun _ => rfl⟩, fun a b ha => by omega⟩
    · rw [e37 _ (by omega), l0]
      by_cases h : a = b
      · rw [if_pos (by omega), if_pos h]
      · rw [if_neg (by omega), if_neg h]
    · rw [l0]
      by_cases h : a = b
      · rw [if_pos h]; omega
      · rw [if_neg h]; omega
  · refine ⟨fun a ha => if_pos rfl, fun a b c ha hb hc => ?_, fun a b ha hb => ?_, fun a b ha hb hab hl => ?_⟩
    · unfold l0
      repeat' split
      all_goals omega
    · unfold l0 w0
      split <;> omega
    · rw [l0, if_neg hab] at hl
      omega
  · intro s hs
    exact Or.inl ⟨rfl, rfl, rfl, shf_8 s hs⟩
  · intro s i hs hi; rfl
  · intro f hf; omega
  · intro f hf; rfl
  · refine ⟨fun f p hf => by omega, fun f p _ hf hp => ?_⟩
    show (bif Nat.blt p 12 then (5 : Int32) else _) = nI 5
    rw [show Nat.blt p 12 = true from Nat.ble_eq_true_of_le hp]
    rfl
  · intro f hf
    exact ⟨0, by omega, rfl, rfl, fun i hi => rfl, fun k hk => by omega⟩
  · intro f hf
    exact ⟨rfl, Or.inl rfl⟩
  · intro f hf
    exact ⟨rfl, Or.inl rfl⟩
  · intro f t hf ht
    rw [e46 _ (by omega)]
    show (bif Nat.blt t 48 then (-1 : Int32) else _) = NN
    rw [show Nat.blt t 48 = true from Nat.ble_eq_true_of_le ht]
    rfl
  · intro f hf; rfl
  · intro j hj; rfl
  · intro g hg; omega
  · intro g hg
    exact ⟨rfl, rfl, rfl⟩
  · intro f k hf hk
    refine ⟨fun h => ?_, fun _ => e54 _ (by omega)⟩
    rw [show mem0X.1 9 f 11 = 0 from rfl, b_0] at h
    cases h
  · exact ⟨rfl, rfl⟩
  · intro p hp; rfl
  · refine ⟨fun f t hf ht => ?_, fun f hf => by omega⟩
    rw [e46 _ (by omega)]
    exact ⟨Or.inl rfl, fun _ => rfl⟩
