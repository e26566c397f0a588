variable {κ : Nat → Nat → Nat → Prop}
