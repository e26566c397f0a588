variable {κ : Nat → Nat → Nat → Prop}
/-! ===== ways: least sums ===== -/
def lN' (l : Nat → Nat → Nat) (A B t a b : Nat) : Nat := min (l a b) (min (l a A + t + l B b) (l a B + t + l A b))
def wN' (w : Nat → Nat → Nat) (A B t a b : Nat) : Nat := if (a = A ∧ b = B) ∨ (a = B ∧ b = A) then min t (w A B) else w a b
def cntL (f : Nat → Nat) (v : Nat) : Nat → Nat
  | 0 => 0
  | n + 1 => cntL f v n + if f n < v then 1 else 0
theorem cntL_le (f : Nat → Nat) (v : Nat) : ∀ n, cntL f v n ≤ n
  | 0 => Nat.le_refl 0
  | n + 1 => by
    have := cntL_le f v n
    rw [cntL]
    split <;> omega
theorem cntL_mono {f : Nat → Nat} {v v' : Nat} (h : v ≤ v') : ∀ n, cntL f v n ≤ cntL f v' n
  | 0 => Nat.le_refl 0
  | n + 1 => by
    have := cntL_mono (f := f) h n
    rw [cntL, cntL]
    split <;> split <;> omega
theorem cntL_lt {f : Nat → Nat} {v v' r : Nat} (h : v ≤ v') (h1 : v ≤ f r) (h2 : f r < v') : ∀ n, r < n → cntL f v n + 1 ≤ cntL f v' n
  | 0, hr => by omega
  | n + 1, hr => by
    rw [cntL, cntL]
    by_cases e : r = n
    · subst e
      have := cntL_mono (f := f) h r
      rw [if_neg (by omega), if_pos h2]
      omega
    · have := cntL_lt h h1 h2 n (by omega)
      split <;> split <;> omega
theorem dist_cnt {w l : Nat → Nat → Nat} (hw : ∀ a b, a < 12 → b < 12 → 1 ≤ w a b) (h : GDist w l) {b : Nat} (hb : b < 12) : ∀ (n a : Nat), a < 12 → l a b = n → n < 1000000 → n ≤ 9 * cntL (fun s => l s b) n 12 := by
  intro n
  induction n using Nat.strongRecOn with
  | ind n ih =>
    intro a ha e hn
    obtain ⟨h0, h1, h2, h3⟩ := h
    by_cases hab : a = b
    · subst hab
      have := h0 a ha
      omega
    · obtain ⟨r, hr, hr9, hrl⟩ := h3 a b ha hb hab (by omega)
      have w1 := hw a r ha hr
      have t1 := h1 a r b ha hr hb
      have t2 := h2 a r ha hr
      have i1 := ih (l r b) (by omega) r hr rfl (by omega)
      have i2 := cntL_lt (f := fun s => l s b) (v := l r b) (v' := n) (r := r) (by omega) (by omega) (by omega) 12 hr
      omega
theorem dist_108 {w l : Nat → Nat → Nat} (hw : ∀ a b, a < 12 → b < 12 → 1 ≤ w a b) (h : GDist w l) {a b : Nat} (ha : a < 12) (hb : b < 12) (hl : l a b < 1000000) : l a b ≤ 108 := by
  have h1 := dist_cnt hw h hb (l a b) a ha rfl hl
  have h2 := cntL_le (fun s => l s b) (l a b) 12
  omega
section Dist
variable {w l : Nat → Nat → Nat} {A B t : Nat}
theorem lN_closed (h : GDist w l) (hA : A < 12) (hB : B < 12) {p q : Nat} (hp : p < 12) (hq : q < 12) : lN' l A B t p q ≤ lN' l A B t p A + t + lN' l A B t B q ∧ lN' l A B t p q ≤ lN' l A B t p B + t + lN' l A B t A q := by
  obtain ⟨h0, h1, h2, h3⟩ := h
  have a0 := h0 A hA
  have b0 := h0 B hB
  have t1 := h1 p A q hp hA hq
  have t2 := h1 p B q hp hB hq
  unfold lN'
  omega
theorem lN_dist (h : GDist w l) (hs : ∀ a b, a < 12 → b < 12 → w a b = w b a) (hA : A < 12) (hB : B < 12) (h1t : 1 ≤ t) (ht : t ≤ 9) : GDist (wN' w A B t) (lN' l A B t) := by
  have hc := h
  obtain ⟨h0, h1, h2, h3⟩ := h
  have a0 := h0 A hA
  have b0 := h0 B hB
  have wle : ∀ a b, wN' w A B t a b ≤ w a b := by
    intro a b
    unfold wN'
    split
    · rename_i hh
      rcases hh with ⟨e1, e2⟩ | ⟨e1, e2⟩
      · subst e1; subst e2; omega
      · subst e1; subst e2
        have := hs b a (by assumption) (by assumption)
        omega
    · omega
  have lle : ∀ a b, lN' l A B t a b ≤ l a b := by
    intro a b
    unfold lN'
    omega
  refine ⟨fun a ha => ?_, fun a b c ha hb hc => ?_, fun a b ha hb => ?_, fun a b ha hb hab hf => ?_⟩
  · have := h0 a ha
    unfold lN'
    omega
  · have q1 := h1 a b c ha hb hc
    have q2 := h1 a b A ha hb hA
    have q3 := h1 a b B ha hb hB
    have q4 := h1 A b c hA hb hc
    have q5 := h1 B b c hB hb hc
    have q6 := h1 a A c ha hA hc
    have q7 := h1 a B c ha hB hc
    unfold lN'
    omega
  · have q1 := h2 a b ha hb
    unfold wN' lN'
    split
    · rename_i hh
      rcases hh with ⟨e1, e2⟩ | ⟨e1, e2⟩
      · subst e1; subst e2; omega
      · subst e1; subst e2
        have := hs a b ha hb
        omega
    · omega
  · by_cases c1 : lN' l A B t a b = l a b
    · obtain ⟨r, hr, r1, r2⟩ := h3 a b ha hb hab (by omega)
      have := wle a r
      have := lle r b
      exact ⟨r, hr, by omega, by omega⟩
    · by_cases c2 : lN' l A B t a b = l a A + t + l B b
      · by_cases e : a = A
        · subst e
          refine ⟨B, hB, ?_, ?_⟩
          · unfold wN'
            rw [if_pos (Or.inl ⟨rfl, rfl⟩)]
            omega
          · have := lle B b
            have : wN' w a B t a B ≤ t := by
              unfold wN'
              rw [if_pos (Or.inl ⟨rfl, rfl⟩)]
              omega
            omega
        · obtain ⟨r, hr, r1, r2⟩ := h3 a A ha hA e (by omega)
          have := wle a r
          have : lN' l A B t r b ≤ l r A + t + l B b := by
            unfold lN'
            omega
          exact ⟨r, hr, by omega, by omega⟩
      · have c3 : lN' l A B t a b = l a B + t + l A b := by
          unfold lN' at c1 c2 ⊢
          omega
        by_cases e : a = B
        · subst e
          refine ⟨A, hA, ?_, ?_⟩
          · unfold wN'
            rw [if_pos (Or.inr ⟨rfl, rfl⟩)]
            omega
          · have := lle A b
            have : wN' w A a t a A ≤ t := by
              unfold wN'
              rw [if_pos (Or.inr ⟨rfl, rfl⟩)]
              omega
            omega
        · obtain ⟨r, hr, r1, r2⟩ := h3 a B ha hB e (by omega)
          have := wle a r
          have : lN' l A B t r b ≤ l r B + t + l A b := by
            unfold lN'
            omega
          exact ⟨r, hr, by omega, by omega⟩
/-- no shorter way: nothing changes -/
theorem lN_same (h : GDist w l) (hs : w A B = w B A) (hA : A < 12) (hB : B < 12) (ht : w A B ≤ t) {a b : Nat} (ha : a < 12) (hb : b < 12) : lN' l A B t a b = l a b := by
  obtain ⟨h0, h1, h2, h3⟩ := h
  have q1 := h2 A B hA hB
  have q2 := h2 B A hB hA
  have q3 := h1 a A b ha hA hb
  have q4 := h1 A B b hA hB hb
  have q5 := h1 a B b ha hB hb
  have q6 := h1 B A b hB hA hb
  unfold lN'
  omega
end Dist

