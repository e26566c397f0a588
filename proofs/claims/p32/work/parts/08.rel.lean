variable {κ : Nat → Nat → Nat → Prop}
/-! ===== the relation of the two memories ===== -/
/-- counters: places, ways, folk, gatherings, facts, now, days lived, begun -/
def GSc (κ : Nat → Nat → Nat → Prop) (x0 x1 m : Nat → Int32) (P W F G C N D B : Nat) : Prop :=
  (x1 5 = nI P ∧ m 5 = nI P ∧ P ≤ 12) ∧ (x1 6 = nI W ∧ m 10 = nI W ∧ W ≤ 30) ∧ (x0 9 = nI F ∧ m 13 = nI F ∧ F ≤ 20) ∧ (x0 10 = nI G ∧ m 25 = nI G ∧ G ≤ 10) ∧ (x0 11 = nI C ∧ m 31 = nI C ∧ C ≤ 12) ∧ (x0 14 = nI N ∧ m 2 = nI N ∧ N < 48) ∧ (x0 15 = nI D ∧ m 3 = nI D ∧ D ≤ 20) ∧ (x0 16 = nI B ∧ m 1 = nI B ∧ B ≤ 1) ∧ x0 12 = m 4 ∧ ((B = 0 → N = 0 ∧ D = 0) ∧ κ P F B)
def GRef (x m : Nat → Int32) : Prop := ∀ j, x j = m j
def GHrs (x2 x3 x4 m2 m3 m4 : Nat → Int32) (P : Nat) : Prop := ∀ p, p < P → x2 p = m2 p ∧ ∃ a b, a < b ∧ b ≤ 48 ∧ x3 p = nI a ∧ m3 p = nI a ∧ x4 p = nI b ∧ m4 p = nI b
def GLck (L : Int32) (m : Nat → Int32) (P : Nat) : Prop := (∀ p, p < 12 → (m p = nI 0 ∨ m p = nI 1) ∧ (bt L p = true ↔ m p = nI 1)) ∧ ∀ p, P ≤ p → bt L p = false
def GWay (x5 m6 : Nat → Int32) (P : Nat) (w : Nat → Nat → Nat) : Prop := ∀ a b, a < 12 → b < 12 → m6 (12 * a + b) = nI (w a b) ∧ x5 (12 * a + b) = (if w a b = 1000000 then nI 0 else nI (w a b)) ∧ (w a b = 1000000 ∨ (1 ≤ w a b ∧ w a b ≤ 9 ∧ a < P ∧ b < P ∧ a ≠ b)) ∧ w a b = w b a
def GFar (x6 m7 : Nat → Int32) (P : Nat) (l : Nat → Nat → Nat) : Prop := (∀ a b, a < 12 → b < 12 → m7 (12 * a + b) = nI (l a b) ∧ (l a b ≤ 108 ∨ l a b = 1000000) ∧ (P ≤ a ∨ P ≤ b → l a b = if a = b then 0 else 1000000)) ∧ ∀ a b, a < P → b < P → x6 (12 * a + b) = if l a b = 1000000 then NN else nI (l a b)
/-- least ways: a distance, no longer than a way, and a first step on each -/
def GDist (w l : Nat → Nat → Nat) : Prop := (∀ a, a < 12 → l a a = 0) ∧ (∀ a b c, a < 12 → b < 12 → c < 12 → l a c ≤ l a b + l b c) ∧ (∀ a b, a < 12 → b < 12 → l a b ≤ w a b) ∧ ∀ a b, a < 12 → b < 12 → a ≠ b → l a b < 1000000 → ∃ r, r < 12 ∧ w a r ≤ 9 ∧ w a r + l r b ≤ l a b
def GShl (x7 : Nat → Nat → Int32) (m57 m58 : Nat → Int32) (F : Nat) : Prop := ∀ s, s < 8 → (x7 s 1 = NN ∧ x7 s 2 = NN ∧ x7 s 3 = nI 0 ∧ m57 s = NN) ∨ (∃ f, f < F ∧ x7 s 1 = nI f ∧ x7 s 2 = NN ∧ x7 s 3 = nI 0 ∧ m57 s = nI f) ∨ ∃ k n, k ≤ 3 ∧ n ≤ 60 ∧ x7 s 1 = NN ∧ x7 s 2 = nI k ∧ x7 s 3 = nI n ∧ m57 s = nI (100 + k) ∧ m58 s = nI n
def GCell (x8 : Nat → Nat → Int64) (m59 : Nat → Int64) : Prop := ∀ s i, s < 8 → i < 60 → x8 s i = m59 (60 * s + i)
def GHome (x9 : Nat → Nat → Int32) (m38 : Nat → Int32) (P F : Nat) : Prop := ∀ f, f < F → ∃ h, h < P ∧ x9 f 4 = nI h ∧ m38 f = nI h
def GKeys (x9 : Nat → Nat → Int32) (m39 : Nat → Int32) : Prop := ∀ f, f < 20 → x9 f 5 = m39 f
def GLike (x10 : Nat → Nat → Int32) (m40 : Nat → Int32) (F : Nat) : Prop := (∀ f p, f < F → p < 12 → ∃ n, n ≤ 9 ∧ x10 f p = nI n ∧ m40 (12 * f + p) = nI n) ∧ ∀ f p, F ≤ f → f < 20 → p < 12 → x10 f p = nI 5
def GDuty (x9 x11 : Nat → Nat → Int32) (m41 m42 : Nat → Int32) (P : Nat) : Prop := ∀ f, f < 20 → ∃ n, n ≤ 12 ∧ x9 f 6 = nI (4 * n) ∧ m41 f = nI n ∧ (∀ i, i < 48 → x11 f i = m42 (48 * f + i)) ∧ ∀ k, k < n → ∃ p a b v, p < P ∧ a < b ∧ b ≤ 48 ∧ 1 ≤ v ∧ v ≤ 100 ∧ m42 (48 * f + 4 * k) = nI p ∧ m42 (48 * f + 4 * k + 1) = nI a ∧ m42 (48 * f + 4 * k + 2) = nI b ∧ m42 (48 * f + 4 * k + 3) = nI v
def GGone (x9 : Nat → Nat → Int32) (m43 : Nat → Int32) : Prop := ∀ f, f < 20 → x9 f 13 = m43 f ∧ (m43 f = nI 0 ∨ m43 f = nI 1)
def GBent (x9 : Nat → Nat → Int32) (m44 m45 : Nat → Int32) (P : Nat) : Prop := ∀ f, f < 20 → x9 f 12 = m44 f ∧ (m44 f = nI 0 ∨ (m44 f = nI 1 ∧ ∃ p a b, p < P ∧ a < b ∧ b ≤ 48 ∧ x9 f 7 = nI p ∧ m45 (3 * f) = nI p ∧ x9 f 8 = nI a ∧ m45 (3 * f + 1) = nI a ∧ x9 f 9 = nI b ∧ m45 (3 * f + 2) = nI b))
def GPlan (x12 : Nat → Nat → Int32) (m46 : Nat → Int32) : Prop := ∀ f t, f < 20 → t < 48 → x12 f t = m46 (48 * f + t)
def GCost (x9 : Nat → Nat → Int32) (m47 : Nat → Int32) : Prop := ∀ f, f < 20 → x9 f 10 = m47 f
def GSeat (x16 m48 : Nat → Int32) : Prop := ∀ j, j < 576 → x16 j = m48 j
def GMeet (x14 : Nat → Nat → Int32) (m49 m50 : Nat → Int32) (P F G : Nat) : Prop := ∀ g, g < G → x14 g 0 = m49 g ∧ (∀ f, F ≤ f → bt (m49 g) f = false) ∧ ∃ p a b v, p < P ∧ a < b ∧ b ≤ 48 ∧ 1 ≤ v ∧ v ≤ 100 ∧ x14 g 1 = nI p ∧ x14 g 2 = nI a ∧ x14 g 3 = nI b ∧ x14 g 4 = nI v ∧ m50 (4 * g) = nI p ∧ m50 (4 * g + 1) = nI a ∧ m50 (4 * g + 2) = nI b ∧ m50 (4 * g + 3) = nI v
def GTly (x14 : Nat → Nat → Int32) (m51 m52 m53 : Nat → Int32) : Prop := ∀ g, g < 10 → x14 g 5 = m51 g ∧ x14 g 6 = m52 g ∧ x14 g 7 = m53 g
def GKnow (x9 x13 : Nat → Nat → Int32) (m54 : Nat → Int32) (C : Nat) : Prop := ∀ f k, f < 20 → k < 12 → (bt (x9 f 11) k = true → k < C ∧ x13 f k = m54 (12 * f + k) ∧ m54 (12 * f + k) ≠ NN) ∧ (bt (x9 f 11) k = false → m54 (12 * f + k) = NN)
def GFlt (x23 m : Nat → Int32) : Prop := x23 0 = m 39 ∧ x23 1 = m 40
def GRow (x21 : Nat → Int32) : Prop := ∀ p, p < 12 → x21 (576 + p) = nI 0
/-- a plan's code: nothing, IN, OUT, on a way -/
def PCode (P : Nat) (w : Nat → Nat → Nat) (c : Int32) : Prop := c = NN ∨ (∃ p, p < P ∧ c = nI p) ∨ (∃ p, p < P ∧ c = nI (100 + p)) ∨ ∃ p q, p < P ∧ q < P ∧ w p q ≠ 1000000 ∧ c = nI (200 + 12 * p + q)
/-- each going of a way in a day's plan has its whole length, or the day's end cuts it -/
def PWell (w : Nat → Nat → Nat) (c : Nat → Int32) : Prop := ∀ t, t < 48 → c t ≠ NN ∧ ∀ p q, p < 12 → q < 12 → c t = nI (200 + 12 * p + q) → ∃ b, b ≤ t ∧ t < b + w p q ∧ (∀ u, b ≤ u → u < 48 → u < b + w p q → c u = c t) ∧ (b = 0 ∨ c (b - 1) ≠ c t) ∧ (48 ≤ b + w p q ∨ c (b + w p q) ≠ c t)
def GPln (m43 m46 : Nat → Int32) (P F N B : Nat) (w : Nat → Nat → Nat) : Prop := (∀ f t, f < 20 → t < 48 → PCode P w (m46 (48 * f + t)) ∧ (B = 0 ∨ F ≤ f ∨ (m43 f = nI 1 ∧ N ≤ t) → m46 (48 * f + t) = NN)) ∧ ∀ f, f < F → B = 1 → m43 f = nI 0 → PWell w (fun t => m46 (48 * f + t))
def RelAt (κ : Nat → Nat → Nat → Prop) (σx σm : Mem) (P W F G C N D B : Nat) (w l : Nat → Nat → Nat) : Prop :=
  GSc κ (σx.1 0 0) (σx.1 1 0) (σm.1 30 0) P W F G C N D B ∧ GRef (σx.1 28 0) (σm.1 31 0) ∧ GHrs (σx.1 2 0) (σx.1 3 0) (σx.1 4 0) (σm.1 32 0) (σm.1 33 0) (σm.1 34 0) P ∧ GLck (σx.1 0 0 13) (σm.1 35 0) P ∧ GWay (σx.1 5 0) (σm.1 36 0) P w ∧ GFar (σx.1 6 0) (σm.1 37 0) P l ∧ GDist w l ∧ GShl (σx.1 7) (σm.1 57 0) (σm.1 58 0) F ∧ GCell (σx.2 8) (σm.2 59 0) ∧ GHome (σx.1 9) (σm.1 38 0) P F ∧ GKeys (σx.1 9) (σm.1 39 0) ∧ GLike (σx.1 10) (σm.1 40 0) F ∧ GDuty (σx.1 9) (σx.1 11) (σm.1 41 0) (σm.1 42 0) P ∧ GGone (σx.1 9) (σm.1 43 0) ∧ GBent (σx.1 9) (σm.1 44 0) (σm.1 45 0) P ∧ GPlan (σx.1 12) (σm.1 46 0) ∧ GCost (σx.1 9) (σm.1 47 0) ∧ GSeat (σx.1 16 0) (σm.1 48 0) ∧ GMeet (σx.1 14) (σm.1 49 0) (σm.1 50 0) P F G ∧ GTly (σx.1 14) (σm.1 51 0) (σm.1 52 0) (σm.1 53 0) ∧ GKnow (σx.1 9) (σx.1 13) (σm.1 54 0) C ∧ GFlt (σx.1 23 0) (σm.1 30 0) ∧ GRow (σx.1 21 0) ∧ GPln (σm.1 43 0) (σm.1 46 0) P F N B w
def Rel (κ : Nat → Nat → Nat → Prop) (σx σm : Mem) : Prop := ∃ P W F G C N D B w l, RelAt κ σx σm P W F G C N D B w l
theorem tI_lt (x y : Int32) : (x < y) = (x.toInt < y.toInt) := propext Int32.lt_iff_toInt_lt
theorem tI_le (x y : Int32) : (x ≤ y) = (x.toInt ≤ y.toInt) := propext Int32.le_iff_toInt_le
theorem tI_eq (x y : Int32) : (x = y) = (x.toInt = y.toInt) := propext Int32.toInt_inj.symm
theorem tI_NN : NN.toInt = -1 := by decide
theorem of_tI {x : Int32} {n : Nat} (h0 : 0 ≤ x.toInt) (h : x.toInt < n) : ∃ j, j < n ∧ x = nI j := by
  refine ⟨x.toInt.toNat, by omega, ?_⟩
  have hx := Int32.toInt_lt x
  rw [← Int32.toInt_inj, nI_toInt (by omega)]
  omega
theorem tI_bds (x : Int32) : -2147483648 ≤ x.toInt ∧ x.toInt < 2147483648 := by
  have h1 := Int32.le_toInt x
  have h2 := Int32.toInt_lt x
  omega
theorem Rel_ref {σx σm : Mem} (R : Rel κ σx σm) (j : Nat) : Rel κ (wI σx 28 0 j (σx.1 28 0 j + nI 1)) (wI σm 31 0 j (σm.1 31 0 j + nI 1)) := by
  obtain ⟨P, W, F, G, C, N, D, B, w, l, h1, h2, h3⟩ := R
  refine ⟨P, W, F, G, C, N, D, B, w, l, h1, ?_, h3⟩
  intro i
  simp only [wI_r, h2 j, h2 i]
def Agree (κ : Nat → Nat → Nat → Prop) (r r' : Int32) (sx sm : Mem) : Prop := r = r' ∧ Rel κ sx sm
theorem Agr {r r' : Int32} {sx sm : Mem} (h : r = r') (R : Rel κ sx sm) : Agree κ r r' sx sm := ⟨h, R⟩
def AgreeL (κ : Nat → Nat → Nat → Prop) (r r' : Int64) (sx sm : Mem) : Prop := r = r' ∧ Rel κ sx sm
theorem AgrL {r r' : Int64} {sx sm : Mem} (h : r = r') (R : Rel κ sx sm) : AgreeL κ r r' sx sm := ⟨h, R⟩
theorem ix_cases (x : Int32) (n : Nat) (hn : n < 2 ^ 31) : x.toInt < 0 ∨ (n : Int) ≤ x.toInt ∨ ∃ j, j < n ∧ x = nI j := by
  rcases pk_ix x hn with h | h | h
  · exact Or.inl (by rw [tI_lt] at h; exact h)
  · exact Or.inr (Or.inl (by rw [tI_le, nI_toInt hn] at h; exact h))
  · exact Or.inr (Or.inr h)
theorem Rn_skip {α : Type} {P : α → Mem → Prop} {c : Prop} {A T : (α → Mem → Prop) → Prop} (hc : ¬ c) (r : Rn T P) : Rn (fun K => (c → A K) ∧ T K) P := Rn_map (fun _ h => ⟨fun z => absurd z hc, h⟩) r
theorem Rn_last {α : Type} {P : α → Mem → Prop} {c : Prop} {A T : (α → Mem → Prop) → Prop} (hT : ∀ K, T K) (r : Rn A P) : Rn (fun K => (c → A K) ∧ T K) P := Rn_map (fun K h => ⟨fun _ => h, hT K⟩) r

