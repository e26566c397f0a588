/-! ===== the machine under an abstract memory: ids (kind, index), a memory of ints and longs by kind, index and slot; a verified step ===== -/
abbrev KI : Type := Nat × Nat
abbrev AV : Type := Value ⊕ KI
abbrev ai (x : Int32) : AV := .inl (.int x)
abbrev al (x : Int64) : AV := .inl (.long x)
abbrev ar (k i : Nat) : AV := .inr (k, i)
abbrev Mem : Type := (Nat → Nat → Nat → Int32) × (Nat → Nat → Nat → Int64)
abbrev Loc2 : Type := List (Nat × AV)
/-- a kind's shape: an object (its class, its slots: an int, or a cell of a kind at the same index), or an array (0 int, 1 long, 2 boolean, from 3 on of cells; its length; the kind of its cells) -/
abbrev Sh : Type := (Nat × List (Option Nat)) ⊕ (Nat × Nat × Nat)
def wI (σ : Mem) (k i j : Nat) (v : Int32) : Mem := (fun k' i' j' => bif Nat.beq k' k && (Nat.beq i' i && Nat.beq j' j) then v else σ.1 k' i' j', σ.2)
def wL (σ : Mem) (k i j : Nat) (v : Int64) : Mem := (σ.1, fun k' i' j' => bif Nat.beq k' k && (Nat.beq i' i && Nat.beq j' j) then v else σ.2 k' i' j')
def cpL (σ : Mem) (k0 i0 k i sp dp n : Nat) : Mem := (σ.1, fun k' i' j' => bif Nat.beq k' k && Nat.beq i' i then va_cpy (σ.2 k0 i0) (σ.2 k i) sp dp n j' else σ.2 k' i' j')
theorem beq3 {a b c d e f : Nat} : (Nat.beq a b && (Nat.beq c d && Nat.beq e f)) = decide (a = b ∧ c = d ∧ e = f) := by
  rw [Bool.eq_iff_iff]
  simp [Nat.beq_eq]
theorem beq2 {a b c d : Nat} : (Nat.beq a b && Nat.beq c d) = decide (a = b ∧ c = d) := by
  rw [Bool.eq_iff_iff]
  simp [Nat.beq_eq]
theorem bif_dec {α : Type} (p : Prop) [Decidable p] (x y : α) : (bif decide p then x else y) = if p then x else y := by
  by_cases h : p <;> simp [h]
theorem wI_r (σ : Mem) (k i j : Nat) (v : Int32) (k' i' j' : Nat) : (wI σ k i j v).1 k' i' j' = if k' = k ∧ i' = i ∧ j' = j then v else σ.1 k' i' j' := by
  show (bif Nat.beq k' k && (Nat.beq i' i && Nat.beq j' j) then v else σ.1 k' i' j') = _
  rw [beq3, bif_dec]
theorem wL_r (σ : Mem) (k i j : Nat) (v : Int64) (k' i' j' : Nat) : (wL σ k i j v).2 k' i' j' = if k' = k ∧ i' = i ∧ j' = j then v else σ.2 k' i' j' := by
  show (bif Nat.beq k' k && (Nat.beq i' i && Nat.beq j' j) then v else σ.2 k' i' j') = _
  rw [beq3, bif_dec]
theorem cpL_r (σ : Mem) (k0 i0 k i sp dp n k' i' j' : Nat) : (cpL σ k0 i0 k i sp dp n).2 k' i' j' = if k' = k ∧ i' = i then va_cpy (σ.2 k0 i0) (σ.2 k i) sp dp n j' else σ.2 k' i' j' := by
  show (bif Nat.beq k' k && Nat.beq i' i then va_cpy (σ.2 k0 i0) (σ.2 k i) sp dp n j' else σ.2 k' i' j') = _
  rw [beq2, bif_dec]
theorem wI_2 (σ : Mem) (k i j : Nat) (v : Int32) : (wI σ k i j v).2 = σ.2 := rfl
theorem wL_1 (σ : Mem) (k i j : Nat) (v : Int64) : (wL σ k i j v).1 = σ.1 := rfl
theorem cpL_1 (σ : Mem) (k0 i0 k i sp dp n : Nat) : (cpL σ k0 i0 k i sp dp n).1 = σ.1 := rfl
section Shapes
variable (ks : Nat → Sh) (cy : Nat → ClassId) (ρ : Nat → Nat → Nat)
def entF (σ : Mem) (k i : Nat) : Nat → List (Option Nat) → List Value
  | _, [] => []
  | j, none :: l => .int (σ.1 k i j) :: entF σ k i (j + 1) l
  | j, some rk :: l => .ref (ρ rk i) :: entF σ k i (j + 1) l
def ent (σ : Mem) (k i : Nat) : va_E := match ks k with
  | .inl (ci, fl) => .inr (ci, entF ρ σ k i 0 fl)
  | .inr (0, n, _) => .inl (cy 0, n, .inl (σ.1 k i))
  | .inr (1, n, _) => .inl (cy 1, n, .inr (.inl (σ.2 k i)))
  | .inr (2, n, _) => .inl (cy 2, n, .inl (σ.1 k i))
  | .inr (t + 3, n, rk) => .inl (cy (t + 3), n, .inr (.inr (.inr (.inr (fun j => some (ρ rk j))))))
def wl (I : List KI) (σ : Mem) : va_W := I.map (fun q => (ρ q.1 q.2, ent ks cy ρ σ q.1 q.2))
end Shapes
theorem entF_congr {ρ : Nat → Nat → Nat} {σ σ' : Mem} {k i : Nat} (h : ∀ j, σ.1 k i j = σ'.1 k i j) : ∀ (l : List (Option Nat)) (j : Nat), entF ρ σ k i j l = entF ρ σ' k i j l
  | [], _ => rfl
  | none :: l, j => by simp only [entF, h j, entF_congr h l (j + 1)]
  | some rk :: l, j => by simp only [entF, entF_congr h l (j + 1)]
theorem ent_congr {ks : Nat → Sh} {cy : Nat → ClassId} {ρ : Nat → Nat → Nat} {σ σ' : Mem} {k i : Nat} (h : ∀ j, σ.1 k i j = σ'.1 k i j) (h2 : ∀ j, σ.2 k i j = σ'.2 k i j) : ent ks cy ρ σ k i = ent ks cy ρ σ' k i := by
  have e1 : σ.1 k i = σ'.1 k i := funext h
  have e2 : σ.2 k i = σ'.2 k i := funext h2
  unfold ent
  rw [e1, e2]
  split <;> first | rfl | (rw [entF_congr h])
theorem entF_get {ρ : Nat → Nat → Nat} {σ : Mem} {k i : Nat} : ∀ (l : List (Option Nat)) (j n : Nat), (entF ρ σ k i j l)[n]? = (l[n]?).map (fun o => match o with | none => Value.int (σ.1 k i (j + n)) | some rk => Value.ref (ρ rk i))
  | [], _, _ => by simp [entF]
  | none :: l, j, 0 => by simp [entF]
  | some rk :: l, j, 0 => by simp [entF]
  | none :: l, j, n + 1 => by
    simp only [entF, List.getElem?_cons_succ, entF_get l (j + 1) n]
    rw [show j + 1 + n = j + (n + 1) by omega]
  | some rk :: l, j, n + 1 => by
    simp only [entF, List.getElem?_cons_succ, entF_get l (j + 1) n]
    rw [show j + 1 + n = j + (n + 1) by omega]
theorem entF_len {ρ : Nat → Nat → Nat} {σ : Mem} {k i : Nat} : ∀ (l : List (Option Nat)) (j : Nat), (entF ρ σ k i j l).length = l.length
  | [], _ => rfl
  | none :: l, j => by simp only [entF, List.length_cons, entF_len l (j + 1)]
  | some rk :: l, j => by simp only [entF, List.length_cons, entF_len l (j + 1)]
theorem entF_set {ρ : Nat → Nat → Nat} {σ : Mem} {k i n : Nat} {v : Int32} {l : List (Option Nat)} (h : l[n]? = some none) : (entF ρ σ k i 0 l).set n (.int v) = entF ρ (wI σ k i n v) k i 0 l := by
  apply List.ext_getElem?
  intro m
  rw [List.getElem?_set, entF_get, entF_get, entF_len]
  have hl : n < l.length := (List.getElem?_eq_some_iff.mp h).1
  by_cases hm : n = m
  · subst hm
    rw [if_pos rfl, if_pos hl, h]
    simp [wI_r]
  · rw [if_neg hm]
    have hm' : ¬ m = n := fun q => hm q.symm
    simp [wI_r, hm']
theorem wl_get {ks : Nat → Sh} {cy : Nat → ClassId} {ρ : Nat → Nat → Nat} {I : List KI} {k i n : Nat} (h : I[n]? = some (k, i)) (σ : Mem) : (wl ks cy ρ I σ)[n]? = some (ρ k i, ent ks cy ρ σ k i) := by
  simp [wl, h]
theorem wl_set {ks : Nat → Sh} {cy : Nat → ClassId} {ρ : Nat → Nat → Nat} {I : List KI} (hN : I.Nodup) {k i n : Nat} (h : I[n]? = some (k, i)) {σ σ' : Mem} {e : va_E} (he : e = ent ks cy ρ σ' k i) (ho : ∀ k' i', ¬ (k' = k ∧ i' = i) → ent ks cy ρ σ k' i' = ent ks cy ρ σ' k' i') : (wl ks cy ρ I σ).set n (ρ k i, e) = wl ks cy ρ I σ' := by
  apply List.ext_getElem?
  intro m
  have hl : n < I.length := (List.getElem?_eq_some_iff.mp h).1
  rw [List.getElem?_set]
  by_cases hm : n = m
  · subst hm
    have hlw : n < (wl ks cy ρ I σ).length := by simp [wl, hl]
    rw [if_pos rfl, if_pos hlw, wl_get h, he]
  · rw [if_neg hm]
    cases hq : I[m]? with
    | none => simp [wl, hq]
    | some q =>
      have hne : ¬ (q.1 = k ∧ q.2 = i) := by
        intro hk
        have hq' : I[m]? = some (k, i) := by rw [hq]; congr 1; exact Prod.ext hk.1 hk.2
        have hlm : m < I.length := (List.getElem?_eq_some_iff.mp hq').1
        have := (List.getElem?_inj hlm hN).mp (hq'.trans h.symm)
        exact hm this.symm
      simp [wl, hq, ho q.1 q.2 hne]
/-! the layout: what each kind is -/
def kSL : List Sh := [.inl (7, [some 1, some 24, some 25, some 26, some 15, some 17, some 23, some 27, some 28, none, none, none, none, none, none, none, none]), .inl (6, [some 2, some 3, some 4, some 5, some 6, none, none]), .inr (0, 12, 0), .inr (0, 12, 0), .inr (0, 12, 0), .inr (0, 144, 0), .inr (0, 144, 0), .inl (5, [some 8, none, none, none]), .inr (1, 60, 0), .inl (3, [some 10, some 11, some 12, some 13, none, none, none, none, none, none, none, none, none, none]), .inr (0, 12, 0), .inr (0, 48, 0), .inr (0, 48, 0), .inr (0, 12, 0), .inl (1, [none, none, none, none, none, none, none, none]), .inl (4, [some 16]), .inr (0, 576, 0), .inl (2, [some 18, some 19, some 20, some 21, some 22]), .inr (0, 48, 0), .inr (0, 576, 0), .inr (0, 49, 0), .inr (0, 588, 0), .inr (0, 576, 0), .inl (0, [none, none]), .inr (3, 8, 7), .inr (4, 20, 9), .inr (5, 10, 14), .inr (0, 12, 0), .inr (0, 8, 0), .inr (9, 0, 0), .inl (8, [some 31, none, none, none, none, none, some 32, some 33, some 34, some 35, none, some 36, some 37, none, some 38, some 39, some 40, some 41, some 42, some 43, some 44, some 45, some 46, some 47, some 48, none, some 49, some 50, some 51, some 52, some 53, none, some 54, some 55, some 56, some 57, some 58, some 59, some 60, none, none, some 61, some 62, some 63, some 64]), .inr (0, 8, 0), .inr (0, 12, 0), .inr (0, 12, 0), .inr (0, 12, 0), .inr (2, 12, 0), .inr (0, 144, 0), .inr (0, 144, 0), .inr (0, 20, 0), .inr (0, 20, 0), .inr (0, 240, 0), .inr (0, 20, 0), .inr (0, 960, 0), .inr (2, 20, 0), .inr (2, 20, 0), .inr (0, 60, 0), .inr (0, 960, 0), .inr (0, 20, 0), .inr (0, 576, 0), .inr (0, 10, 0), .inr (0, 40, 0), .inr (0, 10, 0), .inr (0, 10, 0), .inr (0, 10, 0), .inr (0, 240, 0), .inr (2, 240, 0), .inr (0, 144, 0), .inr (0, 8, 0), .inr (0, 8, 0), .inr (1, 480, 0), .inr (1, 60, 0), .inr (0, 48, 0), .inr (1, 192, 0), .inr (0, 588, 0), .inr (0, 576, 0)]
def kS (k : Nat) : Sh := kSL.getD k (.inr (0, 0, 0))
/-- the ids of the class, and of the reference -/
def IX : List KI := [(0, 0), (1, 0), (2, 0), (3, 0), (4, 0), (5, 0), (6, 0), (7, 0), (7, 1), (7, 2), (7, 3), (7, 4), (7, 5), (7, 6), (7, 7), (8, 0), (8, 1), (8, 2), (8, 3), (8, 4), (8, 5), (8, 6), (8, 7), (9, 0), (9, 1), (9, 2), (9, 3), (9, 4), (9, 5), (9, 6), (9, 7), (9, 8), (9, 9), (9, 10), (9, 11), (9, 12), (9, 13), (9, 14), (9, 15), (9, 16), (9, 17), (9, 18), (9, 19), (10, 0), (10, 1), (10, 2), (10, 3), (10, 4), (10, 5), (10, 6), (10, 7), (10, 8), (10, 9), (10, 10), (10, 11), (10, 12), (10, 13), (10, 14), (10, 15), (10, 16), (10, 17), (10, 18), (10, 19), (11, 0), (11, 1), (11, 2), (11, 3), (11, 4), (11, 5), (11, 6), (11, 7), (11, 8), (11, 9), (11, 10), (11, 11), (11, 12), (11, 13), (11, 14), (11, 15), (11, 16), (11, 17), (11, 18), (11, 19), (12, 0), (12, 1), (12, 2), (12, 3), (12, 4), (12, 5), (12, 6), (12, 7), (12, 8), (12, 9), (12, 10), (12, 11), (12, 12), (12, 13), (12, 14), (12, 15), (12, 16), (12, 17), (12, 18), (12, 19), (13, 0), (13, 1), (13, 2), (13, 3), (13, 4), (13, 5), (13, 6), (13, 7), (13, 8), (13, 9), (13, 10), (13, 11), (13, 12), (13, 13), (13, 14), (13, 15), (13, 16), (13, 17), (13, 18), (13, 19), (14, 0), (14, 1), (14, 2), (14, 3), (14, 4), (14, 5), (14, 6), (14, 7), (14, 8), (14, 9), (15, 0), (16, 0), (17, 0), (18, 0), (19, 0), (20, 0), (21, 0), (22, 0), (23, 0), (24, 0), (25, 0), (26, 0), (27, 0), (28, 0)]
def IM : List KI := [(30, 0), (31, 0), (32, 0), (33, 0), (34, 0), (35, 0), (36, 0), (37, 0), (38, 0), (39, 0), (40, 0), (41, 0), (42, 0), (43, 0), (44, 0), (45, 0), (46, 0), (47, 0), (48, 0), (49, 0), (50, 0), (51, 0), (52, 0), (53, 0), (54, 0), (55, 0), (56, 0), (57, 0), (58, 0), (59, 0), (60, 0), (61, 0), (62, 0), (63, 0), (64, 0)]
def tysOf (cy : Nat → ClassId) : List (ClassId × FieldType) := [(cy 0, .int), (cy 1, .long), (cy 2, .int), (cy 3, .object "TownFolk$Shelf"), (cy 4, .object "TownFolk$Resident"), (cy 5, .object "TownFolk$Gathering")]
/-- the type of an array's cells by its tag -/
def tyT : Nat → FieldType
  | 0 => .int
  | 1 => .long
  | 2 => .int
  | 3 => .object "TownFolk$Shelf"
  | 4 => .object "TownFolk$Resident"
  | _ => .object "TownFolk$Gathering"
def catA : AV → Nat
  | .inl v => v.category
  | .inr _ => 1
def toV (ρ : Nat → Nat → Nat) : AV → Value
  | .inl v => v
  | .inr q => .ref (ρ q.1 q.2)
def toL (ρ : Nat → Nat → Nat) (l : Loc2) : List (Nat × Value) := l.map (fun q => (q.1, toV ρ q.2))
def okV (I : List KI) (v : AV) : Prop := match v with
  | .inl _ => True
  | .inr q => q ∈ I ∨ q = (29, 0)
theorem okM {I : List KI} {k i : Nat} (h : okV I (.inr (k, i))) (hk : kS k ≠ .inr (9, 0, 0)) : (k, i) ∈ I := by
  rcases h with h | h
  · exact h
  · cases h
    exact absurd rfl hk
/-- of the machine nothing is said about these ids -/
def Off (I : List KI) : Prop := (30, 0) ∈ I
/-- the script, read only, at the address of kind 29 -/
def SC (ρ : Nat → Nat → Nat) (A : Nat → Prop) (U : State) : Prop := ∃ (L : Nat) (xs : Nat → Int32), L ≤ 260 ∧ va_X (ρ 29 0) L xs U U.heap ∧ ρ 29 0 < U.heap.size ∧ ¬ A (ρ 29 0)
def okS (I : List KI) (l : List AV) : Prop := ∀ v ∈ l, okV I v
def okL (I : List KI) (l : Loc2) : Prop := ∀ q ∈ l, okV I q.2
/-- a method: its name, code, locals, answer, how many arguments, its class's place (none: static) -/
abbrev SR : Type := MethodName × ByteArray × Nat × Option FieldType × Nat × Option Nat
/-- what a constant pool's place is: a field (class, slot; 0 read only, 1 an int, 2 a boolean), a method, an int, a long, System.arraycopy (0) or Math.min (1) -/
abbrev PE : Type := (Nat × Nat × Nat) ⊕ (SR ⊕ (Int32 ⊕ (Int64 ⊕ Nat)))
abbrev MR : Type := SR × List (Nat × PE) × (Nat → Option (Instr × Nat))
/-- methods whose frame knows the script -/
def scM (M : MR) : Bool := M.1.1.name == "build" || M.1.1.name == "law"
def noAt (l : List (Nat × PE)) : Bool := l.all (fun q => match q.2 with | .inr (.inr (.inr (.inr 2))) => false | _ => true)
/-- the links between nest mates, which the start gives -/
def NWf : List (String × Nat × String × String × String × String) := [("TownFolk$Planner", 90, "TownFolk$Town", "seatsOf", "[I", "TownFolk"), ("TownFolk", 77, "TownFolk$Town", "places", "I", "TownFolk"), ("TownFolk$Planner", 59, "TownFolk$Town", "places", "I", "TownFolk"), ("TownFolk", 89, "TownFolk$Town", "ways", "I", "TownFolk"), ("TownFolk", 184, "TownFolk$DutyCheck", "found", "I", "TownFolk"), ("TownFolk$Resident", 30, "TownFolk$Shelf", "size", "I", "TownFolk"), ("TownFolk$DutyCheck", 18, "TownFolk$Shelf", "size", "I", "TownFolk"), ("TownFolk", 130, "TownFolk$Shelf", "size", "I", "TownFolk"), ("TownFolk$Planner", 96, "TownFolk$Resident", "likings", "[I", "TownFolk"), ("TownFolk$Planner", 39, "TownFolk$Resident", "duty", "[I", "TownFolk"), ("TownFolk$Gathering", 35, "TownFolk$Resident", "plan", "[I", "TownFolk"), ("TownFolk$Planner", 106, "TownFolk$Resident", "plan", "[I", "TownFolk"), ("TownFolk", 234, "TownFolk$Resident", "plan", "[I", "TownFolk"), ("TownFolk", 99, "TownFolk$Resident", "home", "I", "TownFolk"), ("TownFolk$Planner", 93, "TownFolk$Resident", "home", "I", "TownFolk"), ("TownFolk", 207, "TownFolk$Resident", "keys", "I", "TownFolk"), ("TownFolk$Planner", 33, "TownFolk$Resident", "dutyCells", "I", "TownFolk"), ("TownFolk$Planner", 50, "TownFolk$Resident", "bendPlace", "I", "TownFolk"), ("TownFolk$Planner", 53, "TownFolk$Resident", "bendFrom", "I", "TownFolk"), ("TownFolk$Planner", 56, "TownFolk$Resident", "bendTo", "I", "TownFolk"), ("TownFolk", 256, "TownFolk$Resident", "planCost", "I", "TownFolk"), ("TownFolk", 314, "TownFolk$Resident", "known", "I", "TownFolk"), ("TownFolk$Planner", 46, "TownFolk$Resident", "bent", "Z", "TownFolk"), ("TownFolk", 292, "TownFolk$Resident", "bent", "Z", "TownFolk"), ("TownFolk", 289, "TownFolk$Resident", "left", "Z", "TownFolk"), ("TownFolk", 327, "TownFolk$Gathering", "place", "I", "TownFolk"), ("TownFolk", 330, "TownFolk$Gathering", "from", "I", "TownFolk"), ("TownFolk", 333, "TownFolk$Gathering", "to", "I", "TownFolk"), ("TownFolk", 336, "TownFolk$Gathering", "weight", "I", "TownFolk")]
def NWm : List (String × Nat × MethodName × String) := [("TownFolk", 11, ⟨"TownFolk$Town", "<init>", "()V"⟩, "TownFolk"), ("TownFolk", 36, ⟨"TownFolk$Seats", "<init>", "()V"⟩, "TownFolk"), ("TownFolk", 43, ⟨"TownFolk$Planner", "<init>", "()V"⟩, "TownFolk"), ("TownFolk", 50, ⟨"TownFolk$DutyCheck", "<init>", "()V"⟩, "TownFolk"), ("TownFolk", 62, ⟨"TownFolk$Shelf", "<init>", "()V"⟩, "TownFolk"), ("TownFolk", 64, ⟨"TownFolk$Gathering", "<init>", "()V"⟩, "TownFolk"), ("TownFolk$DutyCheck", 47, ⟨"TownFolk", "isSpan", "(II)Z"⟩, "TownFolk"), ("TownFolk$DutyCheck", 51, ⟨"TownFolk", "isWeight", "(I)Z"⟩, "TownFolk"), ("TownFolk$Seats", 25, ⟨"TownFolk", "isIn", "(I)Z"⟩, "TownFolk")]
def NwOK (U : State) : Prop := (∀ q ∈ NWf, va_Nw (.fieldLinkNest q.1 q.2.1 q.2.2.1 q.2.2.2.1 q.2.2.2.2.1 q.2.2.2.2.2) U) ∧ ∀ q ∈ NWm, va_Nw (.methodLinkNest q.1 q.2.1 q.2.2.1 q.2.2.2) U
theorem NwOK.warm {s U : State} (hW : s.WarmedH U.vm) (h : NwOK s) : NwOK U := ⟨fun q hq => va_Nw.warmF hW (h.1 q hq), fun q hq => va_Nw.warmM hW (h.2 q hq)⟩
theorem NwOK.same {u U : State} (hv : u.vm = U.vm) (h : NwOK u) : NwOK U := ⟨fun q hq => va_Nw.same rfl hv (h.1 q hq), fun q hq => va_Nw.same rfl hv (h.2 q hq)⟩
abbrev Kt : Type := Nat → Loc2 → List AV → Mem → Prop
def Cx (M : MR) (d : Nat) (p : Program) (R : Room) (s : State) (m : MethodId) (args : Array Value) (meth : Method) (c : Code) (D : va_G) (cy : Nat → ClassId) (A : Nat → Prop) (ρ : Nat → Nat → Nat) : Prop :=
  p.tables.exec = Jvm.exec ∧ c.code = M.1.2.1 ∧ c.maxLocals = M.1.2.2.1 ∧ meth.sig.returnType = M.1.2.2.2.1 ∧ meth.locks = false ∧ s.vm.findClass M.1.1.cls = some m.cls ∧ (∀ w ∈ TB, w.before args s = true) ∧ (∀ q : Nat, s.heap.size ≤ q → A q) ∧ d ≤ R.frames ∧ 40 * d ≤ R.locals ∧ NwOK s ∧ va_K D vwCl (tysOf cy) s ∧ (scM M = true → SC ρ A s)
def QQ (I : List KI) (D : va_G) (cy : Nat → ClassId) (ρ : Nat → Nat → Nat) (A : Nat → Prop) (Q : Option AV → Mem → Prop) : Array Value → State → Outcome → State → Prop := fun _ st oc t =>
  (∃ (v : Option AV) (σ' : Mem), oc = .returned (v.map (toV ρ)) ∧ Q v σ' ∧ va_P D vwCl (wl kS cy ρ I σ') t.heap ∧ va_K D vwCl (tysOf cy) t ∧ va_D A (wl kS cy ρ I σ') ∧ okS I v.toList) ∧ va_F A st t
def J (I : List KI) (M : MR) (d : Nat) (pc : Nat) (loc : Loc2) (stk : List AV) (σ : Mem) (Q : Option AV → Mem → Prop) : Prop :=
  ¬ Off I → ∀ (p : Program) (l : Launch) (e : Env) (R : Room) (s : State) (m : MethodId) (args : Array Value) (below : List Frame) (meth : Method) (c : Code) (D : va_G) (cy : Nat → ClassId) (ρ : Nat → Nat → Nat) (A : Nat → Prop) (cells slots : Nat) (H : Heap) (locs : List Loc) (ls : Array Slot),
    Cx M d p R s m args meth c D cy A ρ → cells ≤ R.cells → slots ≤ R.slots → va_P D vwCl (wl kS cy ρ I σ) H → va_D A (wl kS cy ρ I σ) → va_S A s.heap H locs → lv_has ls M.1.2.2.1 (toL ρ loc) → okL I loc → okS I stk →
    W p l e R s m args below meth c H locs cells slots (MQ below (QQ I D cy ρ A Q) args s cells slots A) (F0 m pc ls (stk.map (toV ρ)))
def rmD (d : Nat) : Room := { frames := d, cells := 0, slots := 0, locals := 40 * d }
def Cal (I : List KI) (d : Nat) (S : SR) (av : List AV) (σ : Mem) (Q : Option AV → Mem → Prop) : Prop :=
  ¬ Off I → ∀ (l : Launch) (D : va_G) (cy : Nat → ClassId) (ρ : Nat → Nat → Nat) (sz : Nat), okS I av →
    Met l S.1 (Jvm.Cond.code S.1 S.2.1 S.2.2.1 S.2.2.2.1 :: TB) (rmD d) (va_Pc (av.map (toV ρ)) (fun U => U.heap.size = sz ∧ va_P D vwCl (wl kS cy ρ I σ) U.heap ∧ va_K D vwCl (tysOf cy) U ∧ va_D (fun _ => True) (wl kS cy ρ I σ) ∧ NwOK U)) (QQ I D cy ρ (va_A (wl kS cy ρ I σ) sz) Q) 0 0 (va_A (wl kS cy ρ I σ) sz)
def CalI (I : List KI) (d : Nat) (S : SR) (av : List AV) (σ : Mem) (Q : Int32 → Mem → Prop) : Prop := Cal I d S av σ (fun v σ' => ∃ x, v = some (ai x) ∧ Q x σ')
def CalL (I : List KI) (d : Nat) (S : SR) (av : List AV) (σ : Mem) (Q : Int64 → Mem → Prop) : Prop := Cal I d S av σ (fun v σ' => ∃ x, v = some (al x) ∧ Q x σ')
def CalV (I : List KI) (d : Nat) (S : SR) (av : List AV) (σ : Mem) (Q : Mem → Prop) : Prop := Cal I d S av σ (fun v σ' => v = none ∧ Q σ')
/-! one instruction, as a transformer of what must hold behind it -/
def plk : List (Nat × PE) → Nat → Option PE
  | [], _ => none
  | (j, e) :: l, i => bif Nat.beq j i then some e else plk l i
def lk : Loc2 → Nat → Option AV
  | [], _ => none
  | (j, v) :: l, i => bif Nat.beq j i then some v else lk l i
def st1 (i : Nat) (v : AV) (l : Loc2) : Loc2 := (i, v) :: l.filter (fun q => !(q.1 == i) && !(q.1 + 1 == i && catA q.2 == 2))
def tg (pc : Nat) (off : Int) : Option Nat := match (pc : Int) + off with
  | .ofNat n => some n
  | _ => none
def cmpP : Jvm.ClassFile.Cond → Int32 → Int32 → Prop
  | .eq, x, y => x = y
  | .ne, x, y => ¬ x = y
  | .lt, x, y => x < y
  | .ge, x, y => y ≤ x
  | .gt, x, y => y < x
  | .le, x, y => x ≤ y
def cmpN : Jvm.ClassFile.Cond → Int32 → Int32 → Prop
  | .eq, x, y => ¬ x = y
  | .ne, x, y => x = y
  | .lt, x, y => ¬ x < y
  | .ge, x, y => ¬ y ≤ x
  | .gt, x, y => ¬ y < x
  | .le, x, y => ¬ x ≤ y
def sI (K : Int32 → Prop) : Option AV → Prop
  | some (.inl (.int x)) => K x
  | _ => False
def sJ (K : Int64 → Prop) : Option AV → Prop
  | some (.inl (.long x)) => K x
  | _ => False
def sA (K : KI → Prop) : Option AV → Prop
  | some (.inr q) => K q
  | _ => False
def s1 (K : Int32 → List AV → Prop) : List AV → Prop
  | .inl (.int x) :: r => K x r
  | _ => False
def s2 (K : Int32 → Int32 → List AV → Prop) : List AV → Prop
  | .inl (.int y) :: .inl (.int x) :: r => K x y r
  | _ => False
def sAI (K : Int32 → Nat → Nat → List AV → Prop) : List AV → Prop
  | .inl (.int x) :: .inr (k, i) :: r => K x k i r
  | _ => False
def sAII (K : Int32 → Int32 → Nat → Nat → List AV → Prop) : List AV → Prop
  | .inl (.int v) :: .inl (.int x) :: .inr (k, i) :: r => K v x k i r
  | _ => False
def opS (I : List KI) (d : Nat) (S : SR) (av : List AV) (σ : Mem) (K : List AV → Mem → Prop) : Prop := match S.2.2.2.1 with
  | none => CalV I d S av σ (fun σ' => K [] σ')
  | some .long => CalL I d S av σ (fun x σ' => K [al x] σ')
  | some _ => CalI I d S av σ (fun x σ' => K [ai x] σ')
def sumC : List AV → Nat
  | [] => 0
  | v :: l => catA v + sumC l
def tsw (pc : Nat) (K : Nat → Prop) (x : Int32) : List Int → Int → Prop
  | [], _ => True
  | o :: l, n => (x.toInt = n → match tg pc o with | some t => K t | none => False) ∧ tsw pc K x l (n + 1)
def opI (I : List KI) (d nL : Nat) (pl : List (Nat × PE)) (ret : Option FieldType) (Q : Option AV → Mem → Prop) (K : Kt) (pc : Nat) (loc : Loc2) (stk : List AV) (σ : Mem) : Instr → Prop
  | .iconst n => K (pc + 1) loc (ai (Int32.ofInt n) :: stk) σ
  | .bipush n => K (pc + 2) loc (ai (Int8.ofInt n).toInt32 :: stk) σ
  | .sipush n => K (pc + 3) loc (ai (Int16.ofInt n).toInt32 :: stk) σ
  | .lconst n => K (pc + 1) loc (al (Int64.ofNat (n : Nat)) :: stk) σ
  | .iload i => sI (fun x => K (pc + 2) loc (ai x :: stk) σ) (lk loc i)
  | .iload_n i => sI (fun x => K (pc + 1) loc (ai x :: stk) σ) (lk loc (i : Nat))
  | .lload i => sJ (fun x => K (pc + 2) loc (al x :: stk) σ) (lk loc i)
  | .lload_n i => sJ (fun x => K (pc + 1) loc (al x :: stk) σ) (lk loc (i : Nat))
  | .aload i => sA (fun q => K (pc + 2) loc (.inr q :: stk) σ) (lk loc i)
  | .aload_n i => sA (fun q => K (pc + 1) loc (.inr q :: stk) σ) (lk loc (i : Nat))
  | .istore i => bif Nat.blt i nL then s1 (fun x r => K (pc + 2) (st1 i (ai x) loc) r σ) stk else False
  | .istore_n i => bif Nat.blt (i : Nat) nL then s1 (fun x r => K (pc + 1) (st1 (i : Nat) (ai x) loc) r σ) stk else False
  | .astore i => match stk with
    | .inr q :: r => bif Nat.blt i nL then K (pc + 2) (st1 i (.inr q) loc) r σ else False
    | _ => False
  | .astore_n i => match stk with
    | .inr q :: r => bif Nat.blt (i : Nat) nL then K (pc + 1) (st1 (i : Nat) (.inr q) loc) r σ else False
    | _ => False
  | .iinc i n => sI (fun x => K (pc + 3) (st1 i (ai (x + Int32.ofInt n)) loc) stk σ) (lk loc i)
  | .iadd => s2 (fun x y r => K (pc + 1) loc (ai (x + y) :: r) σ) stk
  | .isub => s2 (fun x y r => K (pc + 1) loc (ai (x - y) :: r) σ) stk
  | .imul => s2 (fun x y r => K (pc + 1) loc (ai (x * y) :: r) σ) stk
  | .idiv => s2 (fun x y r => ¬ y = 0 ∧ K (pc + 1) loc (ai (x / y) :: r) σ) stk
  | .irem => s2 (fun x y r => ¬ y = 0 ∧ K (pc + 1) loc (ai (x - x / y * y) :: r) σ) stk
  | .iand => s2 (fun x y r => K (pc + 1) loc (ai (x &&& y) :: r) σ) stk
  | .ior => s2 (fun x y r => K (pc + 1) loc (ai (x ||| y) :: r) σ) stk
  | .ixor => s2 (fun x y r => K (pc + 1) loc (ai (x ^^^ y) :: r) σ) stk
  | .ishl => s2 (fun x y r => K (pc + 1) loc (ai (x <<< (y &&& 31)) :: r) σ) stk
  | .ishr => s2 (fun x y r => K (pc + 1) loc (ai (x >>> (y &&& 31)) :: r) σ) stk
  | .iushr => s2 (fun x y r => K (pc + 1) loc (ai (x.toUInt32 >>> (y.toUInt32 &&& Int32.toUInt32 31)).toInt32 :: r) σ) stk
  | .ineg => s1 (fun x r => K (pc + 1) loc (ai (-x) :: r) σ) stk
  | .i2b => s1 (fun x r => K (pc + 1) loc (ai x.toInt8.toInt32 :: r) σ) stk
  | .i2s => s1 (fun x r => K (pc + 1) loc (ai x.toInt16.toInt32 :: r) σ) stk
  | .i2l => s1 (fun x r => K (pc + 1) loc (al x.toInt64 :: r) σ) stk
  | .l2i => match stk with
    | .inl (.long x) :: r => K (pc + 1) loc (ai x.toInt32 :: r) σ
    | _ => False
  | .dup => match stk with
    | v :: r => bif Nat.beq (catA v) 1 then K (pc + 1) loc (v :: v :: r) σ else False
    | _ => False
  | .dup2 => match stk with
    | v :: u :: r => bif Nat.beq (catA v) 1 && Nat.beq (catA u) 1 then K (pc + 1) loc (v :: u :: v :: u :: r) σ else False
    | _ => False
  | .pop => match stk with
    | v :: r => bif Nat.beq (catA v) 1 then K (pc + 1) loc r σ else False
    | _ => False
  | .lcmp => match stk with
    | .inl (.long y) :: .inl (.long x) :: r => K (pc + 1) loc (ai (lg_cmp x y) :: r) σ
    | _ => False
  | .goto off => match tg pc off with
    | some t => K t loc stk σ
    | none => False
  | .if_icmp c off => match tg pc off with
    | some t => s2 (fun x y r => (cmpP c x y → K t loc r σ) ∧ (cmpN c x y → K (pc + 3) loc r σ)) stk
    | none => False
  | .ifCond c off => match tg pc off with
    | some t => s1 (fun x r => (cmpP c x 0 → K t loc r σ) ∧ (cmpN c x 0 → K (pc + 3) loc r σ)) stk
    | none => False
  | .tableswitch dflt lo hi offs => bif Nat.beq offs.size (hi - lo + 1).toNat then
      s1 (fun x r => (x.toInt < lo ∨ hi < x.toInt → match tg pc dflt with | some t => K t loc r σ | none => False) ∧ tsw pc (fun t => K t loc r σ) x offs.toList lo) stk
    else False
  | .ldc idx => match plk pl idx with
    | some (.inr (.inr (.inl v))) => K (pc + 2) loc (ai v :: stk) σ
    | _ => False
  | .ldc_w idx => match plk pl idx with
    | some (.inr (.inr (.inl v))) => K (pc + 3) loc (ai v :: stk) σ
    | _ => False
  | .getfield idx => match plk pl idx with
    | some (.inl (ci, j, _)) => match stk with
      | .inr (k, i) :: r => match kS k with
        | .inl (ci', fl) => bif Nat.beq ci ci' then (match fl[j]? with
          | some none => K (pc + 3) loc (ai (σ.1 k i j) :: r) σ
          | some (some rk) => K (pc + 3) loc (ar rk i :: r) σ
          | none => False) else False
        | _ => False
      | _ => False
    | _ => False
  | .putfield idx => match plk pl idx with
    | some (.inl (ci, j, 1)) => match stk with
      | .inl (.int v) :: .inr (k, i) :: r => match kS k with
        | .inl (ci', fl) => bif Nat.beq ci ci' then (match fl[j]? with
          | some none => K (pc + 3) loc r (wI σ k i j v)
          | _ => False) else False
        | _ => False
      | _ => False
    | some (.inl (ci, j, 2)) => match stk with
      | .inl (.int v) :: .inr (k, i) :: r => match kS k with
        | .inl (ci', fl) => bif Nat.beq ci ci' then (match fl[j]? with
          | some none => (v = 0 ∨ v = 1) ∧ K (pc + 3) loc r (wI σ k i j v)
          | _ => False) else False
        | _ => False
      | _ => False
    | _ => False
  | .iaload => sAI (fun x k i r => match kS k with
    | .inr (0, n, _) => vp_in x n ∧ K (pc + 1) loc (ai (σ.1 k i x.toNatClampNeg) :: r) σ
    | _ => False) stk
  | .laload => sAI (fun x k i r => match kS k with
    | .inr (1, n, _) => vp_in x n ∧ K (pc + 1) loc (al (σ.2 k i x.toNatClampNeg) :: r) σ
    | _ => False) stk
  | .aaload => sAI (fun x k _ r => match kS k with
    | .inr (t + 3, n, rk) => bif Nat.ble t 2 then (vp_in x n ∧ K (pc + 1) loc (ar rk x.toNatClampNeg :: r) σ) else False
    | _ => False) stk
  | .iastore => sAII (fun v x k i r => match kS k with
    | .inr (0, n, _) => vp_in x n ∧ K (pc + 1) loc r (wI σ k i x.toNatClampNeg v)
    | _ => False) stk
  | .lastore => match stk with
    | .inl (.long v) :: .inl (.int x) :: .inr (k, i) :: r => match kS k with
      | .inr (1, n, _) => vp_in x n ∧ K (pc + 1) loc r (wL σ k i x.toNatClampNeg v)
      | _ => False
    | _ => False
  | .arraylength => match stk with
    | .inr (k, _) :: r => match kS k with
      | .inr (t, n, _) => bif Nat.ble t 5 then K (pc + 1) loc (ai (Int32.ofNat n) :: r) σ else False
      | _ => False
    | _ => False
  | .invokevirtual idx => match plk pl idx with
    | some (.inr (.inl S)) => match S.2.2.2.2.2 with
      | some ci => match stk.drop S.2.2.2.2.1 with
        | .inr (k, i) :: r => match kS k with
          | .inl (ci', _) => bif Nat.beq ci ci' && Nat.ble (sumC r) 8 then
              opS I d S (.inr (k, i) :: (stk.take S.2.2.2.2.1).reverse) σ (fun v σ' => K (pc + 3) loc (v ++ r) σ') else False
          | _ => False
        | _ => False
      | none => False
    | _ => False
  | .invokestatic idx => match plk pl idx with
    | some (.inr (.inl S)) => match S.2.2.2.2.2 with
      | none => bif Nat.beq (stk.take S.2.2.2.2.1).length S.2.2.2.2.1 && Nat.ble (sumC (stk.drop S.2.2.2.2.1)) 8 then
          opS I d S (stk.take S.2.2.2.2.1).reverse σ (fun v σ' => K (pc + 3) loc (v ++ stk.drop S.2.2.2.2.1) σ') else False
      | some _ => False
    | some (.inr (.inr (.inr (.inr 2)))) => match stk with
      | .inl (.int x) :: .inr (k, i) :: r => bif Nat.ble (sumC r) 8 && (Nat.beq k 29 && Nat.beq i 0) then (¬ x < 0 ∧ ∀ v, K (pc + 3) loc (ai v :: r) σ) else False
      | _ => False
    | some (.inr (.inr (.inr (.inr 1)))) => s2 (fun x y r => bif Nat.ble (sumC r) 8 then K (pc + 3) loc (ai (if y < x then y else x) :: r) σ else False) stk
    | some (.inr (.inr (.inr (.inr 0)))) => match stk with
      | .inl (.int n) :: .inl (.int dp) :: .inr (k, i) :: .inl (.int sp) :: .inr (k0, i0) :: r => match kS k, kS k0 with
        | .inr (1, n1, _), .inr (1, n0, _) => bif Nat.ble (sumC r) 8 then
            (¬ sp < 0 ∧ ¬ dp < 0 ∧ ¬ n < 0 ∧ sp.toNatClampNeg + n.toNatClampNeg ≤ n0 ∧ dp.toNatClampNeg + n.toNatClampNeg ≤ n1 ∧ K (pc + 3) loc r (cpL σ k0 i0 k i sp.toNatClampNeg dp.toNatClampNeg n.toNatClampNeg)) else False
        | _, _ => False
      | _ => False
    | _ => False
  | .ireturn => match stk with
    | [.inl (.int v)] => match ret with
      | some .int => Q (some (ai v)) σ
      | some .boolean => (v = 0 ∨ v = 1) ∧ Q (some (ai v)) σ
      | _ => False
    | _ => False
  | .lreturn => match stk with
    | [.inl (.long v)] => match ret with
      | some .long => Q (some (al v)) σ
      | _ => False
    | _ => False
  | .areturn => match stk with
    | [.inr q] => match ret with
      | some (.object _) => Q (some (.inr q)) σ
      | _ => False
    | _ => False
  | .return_ => match stk with
    | [] => match ret with
      | none => Q none σ
      | _ => False
    | _ => False
  | _ => False
/-- how many bytes an instruction of a plain kind takes -/
def ilen : Instr → Nat
  | .bipush _ | .iload _ | .lload _ | .aload _ | .istore _ | .astore _ | .ldc _ => 2
  | .sipush _ | .iinc _ _ | .goto _ | .if_icmp _ _ | .ifCond _ _ | .ldc_w _ | .getfield _ | .putfield _ | .invokevirtual _ | .invokestatic _ => 3
  | _ => 1
def isTs : Instr → Bool
  | .tableswitch _ _ _ _ => true
  | _ => false
/-- the locals that a cut keeps -/
def pickL (loc : Loc2) : List Nat → Loc2
  | [] => []
  | i :: l => match lk loc i with
    | some v => (i, v) :: pickL loc l
    | none => pickL loc l
def cutN : List (Nat × List Nat) → Nat → Option (List Nat)
  | [], _ => none
  | (a, l) :: r, n => bif Nat.beq a n then some l else cutN r n
def wp (I : List KI) (M : MR) (d : Nat) (cuts : List (Nat × List Nat)) (Q : Option AV → Mem → Prop) : Nat → Kt
  | 0 => fun _ _ _ _ => False
  | n + 1 => fun pc loc stk σ => match M.2.2 pc with
    | some (ins, len) => bif Nat.beq len (ilen ins) || isTs ins then
        opI I d M.1.2.2.1 M.2.1 M.1.2.2.2.1 Q (fun pc' loc' stk' σ' => match cutN cuts pc' with
          | some l => J I M (d + 1) pc' (pickL loc' l) stk' σ' Q
          | none => wp I M d cuts Q n pc' loc' stk' σ') pc loc stk σ ins else False
    | none => False
/-! soundness: each instruction's transformer leads to the machine's judgement -/
theorem catA_toV (ρ : Nat → Nat → Nat) : ∀ v : AV, (toV ρ v).category = catA v
  | .inl _ => rfl
  | .inr _ => rfl
theorem toL_st1 (ρ : Nat → Nat → Nat) (i : Nat) (v : AV) (l : Loc2) : (i, toV ρ v) :: (toL ρ l).filter (fun q => !(q.1 == i) && !(q.1 + 1 == i && q.2.category == 2)) = toL ρ (st1 i v l) := by
  simp [st1, toL, List.filter_map, Function.comp_def, catA_toV]
theorem lk_mem : ∀ {l : Loc2} {i : Nat} {v : AV}, lk l i = some v → (i, v) ∈ l
  | [], _, _, h => by cases h
  | (j, u) :: l, i, v, h => by
    unfold lk at h
    cases hb : Nat.beq j i with
    | true =>
      rw [hb] at h
      have e := Nat.eq_of_beq_eq_true hb
      cases h
      rw [e]
      exact List.mem_cons_self
    | false =>
      rw [hb] at h
      exact List.mem_cons_of_mem _ (lk_mem h)
theorem lk_at {ρ : Nat → Nat → Nat} {ls : Array Slot} {nL i : Nat} {loc : Loc2} {v : AV} (hl : lv_has ls nL (toL ρ loc)) (h : lk loc i = some v) : ls[i]? = some (.val (toV ρ v)) :=
  hl.2.2 (i, toV ρ v) (List.mem_map.mpr ⟨(i, v), lk_mem h, rfl⟩)
theorem okL_lk {I : List KI} {loc : Loc2} {i : Nat} {v : AV} (h : okL I loc) (hk : lk loc i = some v) : okV I v := h (i, v) (lk_mem hk)
theorem okL_st1 {I : List KI} {loc : Loc2} {i : Nat} {v : AV} (h : okL I loc) (hv : okV I v) : okL I (st1 i v loc) := by
  intro q hq
  rcases List.mem_cons.mp hq with rfl | hq
  · exact hv
  · exact h q (List.mem_filter.mp hq).1
theorem okS_c {I : List KI} {v : AV} {l : List AV} (h : okV I v) (hl : okS I l) : okS I (v :: l) := fun u hu => (List.mem_cons.mp hu).elim (fun e => e ▸ h) (hl u)
theorem okI {I : List KI} {x : Value} : okV I (.inl x) := trivial
theorem okS_i {I : List KI} {x : Value} {l : List AV} (hl : okS I l) : okS I (.inl x :: l) := okS_c okI hl
theorem okS_t {I : List KI} {v : AV} {l : List AV} (h : okS I (v :: l)) : okS I l := fun u hu => h u (List.mem_cons_of_mem _ hu)
theorem okS_h {I : List KI} {v : AV} {l : List AV} (h : okS I (v :: l)) : okV I v := h v List.mem_cons_self
theorem okS_app {I : List KI} {a b : List AV} (h : okS I a) (h2 : okS I b) : okS I (a ++ b) := fun u hu => (List.mem_append.mp hu).elim (h u) (h2 u)
theorem sI_inv {K : Int32 → Prop} {o : Option AV} (h : sI K o) : ∃ x, o = some (ai x) ∧ K x := by
  unfold sI at h
  split at h
  · exact ⟨_, rfl, h⟩
  · exact h.elim
theorem sJ_inv {K : Int64 → Prop} {o : Option AV} (h : sJ K o) : ∃ x, o = some (al x) ∧ K x := by
  unfold sJ at h
  split at h
  · exact ⟨_, rfl, h⟩
  · exact h.elim
theorem sA_inv {K : KI → Prop} {o : Option AV} (h : sA K o) : ∃ q, o = some (.inr q) ∧ K q := by
  unfold sA at h
  split at h
  · exact ⟨_, rfl, h⟩
  · exact h.elim
theorem s1_inv {K : Int32 → List AV → Prop} {l : List AV} (h : s1 K l) : ∃ x r, l = ai x :: r ∧ K x r := by
  unfold s1 at h
  split at h
  · exact ⟨_, _, rfl, h⟩
  · exact h.elim
theorem s2_inv {K : Int32 → Int32 → List AV → Prop} {l : List AV} (h : s2 K l) : ∃ x y r, l = ai y :: ai x :: r ∧ K x y r := by
  unfold s2 at h
  split at h
  · exact ⟨_, _, _, rfl, h⟩
  · exact h.elim
theorem sAI_inv {K : Int32 → Nat → Nat → List AV → Prop} {l : List AV} (h : sAI K l) : ∃ x k i r, l = ai x :: ar k i :: r ∧ K x k i r := by
  unfold sAI at h
  split at h
  · exact ⟨_, _, _, _, rfl, h⟩
  · exact h.elim
theorem sAII_inv {K : Int32 → Int32 → Nat → Nat → List AV → Prop} {l : List AV} (h : sAII K l) : ∃ v x k i r, l = ai v :: ai x :: ar k i :: r ∧ K v x k i r := by
  unfold sAII at h
  split at h
  · exact ⟨_, _, _, _, _, rfl, h⟩
  · exact h.elim
theorem tg_eq {pc t : Nat} {off : Int} (h : tg pc off = some t) : (pc : Int) + off = (t : Int) := by
  unfold tg at h
  split at h
  next n e => cases h; exact e
  next => cases h
theorem bif_inv {b : Bool} {P : Prop} (h : bif b then P else False) : b = true ∧ P := by
  cases b
  · exact h.elim
  · exact ⟨rfl, h⟩
theorem sumC_eq (ρ : Nat → Nat → Nat) : ∀ l : List AV, ((l.map (toV ρ)).map fun v => v.category).sum = sumC l
  | [] => rfl
  | v :: l => by
    simp only [List.map_cons, List.sum_cons, sumC, catA_toV]
    rw [← sumC_eq ρ l]
section Sound
variable {I : List KI} {M : MR} {d pc : Nat} {loc : Loc2} {stk : List AV} {σ : Mem} {Q : Option AV → Mem → Prop}
/-- a step that changes neither memory nor locals -/
theorem J_pure {pc' : Nat} {stk' : List AV} (hs : ∀ (ρ : Nat → Nat → Nat) (p : Program) (l : Launch) (e : Env) (R : Room) (s : State) (m : MethodId) (args : Array Value) (below : List Frame) (meth : Method) (c : Code) (H : Heap) (locs : List Loc) (cells slots : Nat) (Qf : State → Prop) (ls : Array Slot), p.tables.exec = Jvm.exec → c.code = M.1.2.1 → s.vm.findClass M.1.1.cls = some m.cls → (∀ w ∈ TB, w.before args s = true) → lv_has ls M.1.2.2.1 (toL ρ loc) →
      W p l e R s m args below meth c H locs cells slots Qf (F0 m pc' ls (stk'.map (toV ρ))) → W p l e R s m args below meth c H locs cells slots Qf (F0 m pc ls (stk.map (toV ρ))))
    (hok : okL I loc → okS I stk → okS I stk') (k : J I M d pc' loc stk' σ Q) : J I M d pc loc stk σ Q := by
  intro hX p l e R s m args below meth c D cy ρ A cells slots H locs ls C h1 h2 hP hD hS hl hokl hoks
  exact hs ρ p l e R s m args below meth c H locs cells slots _ ls C.1 C.2.1 C.2.2.2.2.2.1 C.2.2.2.2.2.2.1 hl (k hX p l e R s m args below meth c D cy ρ A cells slots H locs ls C h1 h2 hP hD hS hl hokl (hok hokl hoks))
/-- a step that writes a local -/
theorem J_loc {pc' i : Nat} {v : AV} {stk' : List AV} (hs : ∀ (ρ : Nat → Nat → Nat) (p : Program) (l : Launch) (e : Env) (R : Room) (s : State) (m : MethodId) (args : Array Value) (below : List Frame) (meth : Method) (c : Code) (H : Heap) (locs : List Loc) (cells slots : Nat) (Qf : State → Prop) (ls : Array Slot), p.tables.exec = Jvm.exec → c.code = M.1.2.1 → lv_has ls M.1.2.2.1 (toL ρ loc) →
      (∀ ls' : Array Slot, lv_has ls' M.1.2.2.1 (toL ρ (st1 i v loc)) → W p l e R s m args below meth c H locs cells slots Qf (F0 m pc' ls' (stk'.map (toV ρ)))) → W p l e R s m args below meth c H locs cells slots Qf (F0 m pc ls (stk.map (toV ρ))))
    (hok : okL I loc → okS I stk → okV I v ∧ okS I stk') (k : J I M d pc' (st1 i v loc) stk' σ Q) : J I M d pc loc stk σ Q := by
  intro hX p l e R s m args below meth c D cy ρ A cells slots H locs ls C h1 h2 hP hD hS hl hokl hoks
  exact hs ρ p l e R s m args below meth c H locs cells slots _ ls C.1 C.2.1 hl (fun ls' hl' => k hX p l e R s m args below meth c D cy ρ A cells slots H locs ls' C h1 h2 hP hD hS hl' (okL_st1 hokl (hok hokl hoks).1) (hok hokl hoks).2)
/-- a branch -/
theorem J_br {t : Nat} {stk' : List AV} {P N : Prop} (hs : ∀ (ρ : Nat → Nat → Nat) (p : Program) (l : Launch) (e : Env) (R : Room) (s : State) (m : MethodId) (args : Array Value) (below : List Frame) (meth : Method) (c : Code) (H : Heap) (locs : List Loc) (cells slots : Nat) (Qf : State → Prop) (ls : Array Slot), p.tables.exec = Jvm.exec → c.code = M.1.2.1 →
      (P → W p l e R s m args below meth c H locs cells slots Qf (F0 m t ls (stk'.map (toV ρ)))) → (N → W p l e R s m args below meth c H locs cells slots Qf (F0 m (pc + 3) ls (stk'.map (toV ρ)))) → W p l e R s m args below meth c H locs cells slots Qf (F0 m pc ls (stk.map (toV ρ))))
    (hok : okS I stk → okS I stk') (k1 : P → J I M d t loc stk' σ Q) (k2 : N → J I M d (pc + 3) loc stk' σ Q) : J I M d pc loc stk σ Q := by
  intro hX p l e R s m args below meth c D cy ρ A cells slots H locs ls C h1 h2 hP hD hS hl hokl hoks
  exact hs ρ p l e R s m args below meth c H locs cells slots _ ls C.1 C.2.1 (fun h => k1 h hX p l e R s m args below meth c D cy ρ A cells slots H locs ls C h1 h2 hP hD hS hl hokl (hok hoks)) (fun h => k2 h hX p l e R s m args below meth c D cy ρ A cells slots H locs ls C h1 h2 hP hD hS hl hokl (hok hoks))
theorem J_cmp {K : Kt} {cd : Jvm.ClassFile.Cond} {off : Int} {t : Nat} (hdg : decode M.1.2.1 pc = .ok (.if_icmp cd off, 3)) (ht : tg pc off = some t) {x y : Int32} {r : List AV} (k1 : cmpP cd x y → J I M d t loc r σ Q) (k2 : cmpN cd x y → J I M d (pc + 3) loc r σ Q) : J I M d pc loc (ai y :: ai x :: r) σ Q := by
  have ht' := tg_eq ht
  refine J_br (P := cmpP cd x y) (N := cmpN cd x y) (t := t) (stk' := r) ?_ (fun h => okS_t (okS_t h)) k1 k2
  intro ρ p l e R s m args below meth c H locs cells slots Qf ls hx hb q1 q2
  cases cd
  · exact lv_icmp_eq (tgt := t) hx hb hdg ht' q1 q2
  · exact lv_icmp_ne (tgt := t) hx hb hdg ht' q1 q2
  · exact lv_icmp_lt (tgt := t) hx hb hdg ht' q1 q2
  · exact lv_icmp_ge (tgt := t) hx hb hdg ht' q1 q2
  · exact lv_icmp_gt (tgt := t) hx hb hdg ht' q1 q2
  · exact lv_icmp_le (tgt := t) hx hb hdg ht' q1 q2
theorem J_if0 {cd : Jvm.ClassFile.Cond} {off : Int} {t : Nat} (hdg : decode M.1.2.1 pc = .ok (.ifCond cd off, 3)) (ht : tg pc off = some t) {x : Int32} {r : List AV} (k1 : cmpP cd x 0 → J I M d t loc r σ Q) (k2 : cmpN cd x 0 → J I M d (pc + 3) loc r σ Q) : J I M d pc loc (ai x :: r) σ Q := by
  have ht' := tg_eq ht
  refine J_br (P := cmpP cd x 0) (N := cmpN cd x 0) (t := t) (stk' := r) ?_ (fun h => okS_t h) k1 k2
  intro ρ p l e R s m args below meth c H locs cells slots Qf ls hx hb q1 q2
  cases cd
  · exact lv_if_eq (tgt := t) hx hb hdg ht' q1 q2
  · exact lv_if_ne (tgt := t) hx hb hdg ht' q1 q2
  · exact lv_if_lt (tgt := t) hx hb hdg ht' q1 q2
  · exact lv_if_ge (tgt := t) hx hb hdg ht' q1 q2
  · exact lv_if_gt (tgt := t) hx hb hdg ht' q1 q2
  · exact lv_if_le (tgt := t) hx hb hdg ht' q1 q2
/-- two ints into one -/
theorem J_bin {x y : Int32} {f : Int32 → Int32 → Int32} (hs : ∀ (p : Program) (l : Launch) (e : Env) (R : Room) (s : State) (m : MethodId) (args : Array Value) (below : List Frame) (meth : Method) (c : Code) (H : Heap) (locs : List Loc) (cells slots : Nat) (Qf : State → Prop) (ls : Array Slot) (rest : List Value), p.tables.exec = Jvm.exec → c.code = M.1.2.1 →
      W p l e R s m args below meth c H locs cells slots Qf (F0 m (pc + 1) ls (.int (f x y) :: rest)) → W p l e R s m args below meth c H locs cells slots Qf (F0 m pc ls (.int y :: .int x :: rest))) {r : List AV} (k : J I M d (pc + 1) loc (ai (f x y) :: r) σ Q) : J I M d pc loc (ai y :: ai x :: r) σ Q :=
  J_pure (fun ρ p l e R s m args below meth c H locs cells slots Qf ls hx hb _ _ _ k => hs p l e R s m args below meth c H locs cells slots Qf ls (r.map (toV ρ)) hx hb k) (fun _ h => okS_i (okS_t (okS_t h))) k
end Sound
/-! what a method and its pool must be -/
def Sok (S : SR) : Prop := Jvm.Cond.code S.1 S.2.1 S.2.2.1 S.2.2.2.1 ∈ TB ∧ Jvm.Cond.initialized S.1.cls ∈ TB ∧ (S.1.cls ≠ "java/lang/invoke/MethodHandle" ∧ S.1.cls ≠ "java/lang/invoke/VarHandle" ∧ (parseMethodDescriptor S.1.desc).map (fun d => d.parameters.length) = some S.2.2.2.2.1) ∧ S.2.2.1 ≤ 21 ∧ plainName S.1.cls = true ∧ (match S.2.2.2.2.2 with
  | none => Jvm.Cond.static S.1 ∈ TB
  | some ci => Jvm.Cond.instanceMethod S.1 ∈ TB ∧ Jvm.Cond.selects S.1.cls S.1 S.1 ∈ TB ∧ (vwCl[ci]?).map (fun q => q.1) = some S.1.cls)
def PEok (own : String) (idx : Nat) : PE → Prop
  | .inl (ci, j, w) => ∃ (C : String) (T : u_T) (N : Nat), vwCl[ci]? = some (C, T, N) ∧ (∀ x ∈ u_ws C T N, x ∈ TB) ∧ j < N ∧ (Jvm.Cond.fieldLink own idx (T j).1 (T j).2.1 (T j).2.2.1 ∈ TB ∨ ∃ host, (own, idx, (T j).1, (T j).2.1, (T j).2.2.1, host) ∈ NWf) ∧ (∃ ty : Nat → FieldType, (∀ k, k < N → parseFieldDescriptor (T k).2.2.1 = some (ty k)) ∧ (w = 1 → ty j = .int) ∧ (w = 2 → ty j = .boolean)) ∧ (∀ a, a < N → ∀ b, b < N → a ≠ b → (T a).2.1 ≠ (T b).2.1) ∧ (0 < w → (T j).2.2.2 = false)
  | .inr (.inl S) => Sok S ∧ (Jvm.Cond.methodLink own idx S.1 ∈ TB ∨ ∃ host, (own, idx, S.1, host) ∈ NWm)
  | .inr (.inr (.inl v)) => Jvm.Cond.constant own idx v ∈ TB
  | .inr (.inr (.inr (.inl v))) => Jvm.Cond.constantLong own idx v ∈ TB
  | .inr (.inr (.inr (.inr 0))) => Jvm.Cond.methodLink own idx arraycopyName ∈ TB ∧ Jvm.Cond.native arraycopyName ∈ TB ∧ Jvm.Cond.static arraycopyName ∈ TB ∧ Jvm.Cond.initialized "java/lang/System" ∈ TB
  | .inr (.inr (.inr (.inr 2))) => Jvm.Cond.methodLink own idx yL_at ∈ TB ∧ Jvm.Cond.static yL_at ∈ TB ∧ Jvm.Cond.initialized "TownFolkLaw" ∈ TB ∧ Jvm.Cond.code yL_at cL_at 2 (some .int) ∈ TB
  | .inr (.inr (.inr (.inr 1))) => Jvm.Cond.methodLink own idx Lib.Math.min.name ∈ TB ∧ Jvm.Cond.static Lib.Math.min.name ∈ TB ∧ Jvm.Cond.initialized "java/lang/Math" ∈ TB ∧ Jvm.Cond.code Lib.Math.min.name Lib.Math.min.code 2 (some .int) ∈ TB
  | _ => False
def MOK (M : MR) : Prop := (∀ pc q, M.2.2 pc = some q → decode M.1.2.1 pc = .ok q) ∧ (∀ q ∈ M.2.1, PEok M.1.1.cls q.1 q.2) ∧ (noAt M.2.1 || scM M) = true
def LC (I : List KI) : Prop := ∀ q ∈ I, match kS q.1 with
  | .inl (_, fl) => ∀ rk, some rk ∈ fl → (rk, q.2) ∈ I
  | .inr (t, n, rk) => 3 ≤ t → ∀ j, j < n → (rk, j) ∈ I
def OKI (I : List KI) : Prop := I.Nodup ∧ LC I
theorem plk_mem : ∀ {l : List (Nat × PE)} {i : Nat} {e : PE}, plk l i = some e → (i, e) ∈ l
  | [], _, _, h => by cases h
  | (j, u) :: l, i, e, h => by
    unfold plk at h
    cases hb : Nat.beq j i with
    | true =>
      rw [hb] at h
      have e := Nat.eq_of_beq_eq_true hb
      cases h
      rw [e]
      exact List.mem_cons_self
    | false =>
      rw [hb] at h
      exact List.mem_cons_of_mem _ (plk_mem h)
theorem tys_at (cy : Nat → ClassId) {t : Nat} (h : t ≤ 5) : (tysOf cy)[t]? = some (cy t, tyT t) := by
  match t, h with
  | 0, _ => rfl
  | 1, _ => rfl
  | 2, _ => rfl
  | 3, _ => rfl
  | 4, _ => rfl
  | 5, _ => rfl
  | n + 6, h => omega
theorem ent_obj {cy : Nat → ClassId} {ρ : Nat → Nat → Nat} {σ : Mem} {k i ci : Nat} {fl : List (Option Nat)} (h : kS k = .inl (ci, fl)) : ent kS cy ρ σ k i = .inr (ci, entF ρ σ k i 0 fl) := by
  unfold ent
  rw [h]
theorem ent_a0 {cy : Nat → ClassId} {ρ : Nat → Nat → Nat} {σ : Mem} {k i n r : Nat} (h : kS k = .inr (0, n, r)) : ent kS cy ρ σ k i = .inl (cy 0, n, .inl (σ.1 k i)) := by
  unfold ent
  rw [h]
theorem ent_a1 {cy : Nat → ClassId} {ρ : Nat → Nat → Nat} {σ : Mem} {k i n r : Nat} (h : kS k = .inr (1, n, r)) : ent kS cy ρ σ k i = .inl (cy 1, n, .inr (.inl (σ.2 k i))) := by
  unfold ent
  rw [h]
theorem ent_a2 {cy : Nat → ClassId} {ρ : Nat → Nat → Nat} {σ : Mem} {k i n r : Nat} (h : kS k = .inr (2, n, r)) : ent kS cy ρ σ k i = .inl (cy 2, n, .inl (σ.1 k i)) := by
  unfold ent
  rw [h]
theorem ent_a3 {cy : Nat → ClassId} {ρ : Nat → Nat → Nat} {σ : Mem} {k i n r t : Nat} (h : kS k = .inr (t + 3, n, r)) : ent kS cy ρ σ k i = .inl (cy (t + 3), n, .inr (.inr (.inr (.inr (fun j => some (ρ r j)))))) := by
  unfold ent
  rw [h]
theorem wI_k {σ : Mem} {k i j : Nat} {v : Int32} (f : Nat → Int32) (hf : f = σ.1 k i) : upd f j v = (wI σ k i j v).1 k i := by
  funext q
  by_cases h : q = j <;> simp [wI_r, upd, h, hf]
theorem wL_k {σ : Mem} {k i j : Nat} {v : Int64} (f : Nat → Int64) (hf : f = σ.2 k i) : vp_updL f j v = (wL σ k i j v).2 k i := by
  funext q
  by_cases h : q = j <;> simp [wL_r, vp_updL, h, hf]
theorem wI_o {cy : Nat → ClassId} {ρ : Nat → Nat → Nat} {σ : Mem} {k i j : Nat} {v : Int32} (k' i' : Nat) (h : ¬ (k' = k ∧ i' = i)) : ent kS cy ρ σ k' i' = ent kS cy ρ (wI σ k i j v) k' i' := by
  refine ent_congr (fun q => ?_) (fun q => rfl)
  rw [wI_r, if_neg (fun z => h ⟨z.1, z.2.1⟩)]
theorem wL_o {cy : Nat → ClassId} {ρ : Nat → Nat → Nat} {σ : Mem} {k i j : Nat} {v : Int64} (k' i' : Nat) (h : ¬ (k' = k ∧ i' = i)) : ent kS cy ρ σ k' i' = ent kS cy ρ (wL σ k i j v) k' i' := by
  refine ent_congr (fun q => rfl) (fun q => ?_)
  rw [wL_r, if_neg (fun z => h ⟨z.1, z.2.1⟩)]
theorem cpL_o {cy : Nat → ClassId} {ρ : Nat → Nat → Nat} {σ : Mem} {k0 i0 k i sp dp n : Nat} (k' i' : Nat) (h : ¬ (k' = k ∧ i' = i)) : ent kS cy ρ σ k' i' = ent kS cy ρ (cpL σ k0 i0 k i sp dp n) k' i' := by
  refine ent_congr (fun q => rfl) (fun q => ?_)
  rw [cpL_r, if_neg h]
section Sound2
variable {I : List KI} {M : MR} {d pc : Nat} {loc : Loc2} {σ : Mem} {Q : Option AV → Mem → Prop} {r : List AV}
theorem place_of {k i : Nat} (h : (k, i) ∈ I) : ∃ n : Nat, I[n]? = some (k, i) := List.getElem?_of_mem h
theorem J_getI (hM : MOK M) {idx ci j w k i : Nat} {fl : List (Option Nat)} (hp : plk M.2.1 idx = some (.inl (ci, j, w))) (hk : kS k = .inl (ci, fl)) (hj : fl[j]? = some none) (hdg : decode M.1.2.1 pc = .ok (.getfield idx, 3)) (k1 : J I M d (pc + 3) loc (ai (σ.1 k i j) :: r) σ Q) : J I M d pc loc (ar k i :: r) σ Q := by
  obtain ⟨C, T, N, hc, hin, hjN, hw, -⟩ := hM.2.1 _ (plk_mem hp)
  intro hX p l e R s m args below meth c D cy ρ A cells slots H locs ls Cx h1 h2 hP hD hS hl hokl hoks
  obtain ⟨n, hn⟩ := place_of (okM (okS_h hoks) (by rw [hk]; nofun))
  obtain ⟨hx, hb, hml, hr, hlocks, hown, hts, hA, hfr, hlo, hNw, hK, hSC⟩ := id Cx
  have he := wl_get (ks := kS) (cy := cy) (ρ := ρ) hn σ
  rw [ent_obj hk] at he
  have kk := k1 hX p l e R s m args below meth c D cy ρ A cells slots H locs ls Cx h1 h2 hP hD hS hl hokl (okS_i (okS_t hoks))
  rcases hw with hw | ⟨host, hw⟩
  · exact va_get (D := D) (ci := ci) (v := .int (σ.1 k i j)) hx hb hts hin hown hK hP n he hc j hjN (hts _ hw) (fun _ h => h) (by rw [entF_get, hj]; simp) hdg kk
  · exact va_getN (D := D) (host := host) (ci := ci) (v := .int (σ.1 k i j)) hx hb hts hin hown hK hP n he hc j hjN (va_Nw.use rfl (hNw.1 _ hw)) (fun _ h => h) (by rw [entF_get, hj]; simp) hdg kk
theorem J_getR (hI : OKI I) (hM : MOK M) {idx ci j w k i rk : Nat} {fl : List (Option Nat)} (hp : plk M.2.1 idx = some (.inl (ci, j, w))) (hk : kS k = .inl (ci, fl)) (hj : fl[j]? = some (some rk)) (hdg : decode M.1.2.1 pc = .ok (.getfield idx, 3)) (k1 : J I M d (pc + 3) loc (ar rk i :: r) σ Q) : J I M d pc loc (ar k i :: r) σ Q := by
  obtain ⟨C, T, N, hc, hin, hjN, hw, -⟩ := hM.2.1 _ (plk_mem hp)
  intro hX p l e R s m args below meth c D cy ρ A cells slots H locs ls Cx h1 h2 hP hD hS hl hokl hoks
  have hki : (k, i) ∈ I := okM (okS_h hoks) (by rw [hk]; nofun)
  obtain ⟨n, hn⟩ := place_of hki
  obtain ⟨hx, hb, hml, hr, hlocks, hown, hts, hA, hfr, hlo, hNw, hK, hSC⟩ := id Cx
  have he := wl_get (ks := kS) (cy := cy) (ρ := ρ) hn σ
  rw [ent_obj hk] at he
  have hrk : (rk, i) ∈ I := by
    have := hI.2 _ hki
    rw [hk] at this
    exact this rk (List.mem_of_getElem? hj)
  have kk := k1 hX p l e R s m args below meth c D cy ρ A cells slots H locs ls Cx h1 h2 hP hD hS hl hokl (okS_c (Or.inl hrk) (okS_t hoks))
  rcases hw with hw | ⟨host, hw⟩
  · exact va_get (D := D) (ci := ci) (v := .ref (ρ rk i)) hx hb hts hin hown hK hP n he hc j hjN (hts _ hw) (fun _ h => h) (by rw [entF_get, hj]; simp) hdg kk
  · exact va_getN (D := D) (host := host) (ci := ci) (v := .ref (ρ rk i)) hx hb hts hin hown hK hP n he hc j hjN (va_Nw.use rfl (hNw.1 _ hw)) (fun _ h => h) (by rw [entF_get, hj]; simp) hdg kk
theorem nar_bool {v : Int32} (h : v = 0 ∨ v = 1) : narrow .boolean (.int v) = .int v ∧ fits .boolean (.int v) = true := by
  rcases h with rfl | rfl <;> exact ⟨rfl, rfl⟩
theorem J_putI (hI : OKI I) (hM : MOK M) {idx ci j w k i : Nat} {fl : List (Option Nat)} {v : Int32} (hp : plk M.2.1 idx = some (.inl (ci, j, w))) (hw12 : w = 1 ∨ (w = 2 ∧ (v = 0 ∨ v = 1))) (hk : kS k = .inl (ci, fl)) (hj : fl[j]? = some none) (hdg : decode M.1.2.1 pc = .ok (.putfield idx, 3)) (k1 : J I M d (pc + 3) loc r (wI σ k i j v) Q) : J I M d pc loc (ai v :: ar k i :: r) σ Q := by
  obtain ⟨C, T, N, hc, hin, hjN, hw, ⟨ty, hty, ht1, ht2⟩, hnm, hfin⟩ := hM.2.1 _ (plk_mem hp)
  intro hX p l e R s m args below meth c D cy ρ A cells slots H locs ls Cx h1 h2 hP hD hS hl hokl hoks
  have hki : (k, i) ∈ I := okM (okS_h (okS_t hoks)) (by rw [hk]; intro z; simp at z; try omega)
  obtain ⟨n, hn⟩ := place_of hki
  obtain ⟨hx, hb, hml, hr, hlocks, hown, hts, hA, hfr, hlo, hNw, hK, hSC⟩ := id Cx
  have he := wl_get (ks := kS) (cy := cy) (ρ := ρ) hn σ
  rw [ent_obj hk] at he
  have hnf : narrow (ty j) (.int v) = .int v ∧ fits (ty j) (.int v) = true := by
    rcases hw12 with h | ⟨h, hv⟩
    · rw [ht1 h]; exact ⟨rfl, rfl⟩
    · rw [ht2 h]; exact nar_bool hv
  have kk : ∀ (H1 : Heap) (locs1 : List Loc), va_P D vwCl ((wl kS cy ρ I σ).set n (ρ k i, .inr (ci, (entF ρ σ k i 0 fl).set j (.int v)))) H1 → va_D A ((wl kS cy ρ I σ).set n (ρ k i, .inr (ci, (entF ρ σ k i 0 fl).set j (.int v)))) → va_S A s.heap H1 locs1 → W p l e R s m args below meth c H1 locs1 cells slots (MQ below (QQ I D cy ρ A Q) args s cells slots A) (F0 m (pc + 3) ls (r.map (toV ρ))) := by
    intro H1 locs1 hP1 hD1 hS1
    have e1 := wl_set (ks := kS) (cy := cy) (ρ := ρ) hI.1 hn (σ := σ) (σ' := wI σ k i j v) (e := .inr (ci, (entF ρ σ k i 0 fl).set j (.int v))) (by rw [ent_obj hk, entF_set hj]) (fun k' i' h => wI_o k' i' h)
    rw [e1] at hP1 hD1
    exact k1 hX p l e R s m args below meth c D cy ρ A cells slots H1 locs1 ls Cx h1 h2 hP1 hD1 hS1 hl hokl (okS_t (okS_t hoks))
  rcases hw with hw | ⟨host, hw⟩
  · exact va_put (D := D) (ci := ci) (v := .int v) (ty := ty j) hx hb hts hin ty hty hnm hown hK hP hD hS n he hc j hjN (hts _ hw) (fun _ h => h) (hfin (by rcases hw12 with h | ⟨h, -⟩ <;> omega)) (hty j hjN) hnf.1 hnf.2 (by rw [entF_len]; exact (List.getElem?_eq_some_iff.mp hj).1) hdg kk
  · exact va_putN (D := D) (host := host) (ci := ci) (v := .int v) (ty := ty j) hx hb hts hin ty hty hnm hown hK hP hD hS n he hc j hjN (va_Nw.use rfl (hNw.1 _ hw)) (fun _ h => h) (hfin (by rcases hw12 with h | ⟨h, -⟩ <;> omega)) (hty j hjN) hnf.1 hnf.2 (by rw [entF_len]; exact (List.getElem?_eq_some_iff.mp hj).1) hdg kk
theorem J_iald {k i n q : Nat} {x : Int32} (hk : kS k = .inr (0, n, q)) (hx0 : vp_in x n) (hdg : decode M.1.2.1 pc = .ok (.iaload, 1)) (k1 : J I M d (pc + 1) loc (ai (σ.1 k i x.toNatClampNeg) :: r) σ Q) : J I M d pc loc (ai x :: ar k i :: r) σ Q := by
  intro hX p l e R s m args below meth c D cy ρ A cells slots H locs ls Cx h1 h2 hP hD hS hl hokl hoks
  obtain ⟨z, hn⟩ := place_of (okM (okS_h (okS_t hoks)) (by rw [hk]; nofun))
  obtain ⟨hx, hb, hml, hr, hlocks, hown, hts, hA, hfr, hlo, hNw, hK, hSC⟩ := id Cx
  have he := wl_get (ks := kS) (cy := cy) (ρ := ρ) hn σ
  rw [ent_a0 hk] at he
  exact va_iald hx hb hK hP z 0 he (tys_at cy (by decide)) hx0 hdg (k1 hX p l e R s m args below meth c D cy ρ A cells slots H locs ls Cx h1 h2 hP hD hS hl hokl (okS_i (okS_t (okS_t hoks))))
theorem J_lald {k i n q : Nat} {x : Int32} (hk : kS k = .inr (1, n, q)) (hx0 : vp_in x n) (hdg : decode M.1.2.1 pc = .ok (.laload, 1)) (k1 : J I M d (pc + 1) loc (al (σ.2 k i x.toNatClampNeg) :: r) σ Q) : J I M d pc loc (ai x :: ar k i :: r) σ Q := by
  intro hX p l e R s m args below meth c D cy ρ A cells slots H locs ls Cx h1 h2 hP hD hS hl hokl hoks
  obtain ⟨z, hn⟩ := place_of (okM (okS_h (okS_t hoks)) (by rw [hk]; nofun))
  obtain ⟨hx, hb, hml, hr, hlocks, hown, hts, hA, hfr, hlo, hNw, hK, hSC⟩ := id Cx
  have he := wl_get (ks := kS) (cy := cy) (ρ := ρ) hn σ
  rw [ent_a1 hk] at he
  exact va_lald hx hb hK hP z 1 he (tys_at cy (by decide)) hx0 hdg (k1 hX p l e R s m args below meth c D cy ρ A cells slots H locs ls Cx h1 h2 hP hD hS hl hokl (okS_i (okS_t (okS_t hoks))))
theorem J_aald (hI : OKI I) {k i n q t : Nat} {x : Int32} (hk : kS k = .inr (t + 3, n, q)) (ht : t ≤ 2) (hx0 : vp_in x n) (hdg : decode M.1.2.1 pc = .ok (.aaload, 1)) (k1 : J I M d (pc + 1) loc (ar q x.toNatClampNeg :: r) σ Q) : J I M d pc loc (ai x :: ar k i :: r) σ Q := by
  intro hX p l e R s m args below meth c D cy ρ A cells slots H locs ls Cx h1 h2 hP hD hS hl hokl hoks
  have hki : (k, i) ∈ I := okM (okS_h (okS_t hoks)) (by rw [hk]; intro z; simp at z; try omega)
  obtain ⟨z, hn⟩ := place_of hki
  obtain ⟨hx, hb, hml, hr, hlocks, hown, hts, hA, hfr, hlo, hNw, hK, hSC⟩ := id Cx
  have he := wl_get (ks := kS) (cy := cy) (ρ := ρ) hn σ
  rw [ent_a3 hk] at he
  have hrk : (q, x.toNatClampNeg) ∈ I := by
    have := hI.2 _ hki
    rw [hk] at this
    exact this (by omega) _ (Nat.not_le.mp fun z => hx0 (Or.inr z))
  have hty := tys_at cy (t := t + 3) (by omega)
  have kk := k1 hX p l e R s m args below meth c D cy ρ A cells slots H locs ls Cx h1 h2 hP hD hS hl hokl (okS_c (Or.inl hrk) (okS_t (okS_t hoks)))
  match t, ht, hty, he with
  | 0, _, hty, he => exact va_aldq hx hb hK hP z 3 he hty hx0 hdg kk
  | 1, _, hty, he => exact va_aldq hx hb hK hP z 4 he hty hx0 hdg kk
  | 2, _, hty, he => exact va_aldq hx hb hK hP z 5 he hty hx0 hdg kk
theorem J_iast (hI : OKI I) {k i n q : Nat} {x v : Int32} (hk : kS k = .inr (0, n, q)) (hx0 : vp_in x n) (hdg : decode M.1.2.1 pc = .ok (.iastore, 1)) (k1 : J I M d (pc + 1) loc r (wI σ k i x.toNatClampNeg v) Q) : J I M d pc loc (ai v :: ai x :: ar k i :: r) σ Q := by
  intro hX p l e R s m args below meth c D cy ρ A cells slots H locs ls Cx h1 h2 hP hD hS hl hokl hoks
  obtain ⟨z, hn⟩ := place_of (okM (okS_h (okS_t (okS_t hoks))) (by rw [hk]; nofun))
  obtain ⟨hx, hb, hml, hr, hlocks, hown, hts, hA, hfr, hlo, hNw, hK, hSC⟩ := id Cx
  have he := wl_get (ks := kS) (cy := cy) (ρ := ρ) hn σ
  rw [ent_a0 hk] at he
  refine va_iast hx hb hK hP hD hS z 0 he (tys_at cy (by decide)) hx0 hdg (fun H1 locs1 hP1 hD1 hS1 => ?_)
  have e1 := wl_set (ks := kS) (cy := cy) (ρ := ρ) hI.1 hn (σ := σ) (σ' := wI σ k i x.toNatClampNeg v) (by rw [ent_a0 hk, ← wI_k (σ.1 k i) rfl]) (fun k' i' h => wI_o k' i' h)
  rw [e1] at hP1 hD1
  exact k1 hX p l e R s m args below meth c D cy ρ A cells slots H1 locs1 ls Cx h1 h2 hP1 hD1 hS1 hl hokl (okS_t (okS_t (okS_t hoks)))
theorem J_last (hI : OKI I) {k i n q : Nat} {x : Int32} {v : Int64} (hk : kS k = .inr (1, n, q)) (hx0 : vp_in x n) (hdg : decode M.1.2.1 pc = .ok (.lastore, 1)) (k1 : J I M d (pc + 1) loc r (wL σ k i x.toNatClampNeg v) Q) : J I M d pc loc (al v :: ai x :: ar k i :: r) σ Q := by
  intro hX p l e R s m args below meth c D cy ρ A cells slots H locs ls Cx h1 h2 hP hD hS hl hokl hoks
  obtain ⟨z, hn⟩ := place_of (okM (okS_h (okS_t (okS_t hoks))) (by rw [hk]; nofun))
  obtain ⟨hx, hb, hml, hr, hlocks, hown, hts, hA, hfr, hlo, hNw, hK, hSC⟩ := id Cx
  have he := wl_get (ks := kS) (cy := cy) (ρ := ρ) hn σ
  rw [ent_a1 hk] at he
  refine va_last hx hb hK hP hD hS z 1 he (tys_at cy (by decide)) hx0 hdg (fun H1 locs1 hP1 hD1 hS1 => ?_)
  have e1 := wl_set (ks := kS) (cy := cy) (ρ := ρ) hI.1 hn (σ := σ) (σ' := wL σ k i x.toNatClampNeg v) (by rw [ent_a1 hk, ← wL_k (σ.2 k i) rfl]) (fun k' i' h => wL_o k' i' h)
  rw [e1] at hP1 hD1
  exact k1 hX p l e R s m args below meth c D cy ρ A cells slots H1 locs1 ls Cx h1 h2 hP1 hD1 hS1 hl hokl (okS_t (okS_t (okS_t hoks)))
theorem J_alen {k i t n q : Nat} (hk : kS k = .inr (t, n, q)) (ht : t ≤ 5) (hdg : decode M.1.2.1 pc = .ok (.arraylength, 1)) (k1 : J I M d (pc + 1) loc (ai (Int32.ofNat n) :: r) σ Q) : J I M d pc loc (ar k i :: r) σ Q := by
  intro hX p l e R s m args below meth c D cy ρ A cells slots H locs ls Cx h1 h2 hP hD hS hl hokl hoks
  obtain ⟨z, hn⟩ := place_of (okM (okS_h hoks) (by rw [hk]; intro z; cases z; omega))
  obtain ⟨hx, hb, hml, hr, hlocks, hown, hts, hA, hfr, hlo, hNw, hK, hSC⟩ := id Cx
  have he := wl_get (ks := kS) (cy := cy) (ρ := ρ) hn σ
  have kk := k1 hX p l e R s m args below meth c D cy ρ A cells slots H locs ls Cx h1 h2 hP hD hS hl hokl (okS_i (okS_t hoks))
  match t, ht, hk with
  | 0, _, hk => rw [ent_a0 hk] at he; exact va_alen hx hb hK hP z 0 he (tys_at cy (by decide)) rfl hdg kk
  | 1, _, hk => rw [ent_a1 hk] at he; exact va_alen hx hb hK hP z 1 he (tys_at cy (by decide)) rfl hdg kk
  | 2, _, hk => rw [ent_a2 hk] at he; exact va_alen hx hb hK hP z 2 he (tys_at cy (by decide)) rfl hdg kk
  | t + 3, ht, hk => rw [ent_a3 hk] at he; exact va_alen hx hb hK hP z (t + 3) he (tys_at cy ht) rfl hdg kk
end Sound2
def gd (n : Nat) (f : Nat → Option (Instr × Nat)) (pc : Nat) : Option (Instr × Nat) := bif Nat.blt pc n then f pc else none
theorem gd_ok {b : ByteArray} {n : Nat} {f : Nat → Option (Instr × Nat)} (h : (List.range n).all (fun pc => match f pc with | none => true | some q => decide (decode b pc = .ok q)) = true) : ∀ pc q, gd n f pc = some q → decode b pc = .ok q := by
  intro pc q hg
  unfold gd at hg
  cases hb : Nat.blt pc n with
  | false => rw [hb] at hg; cases hg
  | true =>
    rw [hb] at hg
    have h1 := List.all_eq_true.mp h pc (List.mem_range.mpr (Nat.le_of_ble_eq_true hb))
    have hg' : f pc = some q := hg
    rw [hg'] at h1
    exact of_decide_eq_true h1
theorem lc_of {I : List KI} (h : I.all (fun q => match kS q.1 with | .inl (_, fl) => fl.all (fun o => match o with | none => true | some rk => I.contains (rk, q.2)) | .inr (t, n, rk) => Nat.blt t 3 || (List.range n).all (fun j => I.contains (rk, j))) = true) {q : KI} (hq : q ∈ I) : match kS q.1 with
    | .inl (_, fl) => ∀ rk, some rk ∈ fl → (rk, q.2) ∈ I
    | .inr (t, n, rk) => 3 ≤ t → ∀ j, j < n → (rk, j) ∈ I := by
  have h1 := List.all_eq_true.mp h q hq
  revert h1
  cases kS q.1 with
  | inl x =>
    intro h1 rk hrk
    have h2 := List.all_eq_true.mp h1 _ hrk
    simpa using h2
  | inr x =>
    intro h1 ht j hj
    rw [Bool.or_eq_true] at h1
    rcases h1 with h1 | h1
    · have := Nat.le_of_ble_eq_true h1
      exact absurd ht (by omega)
    · have h2 := List.all_eq_true.mp h1 j (List.mem_range.mpr hj)
      simpa using h2
section Calls3
variable {I : List KI} {M : MR} {d pc : Nat} {loc : Loc2} {σ : Mem} {Q : Option AV → Mem → Prop} {r : List AV}
theorem map_ret (ρ : Nat → Nat → Nat) (v : Option AV) (r : List AV) : (v.map (toV ρ)).toList ++ r.map (toV ρ) = (v.toList ++ r).map (toV ρ) := by
  cases v <;> simp
theorem blindC {I : List KI} {D : va_G} {cy : Nat → ClassId} {ρ : Nat → Nat → Nat} {sz : Nat} {σ : Mem} {av : List Value} : FrameBlind (va_Pc av (fun U => U.heap.size = sz ∧ va_P D vwCl (wl kS cy ρ I σ) U.heap ∧ va_K D vwCl (tysOf cy) U ∧ va_D (fun _ => True) (wl kS cy ρ I σ) ∧ NwOK U)) := by
  intro a U g mk q
  obtain ⟨q0, q1, qP, qK, qD, qN⟩ := q
  exact ⟨q0, q1, qP, va_K.moved (u := U) (U := U.calling g mk a) (Vm.Alike.refl U.vm) qK, qD, qN.same rfl⟩
/-- behind a call's run: go on with what it left -/
theorem J_back {S : SR} {av : List AV} {Q' : Option AV → Mem → Prop} {stk : List AV} (hav : okS I stk → okS I av) (hr : okS I stk → okS I r) (hC : Cal I d S av σ Q')
    (run : ∀ (p : Program) (l : Launch) (e : Env) (R : Room) (s : State) (m : MethodId) (args : Array Value) (below : List Frame) (meth : Method) (c : Code) (D : va_G) (cy : Nat → ClassId) (ρ : Nat → Nat → Nat) (A : Nat → Prop) (cells slots : Nat) (H : Heap) (locs : List Loc) (ls : Array Slot), Cx M (d + 1) p R s m args meth c D cy A ρ → cells ≤ R.cells → slots ≤ R.slots → va_P D vwCl (wl kS cy ρ I σ) H → va_D A (wl kS cy ρ I σ) → lv_has ls M.1.2.2.1 (toL ρ loc) → okS I stk →
      Met l S.1 (Jvm.Cond.code S.1 S.2.1 S.2.2.1 S.2.2.2.1 :: TB) (rmD d) (va_Pc (av.map (toV ρ)) (fun U => U.heap.size = H.size ∧ va_P D vwCl (wl kS cy ρ I σ) U.heap ∧ va_K D vwCl (tysOf cy) U ∧ va_D (fun _ => True) (wl kS cy ρ I σ) ∧ NwOK U)) (QQ I D cy ρ (va_A (wl kS cy ρ I σ) H.size) Q') 0 0 (va_A (wl kS cy ρ I σ) H.size) →
      va_Run p l e R s m args below meth c H locs cells slots 0 0 (F0 m pc ls (stk.map (toV ρ))) (r.map (toV ρ)) (QQ I D cy ρ (va_A (wl kS cy ρ I σ) H.size) Q' (av.map (toV ρ)).toArray) (va_A (wl kS cy ρ I σ) H.size))
    (kk : ∀ v σ', Q' v σ' → J I M (d + 1) (pc + 3) loc (v.toList ++ r) σ' Q) : J I M (d + 1) pc loc stk σ Q := by
  intro hX p l e R s m args below meth c D cy ρ A cells slots H locs ls Cx h1 h2 hP hD hS hl hokl hoks
  have hM := hC hX l D cy ρ H.size (hav hoks)
  have hrun := run p l e R s m args below meth c D cy ρ A cells slots H locs ls Cx h1 h2 hP hD hl hoks hM
  have hA := Cx.2.2.2.2.2.2.2.1
  have hFc : ∀ q, va_A (wl kS cy ρ I σ) H.size q → A q := by
    intro q h
    rcases h with ⟨k, e, h⟩ | h
    · exact hD.2 k (q, e) h
    · exact hA q (Nat.le_trans hS.1 h)
  intro T hT X
  obtain ⟨v, st₀, t, T', L, h0, X', hL, e1, e2, ⟨⟨v', σ', hv, hq, hP1, hK1, hD1, hok1⟩, hz, hkp⟩, st⟩ := hrun T hT X
  cases hv
  rw [h0] at hz hkp
  have hS1 : va_S A s.heap T'.heap (locs ++ L) := ⟨Nat.le_trans hS.1 (by rw [e1]; exact hz), fun q g1 g2 => by
      rw [e1, hkp q (Nat.lt_of_lt_of_le g1 hS.1) (fun z => g2 (hFc q z))]; exact hS.2.1 q g1 g2, fun q hq2 => by
      rcases List.mem_append.mp hq2 with h | h
      · exact hS.2.2 q h
      · exact hFc _ (hL q h)⟩
  obtain ⟨t2, a1, b1⟩ := kk v' σ' hq hX p l e R s m args below meth c D cy ρ A cells slots T'.heap (locs ++ L) ls Cx h1 h2 (by rw [e1]; exact hP1) (hD1.weaken (fun _ q _ h => hFc q.1 h)) hS1 hl hokl (okS_app hok1 (hr hoks)) T' rfl X'
  refine ⟨t2, st t2 ?_, b1⟩
  have e3 := map_ret ρ v' r
  have a2 : Steps p.tables e below (T'.setTop (F0 m (pc + 3) ls ((v'.map (toV ρ)).toList ++ r.map (toV ρ)))) t2 := by rw [e3]; exact a1
  exact a2
theorem goodC {S : SR} (hS : Sok S) : GoodIn TB (Jvm.Cond.code S.1 S.2.1 S.2.2.1 S.2.2.2.1 :: TB) := by
  intro w hw
  rcases List.mem_cons.mp hw with rfl | hw
  · exact tb_good _ hS.1
  · exact tb_good _ hw
theorem J_virt {S : SR} {idx ci k i : Nat} {as : List AV} {fl : List (Option Nat)} {Q' : Option AV → Mem → Prop} (hM : MOK M) (hp : plk M.2.1 idx = some (.inr (.inl S))) (hci : S.2.2.2.2.2 = some ci) (hdg : decode M.1.2.1 pc = .ok (.invokevirtual idx, 3)) (hlen : as.length = S.2.2.2.2.1) (hk : kS k = .inl (ci, fl)) (hr8 : sumC r ≤ 8) (hC : Cal I d S (ar k i :: as) σ Q')
    (kk : ∀ v σ', Q' v σ' → J I M (d + 1) (pc + 3) loc (v.toList ++ r) σ' Q) : J I M (d + 1) pc loc (as.reverse ++ ar k i :: r) σ Q := by
  obtain ⟨hS, hlink⟩ := hM.2.1 _ (plk_mem hp)
  obtain ⟨hcode, hini, hd, h21, hpl, hsel⟩ := id hS
  rw [hci] at hsel
  obtain ⟨hinst, hsel, hcl⟩ := hsel
  refine J_back (S := S) (av := ar k i :: as) (r := r) (Q' := Q') ?_ ?_ hC ?_ kk
  · intro h v hv
    refine h v ?_
    rcases List.mem_cons.mp hv with rfl | hv
    · exact List.mem_append_right _ List.mem_cons_self
    · exact List.mem_append_left _ (List.mem_reverse.mpr hv)
  · exact fun h v hv => h v (List.mem_append_right _ (List.mem_cons_of_mem _ hv))
  · intro p l e R s m args below meth c D cy ρ A cells slots H locs ls Cx h1 h2 hP hD hl hoks hMet
    obtain ⟨hx, hb, hml, hr, hlocks, hown, hts, hA, hfr, hlo, hNw, hK, hSC⟩ := id Cx
    have hki : (k, i) ∈ I := okM (hoks (ar k i) (List.mem_append_right _ List.mem_cons_self)) (by rw [hk]; nofun)
    obtain ⟨n, hn⟩ := place_of hki
    have he := wl_get (ks := kS) (cy := cy) (ρ := ρ) hn σ
    rw [ent_obj hk] at he
    obtain ⟨q, hq1, hq2⟩ : ∃ q, vwCl[ci]? = some q ∧ q.1 = S.1.cls := by
      cases hq : vwCl[ci]? with
      | none => rw [hq] at hcl; cases hcl
      | some q => rw [hq] at hcl; exact ⟨q, rfl, Option.some.inj hcl⟩
    have hrecv := va_recv hK hP hq1 he
    rw [hq2] at hrecv
    have hroom : (rmD d).frames + 1 ≤ R.frames ∧ 8 + (S.2.2.1 + 11) + (rmD d).locals ≤ R.locals := by
      show d + 1 ≤ R.frames ∧ 8 + (S.2.2.1 + 11) + 40 * d ≤ R.locals
      omega
    have pre : PreV s H S.1.cls (ρ k i) (va_Pc ((ar k i :: as).map (toV ρ)) (fun U => U.heap.size = H.size ∧ va_P D vwCl (wl kS cy ρ I σ) U.heap ∧ va_K D vwCl (tysOf cy) U ∧ va_D (fun _ => True) (wl kS cy ρ I σ) ∧ NwOK U)) (as.map (toV ρ)) := ⟨blindC, hrecv, fun U hU hW => ⟨rfl, by rw [hU], by rw [hU]; exact hP, va_K.moved hW.alike hK, hD.weaken (fun _ _ _ _ => trivial), hNw.warm hW⟩⟩
    rcases hlink with hlink | ⟨host, hlink⟩
    · exact va_runV (As := as.map (toV ρ)) (rest := r.map (toV ρ)) (b := ρ k i) (C := S.1.cls) (Ts := TB) (own := M.1.1.cls) (index := idx) (n := S.2.2.2.2.1) (g := F0 m pc ls ((as.reverse ++ ar k i :: r).map (toV ρ))) (locs := locs) (cells := cells) (slots := slots) (H := H) (args := args) (below := below) (meth := meth) (e := e) ⟨hx, hb, hml, hown, hts⟩ hMet
        ⟨callB_of S.2.2.2.2.1 hts (goodC hS) rfl rfl rfl (hts _ hini) (hts _ hlink) hd hroom, hts _ hinst, hts _ hsel⟩
        pre rfl (by simp [hlen]) hl.1 (by simp [toV, List.map_reverse]) (lv_room (by rw [sumC_eq]; exact hr8)) hdg ⟨by simpa using h1, by simpa using h2⟩
    · exact va_runVN (As := as.map (toV ρ)) (rest := r.map (toV ρ)) (b := ρ k i) (C := S.1.cls) (host := host) (Ts := TB) (own := M.1.1.cls) (index := idx) (n := S.2.2.2.2.1) (g := F0 m pc ls ((as.reverse ++ ar k i :: r).map (toV ρ))) (locs := locs) (cells := cells) (slots := slots) (H := H) (args := args) (below := below) (meth := meth) (e := e) ⟨hx, hb, hml, hown, hts⟩ hMet
        ⟨va_cnB S.2.2.2.2.1 hts (goodC hS) rfl rfl rfl (hNw.2 _ hlink) (hts _ hini) hd hroom, hts _ hinst, hts _ hsel⟩
        pre rfl (by simp [hlen]) hl.1 (by simp [toV, List.map_reverse]) (lv_room (by rw [sumC_eq]; exact hr8)) hdg ⟨by simpa using h1, by simpa using h2⟩
theorem J_stat {S : SR} {idx : Nat} {as : List AV} {Q' : Option AV → Mem → Prop} (hM : MOK M) (hp : plk M.2.1 idx = some (.inr (.inl S))) (hci : S.2.2.2.2.2 = none) (hdg : decode M.1.2.1 pc = .ok (.invokestatic idx, 3)) (hlen : as.length = S.2.2.2.2.1) (hr8 : sumC r ≤ 8) (hC : Cal I d S as σ Q')
    (kk : ∀ v σ', Q' v σ' → J I M (d + 1) (pc + 3) loc (v.toList ++ r) σ' Q) : J I M (d + 1) pc loc (as.reverse ++ r) σ Q := by
  obtain ⟨hS, hlink⟩ := hM.2.1 _ (plk_mem hp)
  obtain ⟨hcode, hini, hd, h21, hpl, hsel⟩ := id hS
  rw [hci] at hsel
  refine J_back (S := S) (av := as) (r := r) (Q' := Q') ?_ ?_ hC ?_ kk
  · exact fun h v hv => h v (List.mem_append_left _ (List.mem_reverse.mpr hv))
  · exact fun h v hv => h v (List.mem_append_right _ hv)
  · intro p l e R s m args below meth c D cy ρ A cells slots H locs ls Cx h1 h2 hP hD hl hoks hMet
    obtain ⟨hx, hb, hml, hr, hlocks, hown, hts, hA, hfr, hlo, hNw, hK, hSC⟩ := id Cx
    have hroom : (rmD d).frames + 1 ≤ R.frames ∧ 8 + (S.2.2.1 + 11) + (rmD d).locals ≤ R.locals := by
      show d + 1 ≤ R.frames ∧ 8 + (S.2.2.1 + 11) + 40 * d ≤ R.locals
      omega
    have pre : PreS s H (va_Pc (as.map (toV ρ)) (fun U => U.heap.size = H.size ∧ va_P D vwCl (wl kS cy ρ I σ) U.heap ∧ va_K D vwCl (tysOf cy) U ∧ va_D (fun _ => True) (wl kS cy ρ I σ) ∧ NwOK U)) (as.map (toV ρ)) := ⟨blindC, fun U hU hW => ⟨rfl, by rw [hU], by rw [hU]; exact hP, va_K.moved hW.alike hK, hD.weaken (fun _ _ _ _ => trivial), hNw.warm hW⟩⟩
    rcases hlink with hlink | ⟨host, hlink⟩
    · exact va_runS (As := as.map (toV ρ)) (rest := r.map (toV ρ)) (Ts := TB) (own := M.1.1.cls) (index := idx) (n := S.2.2.2.2.1) (g := F0 m pc ls ((as.reverse ++ r).map (toV ρ))) (locs := locs) (cells := cells) (slots := slots) (H := H) (args := args) (below := below) (meth := meth) (e := e) ⟨hx, hb, hml, hown, hts⟩ hMet
        ⟨callB_of S.2.2.2.2.1 hts (goodC hS) rfl rfl rfl (hts _ hini) (hts _ hlink) hd hroom, hts _ hsel⟩
        pre rfl (by simp [hlen]) hl.1 (by simp [List.map_reverse]) (lv_room (by rw [sumC_eq]; exact hr8)) hdg ⟨by simpa using h1, by simpa using h2⟩
    · exact va_runSN (As := as.map (toV ρ)) (rest := r.map (toV ρ)) (Ts := TB) (host := host) (own := M.1.1.cls) (index := idx) (n := S.2.2.2.2.1) (g := F0 m pc ls ((as.reverse ++ r).map (toV ρ))) (locs := locs) (cells := cells) (slots := slots) (H := H) (args := args) (below := below) (meth := meth) (e := e) ⟨hx, hb, hml, hown, hts⟩ hMet
        ⟨va_cnB S.2.2.2.2.1 hts (goodC hS) rfl rfl rfl (hNw.2 _ hlink) (hts _ hini) hd hroom, hts _ hsel, trivial⟩
        pre rfl (by simp [hlen]) hl.1 (by simp [List.map_reverse]) (lv_room (by rw [sumC_eq]; exact hr8)) hdg ⟨by simpa using h1, by simpa using h2⟩
theorem J_copy (hI : OKI I) (hM : MOK M) {idx k0 i0 k i n0 n1 z0 z1 : Nat} {sp dp n : Int32} (hp : plk M.2.1 idx = some (.inr (.inr (.inr (.inr 0))))) (hdg : decode M.1.2.1 pc = .ok (.invokestatic idx, 3)) (hk : kS k = .inr (1, n1, z1)) (hk0 : kS k0 = .inr (1, n0, z0)) (hr8 : sumC r ≤ 8) (g1 : ¬ sp < 0) (g2 : ¬ dp < 0) (g3 : ¬ n < 0) (g4 : sp.toNatClampNeg + n.toNatClampNeg ≤ n0) (g5 : dp.toNatClampNeg + n.toNatClampNeg ≤ n1)
    (k1 : J I M (d + 1) (pc + 3) loc r (cpL σ k0 i0 k i sp.toNatClampNeg dp.toNatClampNeg n.toNatClampNeg) Q) : J I M (d + 1) pc loc (ai n :: ai dp :: ar k i :: ai sp :: ar k0 i0 :: r) σ Q := by
  obtain ⟨hlink, hnat, hstat, hini⟩ := hM.2.1 _ (plk_mem hp)
  intro hX p l e R s m args below meth c D cy ρ A cells slots H locs ls Cx h1 h2 hP hD hS hl hokl hoks
  obtain ⟨z, hn⟩ := place_of (okM (okS_h (okS_t (okS_t hoks))) (by rw [hk]; nofun))
  obtain ⟨y, hn0⟩ := place_of (okM (okS_h (okS_t (okS_t (okS_t (okS_t hoks))))) (by rw [hk0]; nofun))
  obtain ⟨hx, hb, hml, hr, hlocks, hown, hts, hA, hfr, hlo, hNw, hK, hSC⟩ := id Cx
  have he := wl_get (ks := kS) (cy := cy) (ρ := ρ) hn σ
  rw [ent_a1 hk] at he
  have he0 := wl_get (ks := kS) (cy := cy) (ρ := ρ) hn0 σ
  rw [ent_a1 hk0] at he0
  refine va_copyl hx hb (hml.trans hl.1.symm) hown (hts _ hlink) (hts _ hnat) (hts _ hstat) (hts _ hini) hK hP hD hS y z 1 1 he0 he (tys_at cy (by decide)) (tys_at cy (by decide)) rfl g1 g2 g3 g4 g5 (fun i _ => rfl) (by omega) ?_ hdg (fun H1 locs1 hP1 hD1 hS1 => ?_)
  · rw [sumC_eq]
    have : nativeFrameWords "java/lang/System" "arraycopy" 5 + 11 ≤ 32 := by decide +kernel
    omega
  · have e1 := wl_set (ks := kS) (cy := cy) (ρ := ρ) hI.1 hn (σ := σ) (σ' := cpL σ k0 i0 k i sp.toNatClampNeg dp.toNatClampNeg n.toNatClampNeg) (e := .inl (cy 1, n1, .inr (.inl (va_cpy (σ.2 k0 i0) (σ.2 k i) sp.toNatClampNeg dp.toNatClampNeg n.toNatClampNeg)))) (by
      have e2 : va_cpy (σ.2 k0 i0) (σ.2 k i) sp.toNatClampNeg dp.toNatClampNeg n.toNatClampNeg = (cpL σ k0 i0 k i sp.toNatClampNeg dp.toNatClampNeg n.toNatClampNeg).2 k i := by
        funext q
        simp [cpL_r]
      rw [ent_a1 hk, e2]) (fun k' i' h => cpL_o k' i' h)
    rw [e1] at hP1 hD1
    exact k1 hX p l e R s m args below meth c D cy ρ A cells slots H1 locs1 ls Cx h1 h2 hP1 hD1 hS1 hl hokl (okS_t (okS_t (okS_t (okS_t (okS_t hoks)))))
theorem J_min (hM : MOK M) {idx : Nat} {x y : Int32} (hp : plk M.2.1 idx = some (.inr (.inr (.inr (.inr 1))))) (hdg : decode M.1.2.1 pc = .ok (.invokestatic idx, 3)) (hr8 : sumC r ≤ 8) (k1 : J I M (d + 1) (pc + 3) loc (ai (if y < x then y else x) :: r) σ Q) : J I M (d + 1) pc loc (ai y :: ai x :: r) σ Q := by
  obtain ⟨hlink, hstat, hini, hcode⟩ := hM.2.1 _ (plk_mem hp)
  intro hX p l e R s m args below meth c D cy ρ A cells slots H locs ls Cx h1 h2 hP hD hS hl hokl hoks
  obtain ⟨hx, hb, hml, hr, hlocks, hown, hts, hA, hfr, hlo, hNw, hK, hSC⟩ := id Cx
  refine va_mmin hx hb (hml.trans hl.1.symm) hown (hts _ hlink) (hts _ hstat) (hts _ hini) (hts _ hcode) (by omega) ?_ h1 h2 hdg (k1 hX p l e R s m args below meth c D cy ρ A cells slots H locs ls Cx h1 h2 hP hD hS hl hokl (okS_i (okS_t (okS_t hoks))))
  rw [sumC_eq]
  omega
theorem retQ {D : va_G} {cy : Nat → ClassId} {ρ : Nat → Nat → Nat} {A : Nat → Prop} {s : State} {args : Array Value} {H : Heap} {locs : List Loc} {v : Option AV} (hq : Q v σ) (hok : okS I v.toList) (hP : va_P D vwCl (wl kS cy ρ I σ) H) (hD : va_D A (wl kS cy ρ I σ)) (hS : va_S A s.heap H locs) (hK : va_K D vwCl (tysOf cy) s) : ∀ t : State, t.heap = H → s.WarmedH t.vm → QQ I D cy ρ A Q args s (.returned (v.map (toV ρ))) t :=
  fun _ ht hW => ⟨⟨v, σ, rfl, hq, by rw [ht]; exact hP, va_K.moved hW.alike hK, hD, hok⟩, hS.F ht⟩
theorem J_iret {v : Int32} {ty : FieldType} (hret : M.1.2.2.2.1 = some ty) (hn : narrow ty (.int v) = .int v) (hdg : decode M.1.2.1 pc = .ok (.ireturn, 1)) (hq : Q (some (ai v)) σ) : J I M d pc loc [ai v] σ Q := by
  intro hX p l e R s m args below meth c D cy ρ A cells slots H locs ls Cx h1 h2 hP hD hS hl hokl hoks
  obtain ⟨hx, hb, hml, hr, hlocks, hown, hts, hA, hfr, hlo, hNw, hK, hSC⟩ := id Cx
  exact W.zret (v := v) (ty := ty) hx hb (hr.trans hret) hn (retQ hq (fun u hu => by simp at hu; subst hu; trivial) hP hD hS hK) hS.2.2 hdg hlocks
theorem J_lret {v : Int64} (hret : M.1.2.2.2.1 = some .long) (hdg : decode M.1.2.1 pc = .ok (.lreturn, 1)) (hq : Q (some (al v)) σ) : J I M d pc loc [al v] σ Q := by
  intro hX p l e R s m args below meth c D cy ρ A cells slots H locs ls Cx h1 h2 hP hD hS hl hokl hoks
  obtain ⟨hx, hb, hml, hr, hlocks, hown, hts, hA, hfr, hlo, hNw, hK, hSC⟩ := id Cx
  exact W.lret (v := v) hx hb (hr.trans hret) (retQ hq (fun u hu => by simp at hu; subst hu; trivial) hP hD hS hK) hS.2.2 hdg hlocks
theorem J_aret {q : KI} {cn : String} (hret : M.1.2.2.2.1 = some (.object cn)) (hdg : decode M.1.2.1 pc = .ok (.areturn, 1)) (hq : Q (some (.inr q)) σ) : J I M d pc loc [.inr q] σ Q := by
  intro hX p l e R s m args below meth c D cy ρ A cells slots H locs ls Cx h1 h2 hP hD hS hl hokl hoks
  obtain ⟨hx, hb, hml, hr, hlocks, hown, hts, hA, hfr, hlo, hNw, hK, hSC⟩ := id Cx
  exact W.aret (v := .ref (ρ q.1 q.2)) (rt := .object cn) hx hb (hr.trans hret) (Or.inl ⟨_, rfl⟩) (Or.inr ⟨_, rfl⟩) (retQ (v := some (.inr q)) hq (fun u hu => by simp at hu; subst hu; exact okS_h hoks) hP hD hS hK) hS.2.2 hdg hlocks
/-- at(script, k): some int, nothing changes -/
theorem at_met (l : Launch) (b L : Nat) (xs : Nat → Int32) (k : Int32) (sz : Nat) (hL : L ≤ 260) (hk : ¬ k < 0) : Met l yL_at (Jvm.Cond.code yL_at cL_at 2 (some .int) :: TB) (rmD 0) (va_Pc [.ref b, .int k] (fun U => U.heap.size = sz ∧ va_X b L xs U U.heap ∧ b < U.heap.size)) (fun _ st oc t => (∃ v : Int32, oc = .returned (some (.int v))) ∧ va_F (fun q => sz ≤ q) st t) 0 0 (fun q => sz ≤ q) := by
  refine Met.ofW (cc := cL_at) (maxL := 2) (ret := some .int) (by decide) rfl ?_
  intro p e s m args below meth c s₁ B hml hv
  obtain ⟨rfl, hsz, hX, hbl⟩ := hv
  have hx := B.exec
  have hb := B.bytes
  have hr := B.returns
  have hlocks := B.notSynchronized
  subst hsz
  have hS : va_S (fun q : Nat => s.heap.size ≤ q) s.heap s.heap [] := va_S.rf
  have hbA : ¬ (fun q : Nat => s.heap.size ≤ q) b := Nat.not_le.mpr hbl
  have hl := lv_entry ([.ref b, .int k]) (n := 2) (Nat.le_of_ble_eq_true rfl)
  rw [lg_entry_eq]
  generalize (lg_sl ([.ref b, .int k]) ++ List.replicate (2 - (lg_sl ([.ref b, .int k])).length) Slot.unset).toArray = ls at hl ⊢
  have hl : lv_has ls 2 [(0, .ref b), (1, .int k)] := hl
  have fin : ∀ (y : Int32) (t : State), t.heap = s.heap → s.WarmedH t.vm → (∃ v : Int32, Outcome.returned (some (Value.int y)) = .returned (some (.int v))) ∧ va_F (fun q => s.heap.size ≤ q) s t := fun y t ht _ => ⟨⟨y, rfl⟩, hS.F ht⟩
  have d0 : decode cL_at 0 = .ok (.iload_n 1, 1) := by decide +kernel
  have d1 : decode cL_at 1 = .ok (.aload_n 0, 1) := by decide +kernel
  have d2 : decode cL_at 2 = .ok (.arraylength, 1) := by decide +kernel
  have d3 : decode cL_at 3 = .ok (.if_icmp .ge 9, 3) := by decide +kernel
  have d6 : decode cL_at 6 = .ok (.aload_n 0, 1) := by decide +kernel
  have d7 : decode cL_at 7 = .ok (.iload_n 1, 1) := by decide +kernel
  have d8 : decode cL_at 8 = .ok (.iaload, 1) := by decide +kernel
  have d9 : decode cL_at 9 = .ok (.goto 4, 3) := by decide +kernel
  have d12 : decode cL_at 12 = .ok (.iconst 0, 1) := by decide +kernel
  have d13 : decode cL_at 13 = .ok (.ireturn, 1) := by decide +kernel
  refine lv_iload_n hx hb d0 rfl (lv_at hl 1 rfl) ?_
  refine lv_aload_n hx hb d1 rfl (lv_at hl 0 rfl) ?_
  refine va_slen hx hb hX hbl hbA hS d2 ?_
  refine lv_icmp_ge (tgt := 12) hx hb d3 (by omega) (fun _ => ?_) (fun hlt => ?_)
  · refine lv_iconst (v := 0) hx hb d12 (by decide) ?_
    exact W.iret (v := 0) hx hb hr (fin 0) hS.2.2 d13
  · refine lv_aload_n hx hb d6 rfl (lv_at hl 0 rfl) ?_
    refine lv_iload_n hx hb d7 rfl (lv_at hl 1 rfl) ?_
    have hin : vp_in k L := by
      have e1 : (Int32.ofNat L).toInt = (L : Int) := by
        exact nI_toInt (by omega)
      rw [Int32.le_iff_toInt_le, e1] at hlt
      rw [Int32.lt_iff_toInt_lt] at hk
      have e2 : (0 : Int32).toInt = 0 := rfl
      intro hq
      rcases hq with hq | hq
      · rw [Int32.lt_iff_toInt_lt] at hq
        omega
      · have := Int32.toNat_toInt k
        omega
    refine va_sld hx hb hX hbl hbA hS hin d8 ?_
    refine lv_goto (tgt := 13) hx hb d9 (by omega) ?_
    exact W.iret hx hb hr (fin _) hS.2.2 d13
theorem J_at (hM : MOK M) {idx : Nat} {x : Int32} (hp : plk M.2.1 idx = some (.inr (.inr (.inr (.inr 2))))) (hdg : decode M.1.2.1 pc = .ok (.invokestatic idx, 3)) (hr8 : sumC r ≤ 8) (hx0 : ¬ x < 0) (k1 : ∀ v, J I M (d + 1) (pc + 3) loc (ai v :: r) σ Q) : J I M (d + 1) pc loc (ai x :: ar 29 0 :: r) σ Q := by
  have hsc : scM M = true := by
    have h := hM.2.2
    rw [Bool.or_eq_true] at h
    rcases h with h | h
    · have := List.all_eq_true.mp h _ (plk_mem hp)
      cases this
    · exact h
  obtain ⟨hlink, hstat, hini, hcode⟩ := hM.2.1 _ (plk_mem hp)
  intro hX p l e R s m args below meth c D cy ρ A cells slots H locs ls Cx h1 h2 hP hD hS hl hokl hoks
  obtain ⟨hx, hb, hml, hr, hlocks, hown, hts, hA, hfr, hlo, hNw, hK, hSC⟩ := id Cx
  obtain ⟨L, xs, hL, hXs, hbl, hbA⟩ := hSC hsc
  have hXH := hXs.kept (hS.2.1 _ hbl hbA)
  have hblH : ρ 29 0 < H.size := Nat.lt_of_lt_of_le hbl hS.1
  have blind : FrameBlind (va_Pc [.ref (ρ 29 0), .int x] (fun U => U.heap.size = H.size ∧ va_X (ρ 29 0) L xs U U.heap ∧ ρ 29 0 < U.heap.size)) := by
    intro a U g mk q
    obtain ⟨q0, q1, q2, q3⟩ := q
    exact ⟨q0, q1, va_X.moved (u := U) (U := U.calling g mk a) (Vm.Alike.refl U.vm) q2, q3⟩
  have pre : PreS s H (va_Pc [.ref (ρ 29 0), .int x] (fun U => U.heap.size = H.size ∧ va_X (ρ 29 0) L xs U U.heap ∧ ρ 29 0 < U.heap.size)) [.ref (ρ 29 0), .int x] := ⟨blind, fun U hU hW => ⟨rfl, by rw [hU], by rw [hU]; exact va_X.moved hW.alike hXH, by rw [hU]; exact hblH⟩⟩
  have hGood : GoodIn TB (Jvm.Cond.code yL_at cL_at 2 (some .int) :: TB) := by
    intro w hw
    rcases List.mem_cons.mp hw with rfl | hw
    · exact tb_good _ hcode
    · exact tb_good _ hw
  have hroom : (rmD 0).frames + 1 ≤ R.frames ∧ 8 + (2 + 11) + (rmD 0).locals ≤ R.locals := by
    show 0 + 1 ≤ R.frames ∧ 8 + (2 + 11) + 40 * 0 ≤ R.locals
    omega
  have run := va_runS (As := [.ref (ρ 29 0), .int x]) (rest := r.map (toV ρ)) (Ts := TB) (own := M.1.1.cls) (index := idx) (n := 2) (g := F0 m pc ls ((ai x :: ar 29 0 :: r).map (toV ρ))) (locs := locs) (cells := cells) (slots := slots) (H := H) (args := args) (below := below) (meth := meth) (e := e) ⟨hx, hb, hml, hown, hts⟩ (at_met l (ρ 29 0) L xs x H.size hL hx0)
    ⟨callB_of 2 hts hGood rfl rfl rfl (hts _ hini) (hts _ hlink) (by decide) hroom, hts _ hstat⟩
    pre rfl rfl hl.1 rfl (lv_room (by rw [sumC_eq]; exact hr8)) hdg ⟨by simpa using h1, by simpa using h2⟩
  intro T hT X
  obtain ⟨v, st₀, t, T', L', h0, X', hL', e1, e2, ⟨⟨y, hv⟩, hz, hkp⟩, stp⟩ := run T hT X
  cases hv
  rw [h0] at hz hkp
  have hS1 : va_S A s.heap T'.heap (locs ++ L') := ⟨Nat.le_trans hS.1 (by rw [e1]; exact hz), fun q g1 g2 => by
      rw [e1, hkp q (Nat.lt_of_lt_of_le g1 hS.1) (fun z => by
        have z : H.size ≤ q := z
        have := Nat.lt_of_lt_of_le g1 hS.1
        omega)]; exact hS.2.1 q g1 g2, fun q hq2 => by
      rcases List.mem_append.mp hq2 with h | h
      · exact hS.2.2 q h
      · exact hA _ (Nat.le_trans hS.1 (hL' q h))⟩
  have hP1 : va_P D vwCl (wl kS cy ρ I σ) T'.heap := fun k q hq => by
    have hlt := (hP k q hq).lt
    refine (hP k q hq).kept ?_
    rw [e1]
    exact hkp q.1 hlt (fun z => by
      have z : H.size ≤ q.1 := z
      omega)
  obtain ⟨t2, a1, b1⟩ := k1 y hX p l e R s m args below meth c D cy ρ A cells slots T'.heap (locs ++ L') ls Cx h1 h2 hP1 hD hS1 hl hokl (okS_i (okS_t (okS_t hoks))) T' rfl X'
  exact ⟨t2, stp t2 a1, b1⟩
theorem J_vret (hret : M.1.2.2.2.1 = none) (hdg : decode M.1.2.1 pc = .ok (.return_, 1)) (hq : Q none σ) : J I M d pc loc [] σ Q := by
  intro hX p l e R s m args below meth c D cy ρ A cells slots H locs ls Cx h1 h2 hP hD hS hl hokl hoks
  obtain ⟨hx, hb, hml, hr, hlocks, hown, hts, hA, hfr, hlo, hNw, hK, hSC⟩ := id Cx
  exact W.vret hx hb (hr.trans hret) (retQ hq (fun u hu => by simp at hu) hP hD hS hK) hS.2.2 hdg hlocks
/-! the locals with which a method begins -/
def locOf : Nat → List AV → Loc2
  | _, [] => []
  | i, v :: vs => (i, v) :: locOf (bif Nat.beq (catA v) 2 then i + 2 else i + 1) vs
theorem locOf_eq (ρ : Nat → Nat → Nat) : ∀ (vs : List AV) (i : Nat), lv_args i (vs.map (toV ρ)) = toL ρ (locOf i vs)
  | [], _ => rfl
  | v :: vs, i => by
    simp only [List.map_cons, lv_args, locOf, toL, catA_toV]
    rw [locOf_eq ρ vs]
    rcases h : Nat.beq (catA v) 2 with _ | _
    · have : ¬ catA v = 2 := fun e => by rw [e] at h; cases h
      simp [this, toL]
    · have : catA v = 2 := Nat.eq_of_beq_eq_true h
      simp [this, toL]
def wordsC : List AV → Nat
  | [] => 0
  | v :: l => (bif Nat.beq (catA v) 2 then 2 else 1) + wordsC l
theorem lgsl_len (ρ : Nat → Nat → Nat) : ∀ l : List AV, (lg_sl (l.map (toV ρ))).length ≤ wordsC l + 0
  | [] => by simp [lg_sl, wordsC]
  | v :: l => by
    have ih := lgsl_len ρ l
    simp only [lg_sl, List.map_cons, List.flatMap_cons, List.length_append] at ih ⊢
    rcases h : Nat.beq (catA v) 2 with _ | _
    · have : ¬ catA v = 2 := fun e => by rw [e] at h; cases h
      have hw : wordsC (v :: l) = 1 + wordsC l := by show (bif Nat.beq (catA v) 2 then 2 else 1) + wordsC l = _; rw [h]; rfl
      rw [hw, catA_toV, if_neg this]
      simp only [List.length_cons, List.length_nil]
      omega
    · have : catA v = 2 := Nat.eq_of_beq_eq_true h
      have hw : wordsC (v :: l) = 2 + wordsC l := by show (bif Nat.beq (catA v) 2 then 2 else 1) + wordsC l = _; rw [h]; rfl
      rw [hw, catA_toV, if_pos this]
      simp only [List.length_cons, List.length_nil]
      omega
theorem okL_locOf {I : List KI} : ∀ {vs : List AV} {i : Nat}, okS I vs → okL I (locOf i vs)
  | [], _, _ => fun _ h => by cases h
  | v :: vs, i, h => fun q hq => by
    rcases List.mem_cons.mp hq with rfl | hq
    · exact okS_h h
    · exact okL_locOf (okS_t h) q hq
theorem Cal.mono {S : SR} {av : List AV} {Q Q' : Option AV → Mem → Prop} (h : ∀ v σ', Q v σ' → Q' v σ') (hC : Cal I d S av σ Q) : Cal I d S av σ Q' := by
  intro hX l D cy ρ sz hok
  have h1 := hC hX l D cy ρ sz hok
  unfold Met at h1 ⊢
  refine MetFree.mono h1 (fun _ _ hp => hp) (fun _ _ _ _ _ _ => trivial) (fun a st o t _ hq => ?_)
  obtain ⟨⟨⟨v, σ', e1, e2, e3⟩, e4⟩, e5⟩ := hq
  exact ⟨⟨⟨v, σ', e1, h v σ' e2, e3⟩, e4⟩, e5⟩
theorem CalI.mono {S : SR} {av : List AV} {Q Q' : Int32 → Mem → Prop} (h : ∀ v σ', Q v σ' → Q' v σ') (hC : CalI I d S av σ Q) : CalI I d S av σ Q' := Cal.mono (fun _ _ hq => hq.elim fun x hx => ⟨x, hx.1, h _ _ hx.2⟩) hC
theorem CalL.mono {S : SR} {av : List AV} {Q Q' : Int64 → Mem → Prop} (h : ∀ v σ', Q v σ' → Q' v σ') (hC : CalL I d S av σ Q) : CalL I d S av σ Q' := Cal.mono (fun _ _ hq => hq.elim fun x hx => ⟨x, hx.1, h _ _ hx.2⟩) hC
theorem CalV.mono {S : SR} {av : List AV} {Q Q' : Mem → Prop} (h : ∀ σ', Q σ' → Q' σ') (hC : CalV I d S av σ Q) : CalV I d S av σ Q' := Cal.mono (fun _ _ hq => ⟨hq.1, h _ hq.2⟩) hC
/-- what an int, a long, nothing answered must be -/
abbrev KQ (K : Int32 → Mem → Prop) : Option AV → Mem → Prop := fun v σ' => ∃ x, v = some (ai x) ∧ K x σ'
abbrev KL (K : Int64 → Mem → Prop) : Option AV → Mem → Prop := fun v σ' => ∃ x, v = some (al x) ∧ K x σ'
abbrev KV (K : Mem → Prop) : Option AV → Mem → Prop := fun v σ' => v = none ∧ K σ'
theorem vpd {x : Int32} {n : Nat} (h : (decide (¬ x < 0) && Nat.blt x.toNatClampNeg n) = true) : vp_in x n := by
  rw [Bool.and_eq_true] at h
  have h1 := of_decide_eq_true h.1
  have h2 := Nat.le_of_ble_eq_true h.2
  intro hq
  rcases hq with hq | hq
  · exact h1 hq
  · omega
/-- a method's contract, out of its body -/
theorem Cal_of {av : List AV} (hS : Sok M.1) (hsc : scM M = false) (hw : Nat.ble (wordsC av) M.1.2.2.1 = true) (h : J I M d 0 (locOf 0 av) [] σ Q) : Cal I d M.1 av σ Q := by
  intro hX l D cy ρ sz hok
  obtain ⟨hcode, hini, hd, h21, hpl, hsel⟩ := hS
  refine Met.ofW (cc := M.1.2.1) (maxL := M.1.2.2.1) (ret := M.1.2.2.2.1) hpl rfl ?_
  intro p e s m args below meth c s₁ B hml hv
  obtain ⟨rfl, hsz, hP, hK, hD0, hNw⟩ := hv
  have hx := B.exec
  have hb := B.bytes
  have hr := B.returns
  have hts := atoms_spec (ws := Jvm.Cond.code M.1.1 M.1.2.1 M.1.2.2.1 M.1.2.2.2.1 :: TB) B.pre
  have hown : s.vm.findClass M.1.1.cls = some m.cls := findClass_of_methodNamed B.named
  have hlocks := B.notSynchronized
  subst hsz
  have hD := hD0.self (sz := s.heap.size)
  have hl := lv_entry (av.map (toV ρ)) (n := M.1.2.2.1) (Nat.le_trans (lgsl_len ρ av) (Nat.le_of_ble_eq_true hw))
  rw [lg_entry_eq]
  rw [locOf_eq] at hl
  exact h hX p l e (headSpec (Jvm.Cond.code M.1.1 M.1.2.1 M.1.2.2.1 M.1.2.2.2.1 :: TB) (rmD d)).room s m _ below meth c D cy ρ (va_A (wl kS cy ρ I σ) s.heap.size) 0 0 s.heap [] _ ⟨hx, hb, hml, hr, hlocks, hown, fun w hw => hts w (List.mem_cons_of_mem _ hw), fun q hq => Or.inr hq, Nat.le_refl _, Nat.le_refl _, hNw, hK, fun z => by rw [hsc] at z; cases z⟩ (Nat.zero_le _) (Nat.zero_le _) hP hD va_S.rf hl (okL_locOf hok) (fun _ h => by cases h)
end Calls3
section Main4
variable {I : List KI} {M : MR} {d pc : Nat} {loc : Loc2} {stk : List AV} {σ : Mem} {Q : Option AV → Mem → Prop} {K : Kt}
theorem len_of {len : Nat} {ins : Instr} (h : (Nat.beq len (ilen ins) || isTs ins) = true) (h2 : isTs ins = false) : len = ilen ins := by
  rw [h2, Bool.or_false] at h
  exact Nat.eq_of_beq_eq_true h
theorem opS_inv {S : SR} {av : List AV} {K1 : List AV → Mem → Prop} (h : opS I d S av σ K1) : ∃ Q' : Option AV → Mem → Prop, Cal I d S av σ Q' ∧ ∀ v σ', Q' v σ' → K1 v.toList σ' := by
  unfold opS at h
  split at h
  · exact ⟨_, h, fun v σ' hq => by obtain ⟨rfl, hq⟩ := hq; exact hq⟩
  · exact ⟨_, h, fun v σ' hq => by obtain ⟨x, rfl, hq⟩ := hq; exact hq⟩
  · exact ⟨_, h, fun v σ' hq => by obtain ⟨x, rfl, hq⟩ := hq; exact hq⟩
theorem J_tsw (hK : ∀ pc loc stk σ, K pc loc stk σ → J I M (d + 1) pc loc stk σ Q) {dflt lo hi : Int} {offs : Array Int} {len : Nat} {x : Int32} {r : List AV} (hdg : decode M.1.2.1 pc = .ok (.tableswitch dflt lo hi offs, len)) (hsz : offs.size = (hi - lo + 1).toNat)
    (h1 : x.toInt < lo ∨ hi < x.toInt → match tg pc dflt with | some t => K t loc r σ | none => False) (h2 : tsw pc (fun t => K t loc r σ) x offs.toList lo) : J I M (d + 1) pc loc (ai x :: r) σ Q := by
  have key : ∀ (l : List Int) (n : Int) (j : Nat) (o : Int), tsw pc (fun t => K t loc r σ) x l n → l[j]? = some o → x.toInt = n + j → ∃ t, tg pc o = some t ∧ K t loc r σ := by
    intro l
    induction l with
    | nil => intro n j o _ h; simp at h
    | cons a l ih =>
      intro n j o ht ho hx
      cases j with
      | zero =>
        simp only [List.getElem?_cons_zero, Option.some.injEq] at ho
        subst ho
        have := ht.1 (by omega)
        revert this
        cases tg pc a with
        | none => exact fun h => h.elim
        | some t => exact fun h => ⟨t, rfl, h⟩
      | succ j =>
        rw [List.getElem?_cons_succ] at ho
        exact ih (n + 1) j o ht.2 ho (by omega)
  by_cases hout : x.toInt < lo ∨ hi < x.toInt
  · have h3 := h1 hout
    cases ht : tg pc dflt with
    | none => rw [ht] at h3; exact h3.elim
    | some t =>
      rw [ht] at h3
      exact J_pure (pc' := t) (stk' := r) (fun ρ p l e R s m args below meth c H locs cells slots Qf ls hx hb _ _ _ k => lv_tableOut hx hb hdg hout (tg_eq ht) k) (fun _ h => okS_t h) (hK _ _ _ _ h3)
  · have h3 : ¬ x.toInt < lo := fun h => hout (Or.inl h)
    have h4 : ¬ hi < x.toInt := fun h => hout (Or.inr h)
    have hj : (x.toInt - lo).toNat < offs.size := by rw [hsz]; omega
    obtain ⟨o, ho⟩ : ∃ o, offs[(x.toInt - lo).toNat]? = some o := ⟨_, Array.getElem?_eq_getElem hj⟩
    obtain ⟨t, ht, hk⟩ := key offs.toList lo (x.toInt - lo).toNat o h2 (by rw [Array.getElem?_toList]; exact ho) (by omega)
    exact J_pure (pc' := t) (stk' := r) (fun ρ p l e R s m args below meth c H locs cells slots Qf ls hx hb _ _ _ k => lv_tableIn hx hb hdg h3 h4 ho (tg_eq ht) k) (fun _ h => okS_t h) (hK _ _ _ _ hk)
set_option maxHeartbeats 4000000 in
theorem opI_sound (hI : OKI I) (hM : MOK M) (hK : ∀ pc loc stk σ, K pc loc stk σ → J I M (d + 1) pc loc stk σ Q) : ∀ (ins : Instr) (len : Nat), decode M.1.2.1 pc = .ok (ins, len) → (Nat.beq len (ilen ins) || isTs ins) = true → opI I d M.1.2.2.1 M.2.1 M.1.2.2.2.1 Q K pc loc stk σ ins → J I M (d + 1) pc loc stk σ Q := by
  intro ins len hdg hlen h
  cases ins
  case iconst n =>
    obtain rfl := len_of hlen rfl
    exact J_pure (fun ρ p l e R s m args below meth c H locs cells slots Qf ls hx hb _ _ _ k => lv_iconst hx hb hdg rfl k) (fun _ h => okS_i h) (hK _ _ _ _ h)
  case bipush n =>
    obtain rfl := len_of hlen rfl
    exact J_pure (fun ρ p l e R s m args below meth c H locs cells slots Qf ls hx hb _ _ _ k => lv_bipush hx hb hdg rfl k) (fun _ h => okS_i h) (hK _ _ _ _ h)
  case sipush n =>
    obtain rfl := len_of hlen rfl
    exact J_pure (fun ρ p l e R s m args below meth c H locs cells slots Qf ls hx hb _ _ _ k => lv_sipush hx hb hdg rfl k) (fun _ h => okS_i h) (hK _ _ _ _ h)
  case lconst n =>
    obtain rfl := len_of hlen rfl
    exact J_pure (fun ρ p l e R s m args below meth c H locs cells slots Qf ls hx hb _ _ _ k => lv_lconst hx hb hdg rfl k) (fun _ h => okS_i h) (hK _ _ _ _ h)
  case iload i =>
    obtain rfl := len_of hlen rfl
    obtain ⟨x, e, h⟩ := sI_inv h
    exact J_pure (fun ρ p l e2 R s m args below meth c H locs cells slots Qf ls hx hb _ _ hl k => lv_iload hx hb hdg (lk_at hl e) k) (fun _ h => okS_i h) (hK _ _ _ _ h)
  case iload_n i =>
    obtain rfl := len_of hlen rfl
    obtain ⟨x, e, h⟩ := sI_inv h
    exact J_pure (fun ρ p l e2 R s m args below meth c H locs cells slots Qf ls hx hb _ _ hl k => lv_iload_n hx hb hdg rfl (lk_at hl e) k) (fun _ h => okS_i h) (hK _ _ _ _ h)
  case lload i =>
    obtain rfl := len_of hlen rfl
    obtain ⟨x, e, h⟩ := sJ_inv h
    exact J_pure (fun ρ p l e2 R s m args below meth c H locs cells slots Qf ls hx hb _ _ hl k => lv_lload hx hb hdg (lk_at hl e) k) (fun _ h => okS_i h) (hK _ _ _ _ h)
  case lload_n i =>
    obtain rfl := len_of hlen rfl
    obtain ⟨x, e, h⟩ := sJ_inv h
    exact J_pure (fun ρ p l e2 R s m args below meth c H locs cells slots Qf ls hx hb _ _ hl k => lv_lload_n hx hb hdg rfl (lk_at hl e) k) (fun _ h => okS_i h) (hK _ _ _ _ h)
  case aload i =>
    obtain rfl := len_of hlen rfl
    obtain ⟨x, e, h⟩ := sA_inv h
    exact J_pure (fun ρ p l e2 R s m args below meth c H locs cells slots Qf ls hx hb _ _ hl k => lv_aload hx hb hdg (lk_at hl e) k) (fun hokl h => okS_c (okL_lk hokl e) h) (hK _ _ _ _ h)
  case aload_n i =>
    obtain rfl := len_of hlen rfl
    obtain ⟨x, e, h⟩ := sA_inv h
    exact J_pure (fun ρ p l e2 R s m args below meth c H locs cells slots Qf ls hx hb _ _ hl k => lv_aload_n hx hb hdg rfl (lk_at hl e) k) (fun hokl h => okS_c (okL_lk hokl e) h) (hK _ _ _ _ h)
  case istore i =>
    obtain rfl := len_of hlen rfl
    obtain ⟨hi, h⟩ := bif_inv h
    obtain ⟨x, r, rfl, h⟩ := s1_inv h
    exact J_loc (i := i) (v := ai x) (fun ρ p l e2 R s m args below meth c H locs cells slots Qf ls hx hb hl k => lv_istore hx hb hdg hl (Nat.le_of_ble_eq_true hi) (toL_st1 ρ i (ai x) loc) k) (fun _ h => ⟨okI, okS_t h⟩) (hK _ _ _ _ h)
  case istore_n i =>
    obtain rfl := len_of hlen rfl
    obtain ⟨hi, h⟩ := bif_inv h
    obtain ⟨x, r, rfl, h⟩ := s1_inv h
    exact J_loc (i := (i : Nat)) (v := ai x) (fun ρ p l e2 R s m args below meth c H locs cells slots Qf ls hx hb hl k => lv_istore_n hx hb hdg rfl hl (Nat.le_of_ble_eq_true hi) (toL_st1 ρ i (ai x) loc) k) (fun _ h => ⟨okI, okS_t h⟩) (hK _ _ _ _ h)
  case astore i =>
    obtain rfl := len_of hlen rfl
    simp only [opI] at h
    split at h
    next q r =>
      obtain ⟨hi, h⟩ := bif_inv h
      exact J_loc (i := i) (v := .inr q) (fun ρ p l e2 R s m args below meth c H locs cells slots Qf ls hx hb hl k => lv_astore hx hb hdg hl (Nat.le_of_ble_eq_true hi) (toL_st1 ρ i (.inr q) loc) k) (fun _ h => ⟨okS_h h, okS_t h⟩) (hK _ _ _ _ h)
    next => exact h.elim
  case astore_n i =>
    obtain rfl := len_of hlen rfl
    simp only [opI] at h
    split at h
    next q r =>
      obtain ⟨hi, h⟩ := bif_inv h
      exact J_loc (i := (i : Nat)) (v := .inr q) (fun ρ p l e2 R s m args below meth c H locs cells slots Qf ls hx hb hl k => lv_astore_n hx hb hdg rfl hl (Nat.le_of_ble_eq_true hi) (toL_st1 ρ i (.inr q) loc) k) (fun _ h => ⟨okS_h h, okS_t h⟩) (hK _ _ _ _ h)
    next => exact h.elim
  case iinc i n =>
    obtain rfl := len_of hlen rfl
    obtain ⟨x, e, h⟩ := sI_inv h
    refine J_loc (i := i) (v := ai (x + Int32.ofInt n)) (fun ρ p l e2 R s m args below meth c H locs cells slots Qf ls hx hb hl k => ?_) (fun _ h => ⟨okI, h⟩) (hK _ _ _ _ h)
    obtain ⟨z, hz⟩ := List.getElem?_of_mem (List.mem_map.mpr ⟨(i, ai x), lk_mem e, rfl⟩ : (i, toV ρ (ai x)) ∈ toL ρ loc)
    have hlt : i < M.1.2.2.1 := by
      have := lv_lt (lk_at hl e)
      rw [hl.1] at this
      exact this
    exact lv_iinc hx hb hdg hl (k := z) hz rfl hlt (toL_st1 ρ i (ai (x + Int32.ofInt n)) loc) k
  case iadd =>
    obtain rfl := len_of hlen rfl
    obtain ⟨x, y, r, rfl, h⟩ := s2_inv h
    exact J_bin (f := fun x y => x + y) (fun p l e R s m args below meth c H locs cells slots Qf ls rest hx hb k => lv_iadd hx hb hdg k) (hK _ _ _ _ h)
  case isub =>
    obtain rfl := len_of hlen rfl
    obtain ⟨x, y, r, rfl, h⟩ := s2_inv h
    exact J_bin (f := fun x y => x - y) (fun p l e R s m args below meth c H locs cells slots Qf ls rest hx hb k => lv_isub hx hb hdg k) (hK _ _ _ _ h)
  case imul =>
    obtain rfl := len_of hlen rfl
    obtain ⟨x, y, r, rfl, h⟩ := s2_inv h
    exact J_bin (f := fun x y => x * y) (fun p l e R s m args below meth c H locs cells slots Qf ls rest hx hb k => lv_imul hx hb hdg k) (hK _ _ _ _ h)
  case idiv =>
    obtain rfl := len_of hlen rfl
    obtain ⟨x, y, r, rfl, hy, h⟩ := s2_inv h
    exact J_bin (f := fun x y => x / y) (fun p l e R s m args below meth c H locs cells slots Qf ls rest hx hb k => lv_idiv hx hb hdg hy k) (hK _ _ _ _ h)
  case irem =>
    obtain rfl := len_of hlen rfl
    obtain ⟨x, y, r, rfl, hy, h⟩ := s2_inv h
    exact J_bin (f := fun x y => x - x / y * y) (fun p l e R s m args below meth c H locs cells slots Qf ls rest hx hb k => lv_irem hx hb hdg hy k) (hK _ _ _ _ h)
  case iand =>
    obtain rfl := len_of hlen rfl
    obtain ⟨x, y, r, rfl, h⟩ := s2_inv h
    exact J_bin (f := fun x y => x &&& y) (fun p l e R s m args below meth c H locs cells slots Qf ls rest hx hb k => lv_iand hx hb hdg k) (hK _ _ _ _ h)
  case ior =>
    obtain rfl := len_of hlen rfl
    obtain ⟨x, y, r, rfl, h⟩ := s2_inv h
    exact J_bin (f := fun x y => x ||| y) (fun p l e R s m args below meth c H locs cells slots Qf ls rest hx hb k => lv_ior hx hb hdg k) (hK _ _ _ _ h)
  case ixor =>
    obtain rfl := len_of hlen rfl
    obtain ⟨x, y, r, rfl, h⟩ := s2_inv h
    exact J_bin (f := fun x y => x ^^^ y) (fun p l e R s m args below meth c H locs cells slots Qf ls rest hx hb k => lv_ixor hx hb hdg k) (hK _ _ _ _ h)
  case ishl =>
    obtain rfl := len_of hlen rfl
    obtain ⟨x, y, r, rfl, h⟩ := s2_inv h
    exact J_bin (f := fun x y => x <<< (y &&& 31)) (fun p l e R s m args below meth c H locs cells slots Qf ls rest hx hb k => lv_ishl hx hb hdg k) (hK _ _ _ _ h)
  case ishr =>
    obtain rfl := len_of hlen rfl
    obtain ⟨x, y, r, rfl, h⟩ := s2_inv h
    exact J_bin (f := fun x y => x >>> (y &&& 31)) (fun p l e R s m args below meth c H locs cells slots Qf ls rest hx hb k => lv_ishr hx hb hdg k) (hK _ _ _ _ h)
  case iushr =>
    obtain rfl := len_of hlen rfl
    obtain ⟨x, y, r, rfl, h⟩ := s2_inv h
    exact J_bin (f := fun x y => (x.toUInt32 >>> (y.toUInt32 &&& Int32.toUInt32 31)).toInt32) (fun p l e R s m args below meth c H locs cells slots Qf ls rest hx hb k => lv_iushr hx hb hdg rfl k) (hK _ _ _ _ h)
  case ineg =>
    obtain rfl := len_of hlen rfl
    obtain ⟨x, r, rfl, h⟩ := s1_inv h
    exact J_pure (fun ρ p l e2 R s m args below meth c H locs cells slots Qf ls hx hb _ _ hl k => lv_ineg hx hb hdg k) (fun hokl h => okS_i (okS_t h)) (hK _ _ _ _ h)
  case i2b =>
    obtain rfl := len_of hlen rfl
    obtain ⟨x, r, rfl, h⟩ := s1_inv h
    exact J_pure (fun ρ p l e2 R s m args below meth c H locs cells slots Qf ls hx hb _ _ hl k => lv_i2b hx hb hdg rfl k) (fun hokl h => okS_i (okS_t h)) (hK _ _ _ _ h)
  case i2s =>
    obtain rfl := len_of hlen rfl
    obtain ⟨x, r, rfl, h⟩ := s1_inv h
    exact J_pure (fun ρ p l e2 R s m args below meth c H locs cells slots Qf ls hx hb _ _ hl k => lv_i2s hx hb hdg rfl k) (fun hokl h => okS_i (okS_t h)) (hK _ _ _ _ h)
  case i2l =>
    obtain rfl := len_of hlen rfl
    obtain ⟨x, r, rfl, h⟩ := s1_inv h
    exact J_pure (fun ρ p l e2 R s m args below meth c H locs cells slots Qf ls hx hb _ _ hl k => lv_i2l hx hb hdg rfl k) (fun hokl h => okS_i (okS_t h)) (hK _ _ _ _ h)
  case l2i =>
    obtain rfl := len_of hlen rfl
    simp only [opI] at h
    split at h
    next x r => exact J_pure (fun ρ p l e2 R s m args below meth c H locs cells slots Qf ls hx hb _ _ hl k => lv_l2i hx hb hdg rfl k) (fun hokl h => okS_i (okS_t h)) (hK _ _ _ _ h)
    next => exact h.elim
  case dup =>
    obtain rfl := len_of hlen rfl
    simp only [opI] at h
    split at h
    next v r =>
      obtain ⟨hv, h⟩ := bif_inv h
      exact J_pure (fun ρ p l e2 R s m args below meth c H locs cells slots Qf ls hx hb _ _ hl k => lv_dup hx hb hdg (by rw [catA_toV]; exact Nat.eq_of_beq_eq_true hv) k) (fun hokl h => okS_c (okS_h h) h) (hK _ _ _ _ h)
    next => exact h.elim
  case dup2 =>
    obtain rfl := len_of hlen rfl
    simp only [opI] at h
    split at h
    next v u r =>
      obtain ⟨hv, h⟩ := bif_inv h
      rw [Bool.and_eq_true] at hv
      exact J_pure (fun ρ p l e2 R s m args below meth c H locs cells slots Qf ls hx hb _ _ hl k => lv_dup2_11 hx hb hdg (by rw [catA_toV]; exact Nat.eq_of_beq_eq_true hv.1) (by rw [catA_toV]; exact Nat.eq_of_beq_eq_true hv.2) k) (fun hokl h => okS_c (okS_h h) (okS_c (okS_h (okS_t h)) h)) (hK _ _ _ _ h)
    next => exact h.elim
  case pop =>
    obtain rfl := len_of hlen rfl
    simp only [opI] at h
    split at h
    next v r =>
      obtain ⟨hv, h⟩ := bif_inv h
      exact J_pure (fun ρ p l e2 R s m args below meth c H locs cells slots Qf ls hx hb _ _ hl k => lv_pop hx hb hdg (by rw [catA_toV]; exact Nat.eq_of_beq_eq_true hv) k) (fun hokl h => okS_t h) (hK _ _ _ _ h)
    next => exact h.elim
  case lcmp =>
    obtain rfl := len_of hlen rfl
    simp only [opI] at h
    split at h
    next y x r => exact J_pure (fun ρ p l e2 R s m args below meth c H locs cells slots Qf ls hx hb _ _ hl k => W.lcmp hx hb hdg k) (fun hokl h => okS_i (okS_t (okS_t h))) (hK _ _ _ _ h)
    next => exact h.elim
  case areturn =>
    obtain rfl := len_of hlen rfl
    simp only [opI] at h
    split at h
    next q =>
      split at h
      next cn hr => exact J_aret hr hdg h
      next => exact h.elim
    next => exact h.elim
  case goto off =>
    obtain rfl := len_of hlen rfl
    simp only [opI] at h
    split at h
    next t ht => exact J_pure (pc' := t) (fun ρ p l e2 R s m args below meth c H locs cells slots Qf ls hx hb _ _ hl k => lv_goto hx hb hdg (tg_eq ht) k) (fun hokl h => h) (hK _ _ _ _ h)
    next => exact h.elim
  case if_icmp cd off =>
    obtain rfl := len_of hlen rfl
    simp only [opI] at h
    split at h
    next t ht =>
      obtain ⟨x, y, r, rfl, h3, h4⟩ := s2_inv h
      exact J_cmp (K := K) hdg ht (fun q => hK _ _ _ _ (h3 q)) (fun q => hK _ _ _ _ (h4 q))
    next => exact h.elim
  case ifCond cd off =>
    obtain rfl := len_of hlen rfl
    simp only [opI] at h
    split at h
    next t ht =>
      obtain ⟨x, r, rfl, h3, h4⟩ := s1_inv h
      exact J_if0 hdg ht (fun q => hK _ _ _ _ (h3 q)) (fun q => hK _ _ _ _ (h4 q))
    next => exact h.elim
  case tableswitch dflt lo hi offs =>
    obtain ⟨hs, h⟩ := bif_inv h
    obtain ⟨x, r, rfl, h1, h2⟩ := s1_inv h
    exact J_tsw hK hdg (Nat.eq_of_beq_eq_true hs) h1 h2
  case ldc idx =>
    obtain rfl := len_of hlen rfl
    simp only [opI] at h
    split at h
    next v hp =>
      have hw := hM.2.1 _ (plk_mem hp)
      exact J_pure (fun ρ p l e2 R s m args below meth c H locs cells slots Qf ls hx hb hown hts hl k => lv_ldc hx hb hown (hts _ hw) hdg k) (fun hokl h => okS_i h) (hK _ _ _ _ h)
    next => exact h.elim
  case ldc_w idx =>
    obtain rfl := len_of hlen rfl
    simp only [opI] at h
    split at h
    next v hp =>
      have hw := hM.2.1 _ (plk_mem hp)
      exact J_pure (fun ρ p l e2 R s m args below meth c H locs cells slots Qf ls hx hb hown hts hl k => lv_ldcw hx hb hown (hts _ hw) hdg k) (fun hokl h => okS_i h) (hK _ _ _ _ h)
    next => exact h.elim
  case getfield idx =>
    obtain rfl := len_of hlen rfl
    simp only [opI] at h
    split at h
    next ci j w hp =>
      split at h
      next k i r =>
        split at h
        next ci' fl hk =>
          have hc := (bif_inv h).1
          replace h := (bif_inv h).2
          obtain rfl := Nat.eq_of_beq_eq_true hc
          split at h
          next hj => exact J_getI hM hp hk hj hdg (hK _ _ _ _ h)
          next rk hj => exact J_getR hI hM hp hk hj hdg (hK _ _ _ _ h)
          next => exact h.elim
        next => exact h.elim
      next => exact h.elim
    next => exact h.elim
  case putfield idx =>
    obtain rfl := len_of hlen rfl
    simp only [opI] at h
    split at h
    next ci j hp =>
      split at h
      next v k i r =>
        split at h
        next ci' fl hk =>
          have hc := (bif_inv h).1
          replace h := (bif_inv h).2
          obtain rfl := Nat.eq_of_beq_eq_true hc
          split at h
          next hj => exact J_putI hI hM hp (Or.inl rfl) hk hj hdg (hK _ _ _ _ h)
          next => exact h.elim
        next => exact h.elim
      next => exact h.elim
    next ci j hp =>
      split at h
      next v k i r =>
        split at h
        next ci' fl hk =>
          have hc := (bif_inv h).1
          replace h := (bif_inv h).2
          obtain rfl := Nat.eq_of_beq_eq_true hc
          split at h
          next hj => exact J_putI hI hM hp (Or.inr ⟨rfl, h.1⟩) hk hj hdg (hK _ _ _ _ h.2)
          next => exact h.elim
        next => exact h.elim
      next => exact h.elim
    next => exact h.elim
  case iaload =>
    obtain rfl := len_of hlen rfl
    have h0 := sAI_inv h
    clear h
    obtain ⟨x, k, i, r, rfl, h⟩ := h0
    split at h
    next n q hk => exact J_iald hk h.1 hdg (hK _ _ _ _ h.2)
    next => exact h.elim
  case laload =>
    obtain rfl := len_of hlen rfl
    have h0 := sAI_inv h
    clear h
    obtain ⟨x, k, i, r, rfl, h⟩ := h0
    split at h
    next n q hk => exact J_lald hk h.1 hdg (hK _ _ _ _ h.2)
    next => exact h.elim
  case aaload =>
    obtain rfl := len_of hlen rfl
    have h0 := sAI_inv h
    clear h
    obtain ⟨x, k, i, r, rfl, h⟩ := h0
    split at h
    next t n q hk =>
      obtain ⟨ht, h⟩ := bif_inv h
      exact J_aald hI hk (Nat.le_of_ble_eq_true ht) h.1 hdg (hK _ _ _ _ h.2)
    next => exact h.elim
  case iastore =>
    obtain rfl := len_of hlen rfl
    have h0 := sAII_inv h
    clear h
    obtain ⟨v, x, k, i, r, rfl, h⟩ := h0
    split at h
    next n q hk => exact J_iast hI hk h.1 hdg (hK _ _ _ _ h.2)
    next => exact h.elim
  case lastore =>
    obtain rfl := len_of hlen rfl
    simp only [opI] at h
    split at h
    next v x k i r =>
      split at h
      next n q hk => exact J_last hI hk h.1 hdg (hK _ _ _ _ h.2)
      next => exact h.elim
    next => exact h.elim
  case arraylength =>
    obtain rfl := len_of hlen rfl
    simp only [opI] at h
    split at h
    next k i r =>
      split at h
      next t n q hk =>
        obtain ⟨ht, h⟩ := bif_inv h
        exact J_alen hk (Nat.le_of_ble_eq_true ht) hdg (hK _ _ _ _ h)
      next => exact h.elim
    next => exact h.elim
  case invokevirtual idx =>
    obtain rfl := len_of hlen rfl
    simp only [opI] at h
    split at h
    next S hp =>
      split at h
      next ci hci =>
        split at h
        next k i r hdrop =>
          split at h
          next ci' fl hk =>
            have hc := (bif_inv h).1
            replace h := (bif_inv h).2
            rw [Bool.and_eq_true] at hc
            obtain rfl := Nat.eq_of_beq_eq_true hc.1
            obtain ⟨Q', hC, hQ⟩ := opS_inv h
            have e1 : stk = (stk.take S.2.2.2.2.1).reverse.reverse ++ ar k i :: r := by
              rw [List.reverse_reverse]
              exact ((congrArg (fun z => stk.take S.2.2.2.2.1 ++ z) hdrop).symm.trans (List.take_append_drop _ _)).symm
            rw [e1]
            refine J_virt hM hp hci hdg ?_ hk (Nat.le_of_ble_eq_true hc.2) hC (fun v σ' hq => hK _ _ _ _ (hQ v σ' hq))
            rw [List.length_reverse, List.length_take]
            have hl : (stk.drop S.2.2.2.2.1).length ≠ 0 := by rw [hdrop]; simp
            rw [List.length_drop] at hl
            omega
          next => exact h.elim
        next => exact h.elim
      next => exact h.elim
    next => exact h.elim
  case invokestatic idx =>
    obtain rfl := len_of hlen rfl
    simp only [opI] at h
    split at h
    next S hp =>
      split at h
      next hci =>
        obtain ⟨hc, h⟩ := bif_inv h
        rw [Bool.and_eq_true] at hc
        obtain ⟨Q', hC, hQ⟩ := opS_inv h
        have e1 : stk = (stk.take S.2.2.2.2.1).reverse.reverse ++ stk.drop S.2.2.2.2.1 := by
          rw [List.reverse_reverse, List.take_append_drop]
        rw [e1]
        exact J_stat hM hp hci hdg (by rw [List.length_reverse]; exact Nat.eq_of_beq_eq_true hc.1) (Nat.le_of_ble_eq_true hc.2) hC (fun v σ' hq => hK _ _ _ _ (hQ v σ' hq))
      next => exact h.elim
    next hp =>
      split at h
      next x k i r =>
        have hc := (bif_inv h).1
        replace h := (bif_inv h).2
        rw [Bool.and_eq_true, Bool.and_eq_true] at hc
        obtain rfl := Nat.eq_of_beq_eq_true hc.2.1
        obtain rfl := Nat.eq_of_beq_eq_true hc.2.2
        exact J_at hM hp hdg (Nat.le_of_ble_eq_true hc.1) h.1 (fun v => hK _ _ _ _ (h.2 v))
      next => exact h.elim
    next hp =>
      obtain ⟨x, y, r, rfl, h⟩ := s2_inv h
      obtain ⟨hr8, h⟩ := bif_inv h
      exact J_min hM hp hdg (Nat.le_of_ble_eq_true hr8) (hK _ _ _ _ h)
    next hp =>
      split at h
      next n dp k i sp k0 i0 r =>
        split at h
        next n1 z1 n0 z0 hk hk0 =>
          obtain ⟨hr8, g1, g2, g3, g4, g5, h⟩ := bif_inv h
          exact J_copy hI hM hp hdg hk hk0 (Nat.le_of_ble_eq_true hr8) g1 g2 g3 g4 g5 (hK _ _ _ _ h)
        next => exact h.elim
      next => exact h.elim
    next => exact h.elim
  case ireturn =>
    obtain rfl := len_of hlen rfl
    simp only [opI] at h
    split at h
    next v =>
      split at h
      next hr => exact J_iret hr rfl hdg h
      next hr => exact J_iret hr (nar_bool h.1).1 hdg h.2
      next => exact h.elim
    next => exact h.elim
  case lreturn =>
    obtain rfl := len_of hlen rfl
    simp only [opI] at h
    split at h
    next v =>
      split at h
      next hr => exact J_lret hr hdg h
      next => exact h.elim
    next => exact h.elim
  case return_ =>
    obtain rfl := len_of hlen rfl
    simp only [opI] at h
    split at h
    next =>
      split at h
      next hr => exact J_vret hr hdg h
      next => exact h.elim
    next => exact h.elim
  all_goals exact False.elim h
theorem pickL_mem : ∀ {l : List Nat} {loc : Loc2} {q : Nat × AV}, q ∈ pickL loc l → q ∈ loc
  | [], _, _, h => by cases h
  | i :: l, loc, q, h => by
    unfold pickL at h
    split at h
    next v e =>
      rcases List.mem_cons.mp h with rfl | h
      · exact lk_mem e
      · exact pickL_mem h
    next => exact pickL_mem h
theorem J_less {loc' : Loc2} (h : ∀ q ∈ loc', q ∈ loc) (k : J I M d pc loc' stk σ Q) : J I M d pc loc stk σ Q := by
  intro hX p l e R s m args below meth c D cy ρ A cells slots H locs ls C h1 h2 hP hD hS hl hokl hoks
  refine k hX p l e R s m args below meth c D cy ρ A cells slots H locs ls C h1 h2 hP hD hS ⟨hl.1, hl.2.1, fun q hq => ?_⟩ (fun q hq => hokl q (h q hq)) hoks
  obtain ⟨q0, h0, rfl⟩ := List.mem_map.mp hq
  exact hl.2.2 _ (List.mem_map.mpr ⟨q0, h q0 h0, rfl⟩)
theorem wp_J (hI : OKI I) (hM : MOK M) {cuts : List (Nat × List Nat)} : ∀ (n pc : Nat) (loc : Loc2) (stk : List AV) (σ : Mem), wp I M d cuts Q n pc loc stk σ → J I M (d + 1) pc loc stk σ Q
  | 0, _, _, _, _, h => h.elim
  | n + 1, pc, loc, stk, σ, h => by
    unfold wp at h
    split at h
    next ins len hc =>
      obtain ⟨hlen, h⟩ := bif_inv h
      refine opI_sound hI hM (fun pc' loc' stk' σ' h' => ?_) ins len (hM.1 _ _ hc) hlen h
      revert h'
      cases cutN cuts pc' with
      | some l => exact fun h' => J_less (fun q hq => pickL_mem hq) h'
      | none => exact fun h' => wp_J hI hM n pc' loc' stk' σ' h'
    next => exact h.elim
end Main4
