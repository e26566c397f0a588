/-! ===== total runs: an outcome that the judgement leads to, whatever is asked of it ===== -/
def Rn {α : Type} (C : (α → Mem → Prop) → Prop) (P : α → Mem → Prop) : Prop := ∃ r σ, P r σ ∧ ∀ K : α → Mem → Prop, K r σ → C K
def Rv (C : (Mem → Prop) → Prop) (P : Mem → Prop) : Prop := ∃ σ, P σ ∧ ∀ K : Mem → Prop, K σ → C K
section Runs
variable {α : Type} {P P' : α → Mem → Prop} {PV PV' : Mem → Prop} {c S : Prop} {A B T C C' : (α → Mem → Prop) → Prop} {AV' BV TV CV CV' : (Mem → Prop) → Prop}
theorem Rn_map (h : ∀ K, C K → C' K) (r : Rn C P) : Rn C' P := by
  obtain ⟨v, σ, hp, hk⟩ := r
  exact ⟨v, σ, hp, fun K q => h K (hk K q)⟩
theorem Rv_map (h : ∀ K, CV K → CV' K) (r : Rv CV PV) : Rv CV' PV := by
  obtain ⟨σ, hp, hk⟩ := r
  exact ⟨σ, hp, fun K q => h K (hk K q)⟩
theorem Rn_mono (r : Rn C P) (h : ∀ v σ, P v σ → P' v σ) : Rn C P' := by
  obtain ⟨v, σ, hp, hk⟩ := r
  exact ⟨v, σ, h v σ hp, hk⟩
theorem Rv_mono (r : Rv CV PV) (h : ∀ σ, PV σ → PV' σ) : Rv CV PV' := by
  obtain ⟨σ, hp, hk⟩ := r
  exact ⟨σ, h σ hp, hk⟩
theorem Rn_ret {v : α} {σ : Mem} (h : P v σ) : Rn (fun K => K v σ) P := ⟨v, σ, h, fun _ q => q⟩
theorem Rv_ret {σ : Mem} (h : PV σ) : Rv (fun K => K σ) PV := ⟨σ, h, fun _ q => q⟩
theorem Rn_and (s : S) (r : Rn T P) : Rn (fun K => S ∧ T K) P := Rn_map (fun _ h => ⟨s, h⟩) r
theorem Rv_and (s : S) (r : Rv TV PV) : Rv (fun K => S ∧ TV K) PV := Rv_map (fun _ h => ⟨s, h⟩) r
theorem Rn_pos (hc : c) (r : Rn A P) : Rn (fun K => (c → A K) ∧ (¬ c → B K)) P := Rn_map (fun _ h => ⟨fun _ => h, fun n => absurd hc n⟩) r
theorem Rn_neg (hc : ¬ c) (r : Rn B P) : Rn (fun K => (c → A K) ∧ (¬ c → B K)) P := Rn_map (fun _ h => ⟨fun n => absurd n hc, fun _ => h⟩) r
theorem Rn_pos' (hc : c) (r : Rn B P) : Rn (fun K => (¬ c → A K) ∧ (c → B K)) P := Rn_map (fun _ h => ⟨fun n => absurd hc n, fun _ => h⟩) r
theorem Rn_neg' (hc : ¬ c) (r : Rn A P) : Rn (fun K => (¬ c → A K) ∧ (c → B K)) P := Rn_map (fun _ h => ⟨fun _ => h, fun n => absurd n hc⟩) r
theorem Rn_if (h1 : c → Rn A P) (h2 : ¬ c → Rn B P) : Rn (fun K => (c → A K) ∧ (¬ c → B K)) P := by
  rcases Classical.em c with h | h
  · exact Rn_pos h (h1 h)
  · exact Rn_neg h (h2 h)
theorem Rn_if' (h1 : ¬ c → Rn A P) (h2 : c → Rn B P) : Rn (fun K => (¬ c → A K) ∧ (c → B K)) P := by
  rcases Classical.em c with h | h
  · exact Rn_pos' h (h2 h)
  · exact Rn_neg' h (h1 h)
theorem Rv_pos (hc : c) (r : Rv AV' PV) : Rv (fun K => (c → AV' K) ∧ (¬ c → BV K)) PV := Rv_map (fun _ h => ⟨fun _ => h, fun n => absurd hc n⟩) r
theorem Rv_neg (hc : ¬ c) (r : Rv BV PV) : Rv (fun K => (c → AV' K) ∧ (¬ c → BV K)) PV := Rv_map (fun _ h => ⟨fun n => absurd n hc, fun _ => h⟩) r
theorem Rv_pos' (hc : c) (r : Rv BV PV) : Rv (fun K => (¬ c → AV' K) ∧ (c → BV K)) PV := Rv_map (fun _ h => ⟨fun n => absurd hc n, fun _ => h⟩) r
theorem Rv_neg' (hc : ¬ c) (r : Rv AV' PV) : Rv (fun K => (¬ c → AV' K) ∧ (c → BV K)) PV := Rv_map (fun _ h => ⟨fun _ => h, fun n => absurd n hc⟩) r
theorem Rv_if (h1 : c → Rv AV' PV) (h2 : ¬ c → Rv BV PV) : Rv (fun K => (c → AV' K) ∧ (¬ c → BV K)) PV := by
  rcases Classical.em c with h | h
  · exact Rv_pos h (h1 h)
  · exact Rv_neg h (h2 h)
theorem Rv_if' (h1 : ¬ c → Rv AV' PV) (h2 : c → Rv BV PV) : Rv (fun K => (¬ c → AV' K) ∧ (c → BV K)) PV := by
  rcases Classical.em c with h | h
  · exact Rv_pos' h (h2 h)
  · exact Rv_neg' h (h1 h)
variable {I : List KI} {d : Nat} {SS : SR} {M : MR} {pc : Nat} {loc : Loc2} {stk a : List AV} {σ : Mem}
theorem Rn_cI {T : Int32 → Mem → (α → Mem → Prop) → Prop} (r : Rn (fun K => CalI I d SS a σ K) (fun v s => Rn (T v s) P)) : Rn (fun K => CalI I d SS a σ (fun v s => T v s K)) P := by
  obtain ⟨v, s, ⟨v', s', hp, hk⟩, hc⟩ := r
  exact ⟨v', s', hp, fun K q => hc _ (hk K q)⟩
theorem Rn_cL {T : Int64 → Mem → (α → Mem → Prop) → Prop} (r : Rn (fun K => CalL I d SS a σ K) (fun v s => Rn (T v s) P)) : Rn (fun K => CalL I d SS a σ (fun v s => T v s K)) P := by
  obtain ⟨v, s, ⟨v', s', hp, hk⟩, hc⟩ := r
  exact ⟨v', s', hp, fun K q => hc _ (hk K q)⟩
theorem Rn_cV {T : Mem → (α → Mem → Prop) → Prop} (r : Rv (fun K => CalV I d SS a σ K) (fun s => Rn (T s) P)) : Rn (fun K => CalV I d SS a σ (fun s => T s K)) P := by
  obtain ⟨s, ⟨v', s', hp, hk⟩, hc⟩ := r
  exact ⟨v', s', hp, fun K q => hc _ (hk K q)⟩
theorem Rv_cI {T : Int32 → Mem → (Mem → Prop) → Prop} (r : Rn (fun K => CalI I d SS a σ K) (fun v s => Rv (T v s) PV)) : Rv (fun K => CalI I d SS a σ (fun v s => T v s K)) PV := by
  obtain ⟨v, s, ⟨s', hp, hk⟩, hc⟩ := r
  exact ⟨s', hp, fun K q => hc _ (hk K q)⟩
theorem Rv_cL {T : Int64 → Mem → (Mem → Prop) → Prop} (r : Rn (fun K => CalL I d SS a σ K) (fun v s => Rv (T v s) PV)) : Rv (fun K => CalL I d SS a σ (fun v s => T v s K)) PV := by
  obtain ⟨v, s, ⟨s', hp, hk⟩, hc⟩ := r
  exact ⟨s', hp, fun K q => hc _ (hk K q)⟩
theorem Rv_cV {T : Mem → (Mem → Prop) → Prop} (r : Rv (fun K => CalV I d SS a σ K) (fun s => Rv (T s) PV)) : Rv (fun K => CalV I d SS a σ (fun s => T s K)) PV := by
  obtain ⟨s, ⟨s', hp, hk⟩, hc⟩ := r
  exact ⟨s', hp, fun K q => hc _ (hk K q)⟩
theorem Rn_KQ {P : Int32 → Mem → Prop} (r : Rn (fun Q => J I M d pc loc stk σ Q) (fun v s => ∃ x, v = some (ai x) ∧ P x s)) : Rn (fun K => J I M d pc loc stk σ (KQ K)) P := by
  obtain ⟨v, s, ⟨x, hv, hp⟩, hk⟩ := r
  exact ⟨x, s, hp, fun K q => hk _ ⟨x, hv, q⟩⟩
theorem Rv_KV (r : Rn (fun Q => J I M d pc loc stk σ Q) (fun v s => v = none ∧ PV s)) : Rv (fun K => J I M d pc loc stk σ (KV K)) PV := by
  obtain ⟨v, s, ⟨hv, hp⟩, hk⟩ := r
  exact ⟨s, hp, fun K q => hk _ ⟨hv, q⟩⟩
theorem Rn_use {C : (Int32 → Mem → Prop) → Prop} {P K : Int32 → Mem → Prop} (r : Rn C P) (h : ∀ v s, P v s → K v s) : C K := by
  obtain ⟨v, s, hp, hk⟩ := r
  exact hk _ (h _ _ hp)
theorem loopU {β : Type} {C : Nat → β → (α → Mem → Prop) → Prop} {Inv : Nat → β → Prop} {n : Nat} (step : ∀ i b, i < n → Inv i b → (∀ b', Inv (i + 1) b' → Rn (C (i + 1) b') P) → Rn (C i b) P) (last : ∀ b, Inv n b → Rn (C n b) P) : ∀ {i : Nat} {b : β}, i ≤ n → Inv i b → Rn (C i b) P := by
  intro i b hi h
  obtain ⟨k, hk⟩ : ∃ k, k + i = n := ⟨n - i, by omega⟩
  clear hi
  induction k generalizing i b with
  | zero =>
    have e : i = n := by omega
    subst e
    exact last b h
  | succ k ih => exact step i b (by omega) h (fun b' h' => ih h' (by omega))
end Runs
/-! ===== memories by kinds ===== -/
def sK (σ : Mem) (k : Nat) (f : Nat → Nat → Int32) : Mem := (fun k' i' j' => bif Nat.beq k' k then f i' j' else σ.1 k' i' j', σ.2)
def sL (σ : Mem) (k : Nat) (f : Nat → Nat → Int64) : Mem := (σ.1, fun k' i' j' => bif Nat.beq k' k then f i' j' else σ.2 k' i' j')
theorem beq1 {a b : Nat} : Nat.beq a b = decide (a = b) := by
  rw [Bool.eq_iff_iff]
  simp [Nat.beq_eq]
theorem sK_r (σ : Mem) (k : Nat) (f : Nat → Nat → Int32) (k' i j : Nat) : (sK σ k f).1 k' i j = if k' = k then f i j else σ.1 k' i j := by
  show (bif Nat.beq k' k then f i j else σ.1 k' i j) = _
  rw [beq1, bif_dec]
theorem sL_r (σ : Mem) (k : Nat) (f : Nat → Nat → Int64) (k' i j : Nat) : (sL σ k f).2 k' i j = if k' = k then f i j else σ.2 k' i j := by
  show (bif Nat.beq k' k then f i j else σ.2 k' i j) = _
  rw [beq1, bif_dec]
theorem sK_2 (σ : Mem) (k : Nat) (f : Nat → Nat → Int32) : (sK σ k f).2 = σ.2 := rfl
theorem sL_1 (σ : Mem) (k : Nat) (f : Nat → Nat → Int64) : (sL σ k f).1 = σ.1 := rfl
theorem Mem_ext {a b : Mem} (h : ∀ k i j, a.1 k i j = b.1 k i j) (h2 : a.2 = b.2) : a = b := Prod.ext (funext fun k => funext fun i => funext fun j => h k i j) h2
theorem Mem_extL {a b : Mem} (h1 : a.1 = b.1) (h : ∀ k i j, a.2 k i j = b.2 k i j) : a = b := Prod.ext h1 (funext fun k => funext fun i => funext fun j => h k i j)
theorem sK_same (σ : Mem) (k : Nat) : sK σ k (σ.1 k) = σ := Mem_ext (fun k' i j => by rw [sK_r]; split <;> simp_all) rfl
/-! ===== numbers ===== -/
theorem lit_0 : (0 : Int32) = nI 0 := rfl
theorem lit_1 : (1 : Int32) = nI 1 := rfl
theorem lit_2 : (2 : Int32) = nI 2 := rfl
theorem lit_3 : (3 : Int32) = nI 3 := rfl
theorem lit_4 : (4 : Int32) = nI 4 := rfl
theorem lit_5 : (5 : Int32) = nI 5 := rfl
theorem lit_6 : (6 : Int32) = nI 6 := rfl
theorem lit_7 : (7 : Int32) = nI 7 := rfl
theorem lit_8 : (8 : Int32) = nI 8 := rfl
theorem lit_9 : (9 : Int32) = nI 9 := rfl
theorem lit_10 : (10 : Int32) = nI 10 := rfl
theorem lit_11 : (11 : Int32) = nI 11 := rfl
theorem lit_12 : (12 : Int32) = nI 12 := rfl
theorem lit_17 : (17 : Int32) = nI 17 := rfl
theorem lit_20 : (20 : Int32) = nI 20 := rfl
theorem lit_30 : (30 : Int32) = nI 30 := rfl
theorem lit_31 : (31 : Int32) = nI 31 := rfl
theorem lit_32 : (32 : Int32) = nI 32 := rfl
theorem lit_47 : (47 : Int32) = nI 47 := rfl
theorem lit_48 : (48 : Int32) = nI 48 := rfl
theorem lit_60 : (60 : Int32) = nI 60 := rfl
theorem lit_99 : (99 : Int32) = nI 99 := rfl
theorem lit_100 : (100 : Int32) = nI 100 := rfl
theorem lit_144 : (144 : Int32) = nI 144 := rfl
theorem lit_200 : (200 : Int32) = nI 200 := rfl
theorem lit_240 : (240 : Int32) = nI 240 := rfl
theorem lit_300 : (300 : Int32) = nI 300 := rfl
theorem lit_576 : (576 : Int32) = nI 576 := rfl
theorem lit_960 : (960 : Int32) = nI 960 := rfl
theorem lit_1008 : (1008 : Int32) = nI 1008 := rfl
theorem lit_1000000 : (1000000 : Int32) = nI 1000000 := rfl
theorem lit_100000000 : (100000000 : Int32) = nI 100000000 := rfl
def NN : Int32 := -1
theorem neg_1 : -(nI 1) = NN := rfl
theorem nI_NN {a : Nat} (h : a < 2 ^ 31) : (nI a = NN) = False := by
  refine eq_false (fun e => ?_)
  have := nI_toInt h
  rw [e] at this
  exact absurd this (by rw [show NN.toInt = -1 by decide]; omega)
theorem NN_nI {a : Nat} (h : a < 2 ^ 31) : (NN = nI a) = False := (propext ⟨Eq.symm, Eq.symm⟩ : (NN = nI a) = (nI a = NN)).trans (nI_NN h)
theorem NN_lt {a : Nat} (h : a < 2 ^ 31) : (NN < nI a) = True := eq_true (by
  rw [Int32.lt_iff_toInt_lt, nI_toInt h]
  rw [show NN.toInt = -1 by decide]; omega)
theorem NN_le {a : Nat} (h : a < 2 ^ 31) : (NN ≤ nI a) = True := eq_true (by
  rw [Int32.le_iff_toInt_le, nI_toInt h]
  rw [show NN.toInt = -1 by decide]; omega)
theorem lt_NN {a : Nat} (h : a < 2 ^ 31) : (nI a < NN) = False := eq_false (by
  rw [Int32.lt_iff_toInt_lt, nI_toInt h]
  rw [show NN.toInt = -1 by decide]; omega)
theorem le_NN {a : Nat} (h : a < 2 ^ 31) : (nI a ≤ NN) = False := eq_false (by
  rw [Int32.le_iff_toInt_le, nI_toInt h]
  rw [show NN.toInt = -1 by decide]; omega)
theorem vp_nI {a N : Nat} (h : a < 2 ^ 31) : vp_in (nI a) N = (a < N) := propext (by
  rw [vp_in_iff, nI_toInt h]
  omega)
theorem eq_nI {a b : Nat} (ha : a < 2 ^ 31) (hb : b < 2 ^ 31) : (nI a = nI b) = (a = b) := propext (nI_eq ha hb)
theorem le_nI {a b : Nat} (ha : a < 2 ^ 31) (hb : b < 2 ^ 31) : (nI a ≤ nI b) = (a ≤ b) := propext (nI_leI ha hb)
theorem lt_nI {a b : Nat} (ha : a < 2 ^ 31) (hb : b < 2 ^ 31) : (nI a < nI b) = (a < b) := propext (nI_ltI ha hb)
theorem tI_nI {a : Nat} (h : a < 2 ^ 31) : Int32.toInt (nI a) = (a : Int) := nI_toInt h
theorem nI_or {a : Nat} (h : a ≤ 1) : (nI a = nI 0 ∨ nI a = nI 1) = True := eq_true (by
  rcases (by omega : a = 0 ∨ a = 1) with e | e <;> subst e <;> simp)
/-- nI b ≤ x, as a case split's third way -/
theorem of_ix {x : Int32} {n : Nat} (h0 : ¬ x < nI 0) (h1 : ¬ nI n ≤ x) (hn : n < 2 ^ 31) : ∃ j, j < n ∧ x = nI j := by
  rcases pk_ix x hn with h | h | h
  · exact absurd h h0
  · exact absurd h h1
  · exact h
theorem tI_pred {a : Nat} (h : a < 2 ^ 30) : (nI a - nI 1).toInt = (a : Int) - 1 := pk_sub_toInt h (by omega)
/-! ===== Int32 by its bits: bt x i ===== -/
def bt (x : Int32) (i : Nat) : Bool := x.toBitVec.getLsbD i
theorem b_ext {x y : Int32} (h : ∀ i, i < 32 → bt x i = bt y i) : x = y := Int32.toBitVec_inj.mp (BitVec.eq_of_getLsbD_eq (fun i hi => h i hi))
theorem b_or (x y : Int32) (i : Nat) : bt (x ||| y) i = (bt x i || bt y i) := by unfold bt; rw [Int32.toBitVec_or, BitVec.getLsbD_or]
theorem b_and (x y : Int32) (i : Nat) : bt (x &&& y) i = (bt x i && bt y i) := by unfold bt; rw [Int32.toBitVec_and, BitVec.getLsbD_and]
theorem b_xor (x y : Int32) (i : Nat) : bt (x ^^^ y) i = (bt x i ^^ bt y i) := by unfold bt; rw [Int32.toBitVec_xor, BitVec.getLsbD_xor]
theorem b_big {x : Int32} {i : Nat} (h : 32 ≤ i) : bt x i = false := BitVec.getLsbD_of_ge _ _ h
theorem b_255 (i : Nat) : bt 255 i = decide (i < 8) := by
  rcases Nat.lt_or_ge i 32 with h | h
  · exact (by decide +kernel : ∀ i, i < 32 → bt 255 i = decide (i < 8)) i h
  · rw [b_big h, decide_eq_false (by omega)]
theorem b_65535 (i : Nat) : bt 65535 i = decide (i < 16) := by
  rcases Nat.lt_or_ge i 32 with h | h
  · exact (by decide +kernel : ∀ i, i < 32 → bt 65535 i = decide (i < 16)) i h
  · rw [b_big h, decide_eq_false (by omega)]
theorem b_m1 : ∀ i, i < 32 → bt (-1) i = true := by decide +kernel
theorem b_0 (i : Nat) : bt 0 i = false := BitVec.getLsbD_zero
theorem s_l : ∀ n, n < 32 → ((nI n &&& 31).toBitVec.smod 32).toNat = n := by decide +kernel
theorem s_u : ∀ n, n < 32 → (((nI n).toUInt32 &&& Int32.toUInt32 31).toBitVec % 32).toNat = n := by decide +kernel
theorem b_shl (n : Nat) (hn : n < 32) (x : Int32) {i : Nat} (hi : i < 32) : bt (x <<< (nI n &&& 31)) i = (decide (n ≤ i) && bt x (i - n)) := by
  unfold bt
  rw [Int32.toBitVec_shiftLeft]
  show (x.toBitVec <<< ((nI n &&& 31).toBitVec.smod 32).toNat).getLsbD i = _
  rw [s_l n hn, BitVec.getLsbD_shiftLeft]
  rcases Nat.lt_or_ge i n with h | h
  · simp [h, Nat.not_le.mpr h]
  · simp [hi, h, Nat.not_lt.mpr h]
theorem b_ushr (n : Nat) (hn : n < 32) (x : Int32) (i : Nat) : bt ((x.toUInt32 >>> ((nI n).toUInt32 &&& Int32.toUInt32 31)).toInt32) i = bt x (n + i) := by
  show (x.toUInt32 >>> ((nI n).toUInt32 &&& Int32.toUInt32 31)).toBitVec.getLsbD i = x.toUInt32.toBitVec.getLsbD (n + i)
  rw [UInt32.toBitVec_shiftRight]
  show (x.toUInt32.toBitVec >>> (((nI n).toUInt32 &&& Int32.toUInt32 31).toBitVec % 32).toNat).getLsbD i = _
  rw [s_u n hn, BitVec.getLsbD_ushiftRight]
theorem b_sshr (n : Nat) (hn : n < 32) (x : Int32) {i : Nat} (hi : i < 32) : bt (x >>> (nI n &&& 31)) i = if n + i < 32 then bt x (n + i) else bt x 31 := by
  unfold bt
  rw [Int32.toBitVec_shiftRight]
  show (x.toBitVec.sshiftRight ((nI n &&& 31).toBitVec.smod 32).toNat).getLsbD i = _
  rw [s_l n hn, BitVec.getLsbD_sshiftRight, BitVec.msb_eq_getLsbD_last]
  simp [hi]
/-! ===== bits as the programs ask for them ===== -/
theorem bt_1 (i : Nat) : bt (nI 1) i = decide (i = 0) := by
  rcases Nat.lt_or_ge i 32 with h | h
  · exact (by decide +kernel : ∀ i, i < 32 → bt (nI 1) i = decide (i = 0)) i h
  · rw [b_big h, decide_eq_false (by omega)]
theorem bt_and1 (x : Int32) (i : Nat) : bt (x &&& nI 1) i = (decide (i = 0) && bt x 0) := by
  rw [b_and, bt_1]
  by_cases h : i = 0
  · subst h; simp
  · simp [h]
theorem bt_nI0 (i : Nat) : bt (nI 0) i = false := b_0 i
theorem and1 (x : Int32) : x &&& nI 1 = if bt x 0 = true then nI 1 else nI 0 := by
  apply b_ext
  intro i hi
  rw [bt_and1]
  by_cases h : bt x 0 = true
  · rw [if_pos h, bt_1, h]; simp
  · rw [if_neg h, bt_nI0]; simp [h]
theorem bz_u (x : Int32) {n : Nat} (hn : n < 32) : ((Int32.toUInt32 x >>> (Int32.toUInt32 (nI n) &&& Int32.toUInt32 (nI 31))).toInt32 &&& nI 1 = nI 0) = (bt x n = false) := by
  rw [and1]
  have e : bt ((Int32.toUInt32 x >>> (Int32.toUInt32 (nI n) &&& Int32.toUInt32 (nI 31))).toInt32) 0 = bt x n := b_ushr n hn x 0
  rw [e]
  by_cases h : bt x n = true
  · rw [if_pos h, h]; exact propext ⟨fun z => absurd z (by decide), fun z => absurd z (by decide)⟩
  · rw [if_neg h]; simp [h]
theorem bv_u (x : Int32) {n : Nat} (hn : n < 32) : (Int32.toUInt32 x >>> (Int32.toUInt32 (nI n) &&& Int32.toUInt32 (nI 31))).toInt32 &&& nI 1 = if bt x n = true then nI 1 else nI 0 := by
  rw [and1]
  have e : bt ((Int32.toUInt32 x >>> (Int32.toUInt32 (nI n) &&& Int32.toUInt32 (nI 31))).toInt32) 0 = bt x n := b_ushr n hn x 0
  rw [e]
theorem bo_s (x : Int32) {n : Nat} (hn : n < 32) : ((x >>> (nI n &&& nI 31)) &&& nI 1 = nI 1) = (bt x n = true) := by
  rw [and1]
  have e : bt (x >>> (nI n &&& nI 31)) 0 = bt x n := by
    have := b_sshr n hn x (i := 0) (by omega)
    rw [if_pos (by omega), Nat.add_zero] at this
    exact this
  rw [e]
  by_cases h : bt x n = true
  · rw [if_pos h, h]; simp
  · rw [if_neg h]; simp only [h]; exact propext ⟨fun z => absurd z (by decide), fun z => absurd z (by decide)⟩
theorem bt_shl {n : Nat} (hn : n < 32) (i : Nat) : bt (nI 1 <<< (nI n &&& nI 31)) i = decide (i = n) := by
  rcases Nat.lt_or_ge i 32 with h | h
  · have := b_shl n hn (nI 1) (i := i) h
    rw [bt_1] at this
    refine Eq.trans this ?_
    rw [Bool.eq_iff_iff]
    simp
    omega
  · rw [b_big h, decide_eq_false (by omega)]
theorem or_0 (x : Int32) : x ||| nI 0 = x := by
  apply b_ext
  intro i hi
  rw [b_or, bt_nI0, Bool.or_false]

