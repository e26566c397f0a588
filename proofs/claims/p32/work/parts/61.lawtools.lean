variable {κ : Nat → Nat → Nat → Prop}
/-! ===== numbers of the law ===== -/
theorem and_le (x : Int32) {k : Nat} (hk : k < 2 ^ 31) : ∃ m, m ≤ k ∧ x &&& nI k = nI m := by
  refine ⟨(x.toBitVec &&& (nI k).toBitVec).toNat, ?_, ?_⟩
  · rw [BitVec.toNat_and]
    have e : (nI k).toBitVec.toNat = k := by
      show (BitVec.ofNat 32 k).toNat = k
      rw [BitVec.toNat_ofNat]
      omega
    rw [e]
    exact Nat.and_le_right
  · apply Int32.toBitVec_inj.mp
    rw [Int32.toBitVec_and]
    show _ = BitVec.ofNat 32 _
    rw [BitVec.ofNat_toNat, BitVec.setWidth_eq]
theorem irem_nI {a b : Nat} (ha : a < 2 ^ 31) (hb : b < 2 ^ 31) : nI a - nI a / nI b * nI b = nI (a % b) := by
  have e : nI a / nI b = nI (a / b) := (Int32.ofNat_div ha hb).symm
  have h1 : a / b * b ≤ a := Nat.div_mul_le_self a b
  rw [e, pk_mul, pk_sub h1]
  congr 1
  have := Nat.div_add_mod a b
  rw [Nat.mul_comm] at this
  omega
theorem nI_n0 {a : Nat} (h0 : 0 < a) (h : a < 2 ^ 31) : ¬ nI a = 0 := by
  rw [lit_0, eq_nI h (by omega)]
  omega
theorem nI_nlt0 {a : Nat} (h : a < 2 ^ 31) : ¬ nI a < 0 := by
  rw [lit_0, lt_nI h (by omega)]
  omega
theorem cmp_0 (x y : Int64) : (lg_cmp x y = 0) = (x = y) := by
  refine propext ⟨fun h => ?_, fun h => by subst h; simp [lg_cmp]⟩
  unfold lg_cmp at h
  split at h
  · exact absurd h (by decide)
  · split at h
    · assumption
    · exact absurd h (by decide)
theorem l_inj {x y : Int32} (h : x.toInt64 = y.toInt64) : x = y := by
  have := congrArg Int64.toInt h
  rw [Int32.toInt_toInt64, Int32.toInt_toInt64] at this
  exact Int32.toInt_inj.mp this
/-! ===== one program alone ===== -/
/-- the class's memory is as some memory of the reference says -/
def Inv (κ : Nat → Nat → Nat → Prop) (σ : Mem) : Prop := ∃ σm, Rel κ σ σm
theorem Inv_mono {κ' : Nat → Nat → Nat → Prop} {σ : Mem} (h : ∀ P F B, κ P F B → κ' P F B) (H : Inv κ σ) : Inv κ' σ := by
  obtain ⟨σm, P, W, F, G, C, N, D, B, w, l, ⟨h1, h2, h3, h4, h5, h6, h7, h8, h9, h10⟩, R⟩ := H
  exact ⟨σm, P, W, F, G, C, N, D, B, w, l, ⟨h1, h2, h3, h4, h5, h6, h7, h8, h9, h10.1, h _ _ _ h10.2⟩, R⟩
theorem Inv_c {σ σ' : Mem} (h1 : σ'.1 = σ.1) (h2 : σ'.2 8 = σ.2 8) (H : Inv κ σ) : Inv κ σ' := by
  obtain ⟨σm, P, W, F, G, C, N, D, B, w, l, R⟩ := H
  refine ⟨σm, P, W, F, G, C, N, D, B, w, l, ?_⟩
  unfold RelAt at R ⊢
  rw [h1, h2]
  exact R
theorem Inv_num {σ : Mem} (H : Inv κ σ) : ∃ P F N B, κ P F B ∧ σ.1 1 0 5 = nI P ∧ P ≤ 12 ∧ σ.1 0 0 9 = nI F ∧ F ≤ 20 ∧ σ.1 0 0 14 = nI N ∧ N < 48 := by
  obtain ⟨σm, P, W, F, G, C, N, D, B, w, l, ⟨⟨xP, _, hP⟩, _, ⟨xF, _, hF⟩, _, _, ⟨xN, _, hN⟩, _, _, _, _, hk⟩, R⟩ := H
  exact ⟨P, F, N, B, hk, xP, hP, xF, hF, xN, hN⟩
theorem use_R {α β : Type} {C : (α → Mem → Prop) → Prop} {C' : α → Mem → (β → Mem → Prop) → Prop} {Pp : α → Mem → β → Mem → Prop} (h : Rn C (fun r sx => Rn (C' r sx) (fun r' sm => Pp r sx r' sm))) {K : α → Mem → Prop} (hK : ∀ r sx r' sm, Pp r sx r' sm → K r sx) : C K := by
  obtain ⟨r, sx, ⟨r', sm, hp, _⟩, hk⟩ := h
  exact hk K (hK r sx r' sm hp)
section Calls4
variable {d : Nat} {σ : Mem} {K : Int32 → Mem → Prop}
theorem c_st0 (h : K (σ.1 1 0 5) σ) : CalI IX (d + 2) S_X7_status [ar 0 0, ai 0] σ K := by
  refine x_X7_status ⟨fun z => absurd z (by decide), fun _ => h, fun z => absurd z (by decide), fun z => absurd z (by decide), fun z => absurd z (by decide), fun z => absurd z (by decide), fun z => absurd z (by decide), fun z => absurd z (by decide), fun z => absurd z (by decide), fun z => absurd z (by decide), fun z => absurd z (by decide), fun z => absurd z (by decide), trivial⟩
theorem c_st2 (h : K (σ.1 0 0 9) σ) : CalI IX (d + 2) S_X7_status [ar 0 0, ai 2] σ K := by
  refine x_X7_status ⟨fun z => absurd z (by decide), fun z => absurd z (by decide), fun z => absurd z (by decide), fun _ => h, fun z => absurd z (by decide), fun z => absurd z (by decide), fun z => absurd z (by decide), fun z => absurd z (by decide), fun z => absurd z (by decide), fun z => absurd z (by decide), fun z => absurd z (by decide), fun z => absurd z (by decide), trivial⟩
theorem c_st5 (h : K (σ.1 0 0 14) σ) : CalI IX (d + 2) S_X7_status [ar 0 0, ai 5] σ K := by
  refine x_X7_status ⟨fun z => absurd z (by decide), fun z => absurd z (by decide), fun z => absurd z (by decide), fun z => absurd z (by decide), fun z => absurd z (by decide), fun z => absurd z (by decide), fun _ => h, fun z => absurd z (by decide), fun z => absurd z (by decide), fun z => absurd z (by decide), fun z => absurd z (by decide), fun z => absurd z (by decide), trivial⟩
/-- what where() answers -/
def Wh (F : Nat) (σ : Mem) (g t : Nat) : Int32 := if g < F then σ.1 12 g t else -1
theorem c_where {F g t : Nat} (xF : σ.1 0 0 9 = nI F) (hF : F ≤ 20) (hg : g < 30) (ht : t < 48) (h : K (Wh F σ g t) σ) : CalI IX (d + 2) S_X7_where [ar 0 0, ai (nI g), ai (nI t)] σ K := by
  have n0 : ∀ a, a < 2 ^ 31 → (nI a < 0) = False := fun a ha => eq_false (nI_nlt0 ha)
  have e48 : ((48 : Int32) ≤ nI t) = False := by
    rw [lit_48, le_nI (by omega) (by omega)]
    exact eq_false (by omega)
  refine x_X7_where ⟨fun z => absurd z (nI_nlt0 (by omega)), fun _ => ⟨fun z => ?_, fun z => ⟨fun y => absurd y (nI_nlt0 (by omega)), fun _ => ⟨fun y => ?_, fun _ => ⟨?_, ?_, ?_⟩⟩⟩⟩⟩
  · rw [xF, le_nI (by omega) (by omega)] at z
    rw [Wh, if_neg (by omega)] at h
    exact h
  · rw [e48] at y
    exact y.elim
  · rw [xF, le_nI (by omega) (by omega)] at z
    rw [vp_nI (by omega)]
    omega
  · rw [vp_nI (by omega)]
    exact ht
  · rw [xF, le_nI (by omega) (by omega)] at z
    rw [nI_clamp (by omega), nI_clamp (by omega)]
    rw [Wh, if_pos (by omega)] at h
    exact h
end Calls4
/-! ===== the world with what the law had ===== -/
/-- σ' with the law's own row as in σ -/
def mY (σ σ' : Mem) : Mem := (σ'.1, fun k i j => if k = 62 then σ.2 62 i j else σ'.2 k i j)
theorem mY_self (σ : Mem) : mY σ σ = σ := Mem_extL rfl (fun k i j => by
  show (if k = 62 then σ.2 62 i j else σ.2 k i j) = _
  split
  · next h => rw [h]
  · rfl)
theorem IX_62 : ∀ q ∈ IX, q.1 ≠ 62 := by decide +kernel
theorem wl_Y {cy : Nat → ClassId} {ρ : Nat → Nat → Nat} {σ : Mem} : wl kS cy ρ IY σ = wl kS cy ρ IX σ ++ [(ρ 62 0, ent kS cy ρ σ 62 0)] := List.map_append
theorem wl_mY {cy : Nat → ClassId} {ρ : Nat → Nat → Nat} {σ σ' : Mem} : wl kS cy ρ IX (mY σ σ') = wl kS cy ρ IX σ' := by
  unfold wl
  refine List.map_congr_left (fun q hq => ?_)
  have h := IX_62 q hq
  congr 1
  exact ent_congr (fun j => rfl) (fun j => if_neg h)
theorem ent_mY {cy : Nat → ClassId} {ρ : Nat → Nat → Nat} {σ σ' : Mem} : ent kS cy ρ (mY σ σ') 62 0 = ent kS cy ρ σ 62 0 := by
  have e : kS 62 = .inr (1, 192, 0) := by decide
  rw [ent_a1 e, ent_a1 e]
  rfl
theorem okV_Y {u : AV} (h : okV IX u) : okV IY u := by
  unfold okV at h ⊢
  split
  · trivial
  · exact h.imp (fun z => List.mem_append_left _ z) id
theorem Cal_ext {d : Nat} {S : SR} {av : List AV} {σ : Mem} {Q : Option AV → Mem → Prop} (hav : okS IX av) (hC : Cal IX d S av σ Q) : Cal IY d S av σ (fun v σ' => ∃ s, Q v s ∧ σ' = mY σ s) := by
  intro hX l D cy ρ sz hok
  have h1 := hC offX l D cy ρ sz hav
  have sub : ∀ q, va_A (wl kS cy ρ IX σ) sz q → va_A (wl kS cy ρ IY σ) sz q := by
    intro q h
    rcases h with ⟨k, e, h⟩ | h
    · obtain ⟨k2, hk2⟩ := List.getElem?_of_mem (show (q, e) ∈ wl kS cy ρ IY σ by rw [wl_Y]; exact List.mem_append_left _ (List.mem_of_getElem? h))
      exact Or.inl ⟨k2, e, hk2⟩
    · exact Or.inr h
  unfold Met at h1 ⊢
  refine MetFree.mono h1 (fun a st hp => ?_) (fun _ _ _ _ _ _ => trivial) (fun a st o t hp hq => ?_)
  · obtain ⟨p0, p1, pP, pK, pD, pN⟩ := hp
    rw [wl_Y] at pP pD
    refine ⟨p0, p1, (vP_app.mp pP).1, pK, ?_, pN⟩
    rw [vD_iff] at pD ⊢
    rw [List.map_append, List.nodup_append] at pD
    exact ⟨pD.1.1, fun q _ => trivial⟩
  · obtain ⟨p0, p1, pP, pK, pD, pN⟩ := hp
    obtain ⟨⟨⟨v, s, e1, e2, e3, e4, e5, e6⟩, e7⟩, L, hF, hL⟩ := hq
    have pP' := pP
    have pD' := pD
    rw [wl_Y] at pP' pD'
    have hq2 := (vP_app.mp pP').2
    have hat : va_at D vwCl (ρ 62 0, ent kS cy ρ σ 62 0) st.heap := hq2 0 _ rfl
    have hlt : ρ 62 0 < st.heap.size := hat.lt
    have hnot : ¬ va_A (wl kS cy ρ IX σ) sz (ρ 62 0) := by
      intro h
      rcases h with ⟨k, e, h⟩ | h
      · have hn := (vD_iff.mp pD').1
        rw [List.map_append, List.nodup_append] at hn
        exact hn.2.2 _ (List.mem_map.mpr ⟨_, List.mem_of_getElem? h, rfl⟩) _ (List.mem_map.mpr ⟨_, List.mem_singleton.mpr rfl, rfl⟩) rfl
      · omega
    refine ⟨⟨⟨v, mY σ s, e1, ⟨s, e2, rfl⟩, ?_, e4, ?_, fun u hu => ?_⟩, e7.1, fun q h1 h2 => e7.2 q h1 (fun z => h2 (sub q z))⟩, L, hF, fun q hq => sub _ (hL q hq)⟩
    · rw [wl_Y, wl_mY, ent_mY]
      refine vP_app.mpr ⟨e3, ?_⟩
      rw [vP_iff]
      intro q hq
      rw [List.mem_singleton] at hq
      subst hq
      exact hat.kept (e7.2 _ hlt hnot)
    · have hs := va_D.self (sz := sz) pD
      exact vD_addr (by simp only [wl_fst]) hs
    · exact okV_Y (e6 u hu)
theorem CalI_ext {d : Nat} {S : SR} {av : List AV} {σ : Mem} {r0 : Int32} {K : Int32 → Mem → Prop} (hav : okS IX av) (hC : CalI IX d S av σ (fun r s => r = r0 ∧ s = σ)) (h : K r0 σ) : CalI IY d S av σ K :=
  Cal.mono (fun v σ' hq => by
    obtain ⟨s, ⟨x, hv, hx, hs⟩, he⟩ := hq
    subst hx
    rw [hs, mY_self] at he
    subst he
    exact ⟨x, hv, h⟩) (Cal_ext hav hC)
theorem CalV_ext {d : Nat} {S : SR} {av : List AV} {σ : Mem} {Q : Mem → Prop} {K : Mem → Prop} (hav : okS IX av) (hC : CalV IX d S av σ Q) (h : ∀ s, Q s → K (mY σ s)) : CalV IY d S av σ K :=
  Cal.mono (fun v σ' hq => by
    obtain ⟨s, ⟨hv, hs⟩, he⟩ := hq
    subst he
    exact ⟨hv, h s hs⟩) (Cal_ext hav hC)
