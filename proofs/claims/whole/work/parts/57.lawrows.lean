/-! ===== the law's frame, with both worlds in it ===== -/
def AL (s : State) : Nat → Prop := fun q => s.heap.size ≤ q
def LCx (p : Program) (s : State) (m : MethodId) (meth : Method) (c : Code) (D : va_G) (cy : Nat → ClassId) (ρ : Nat → Nat → Nat) (b L : Nat) (xs : Nat → Int32) : Prop := lw_At p s m meth c b L xs ∧ va_K D vwCl (tysOf cy) s ∧ NwOK s ∧ va_D (AL s) (wl kS cy ρ IX mem0X ++ wl kS cy ρ IM mem0X) ∧ L ≤ 3072
def LJ (p : Program) (l : Launch) (e : Env) (s : State) (m : MethodId) (below : List Frame) (meth : Method) (c : Code) (D : va_G) (cy : Nat → ClassId) (ρ : Nat → Nat → Nat) (b : Nat) (pc : Nat) (i : Int32) (stk : List Value) (σx σm : Mem) : Prop :=
  ∀ (H : Heap) (locs : List Loc) (ls : Array Slot), va_P D vwCl (wl kS cy ρ IX σx) H → va_P D vwCl (wl kS cy ρ IM σm) H → va_S (AL s) s.heap H locs → lv_has ls 4 [(0, .ref b), (1, .ref (ρ 0 0)), (2, .ref (ρ 30 0)), (3, .int i)] → W p l e room_1 s m #[Value.ref b] below meth c H locs 182 12452 (lw_Z below #[Value.ref b] s) (F0 m pc ls stk)
section LawS
variable {p : Program} {l : Launch} {e : Env} {s : State} {m : MethodId} {below : List Frame} {meth : Method} {c : Code} {D : va_G} {cy : Nat → ClassId} {ρ : Nat → Nat → Nat} {b L : Nat} {xs : Nat → Int32} {pc : Nat} {i : Int32} {stk rest : List Value} {σx σm : Mem}
theorem L_a1 (C : LCx p s m meth c D cy ρ b L xs) (d : decode code pc = .ok (.aload_n 1, 1)) (k : LJ p l e s m below meth c D cy ρ b (pc + 1) i (.ref (ρ 0 0) :: stk) σx σm) : LJ p l e s m below meth c D cy ρ b pc i stk σx σm := fun H locs ls h1 h2 h3 hl => lv_aload_n C.1.1 C.1.2.1 d rfl (lv_at hl 1 rfl) (k H locs ls h1 h2 h3 hl)
theorem L_a2 (C : LCx p s m meth c D cy ρ b L xs) (d : decode code pc = .ok (.aload_n 2, 1)) (k : LJ p l e s m below meth c D cy ρ b (pc + 1) i (.ref (ρ 30 0) :: stk) σx σm) : LJ p l e s m below meth c D cy ρ b pc i stk σx σm := fun H locs ls h1 h2 h3 hl => lv_aload_n C.1.1 C.1.2.1 d rfl (lv_at hl 2 rfl) (k H locs ls h1 h2 h3 hl)
/-- script[i + k] -/
theorem L_arg {n k : Nat} {kk : Int} (C : LCx p s m meth c D cy ρ b L xs) (hnk : n + k < L) (d0 : decode code pc = .ok (.aload_n 0, 1)) (d1 : decode code (pc + 1) = .ok (.iload_n 3, 1)) (d2 : decode code (pc + 2) = .ok (.iconst kk, 1)) (hv : Int32.ofInt kk = nI k) (d3 : decode code (pc + 3) = .ok (.iadd, 1)) (d4 : decode code (pc + 4) = .ok (.iaload, 1)) (k : LJ p l e s m below meth c D cy ρ b (pc + 5) (nI n) (.int (xs (n + k)) :: stk) σx σm) : LJ p l e s m below meth c D cy ρ b pc (nI n) stk σx σm := by
  intro H locs ls h1 h2 h3 hl
  obtain ⟨⟨hx, hb, hr, hml, hown, hts, hX, hbl, hlocks, hgv⟩, hK, hNw, hD, hL⟩ := C
  refine lv_aload_n hx hb d0 rfl (lv_at hl 0 rfl) ?_
  refine lv_iload_n hx hb d1 rfl (lv_at hl 3 rfl) ?_
  refine lv_iconst hx hb d2 hv ?_
  refine lv_iadd hx hb d3 ?_
  rw [nI_add]
  refine va_sld hx hb hX hbl (A := AL s) (Nat.not_le.mpr hbl) h3 (by rw [vp_nI (by omega)]; exact hnk) d4 ?_
  rw [nI_clamp (by omega)]
  exact k H locs ls h1 h2 h3 hl
theorem L_bool {x : Int32} (C : LCx p s m meth c D cy ρ b L xs) (d0 : decode code pc = .ok (.ifCond .eq 7, 3)) (d1 : decode code (pc + 3) = .ok (.iconst 1, 1)) (d2 : decode code (pc + 4) = .ok (.goto 4, 3)) (d3 : decode code (pc + 7) = .ok (.iconst 0, 1)) (k : LJ p l e s m below meth c D cy ρ b (pc + 8) i (.int (if x = 0 then nI 0 else nI 1) :: stk) σx σm) : LJ p l e s m below meth c D cy ρ b pc i (.int x :: stk) σx σm := by
  intro H locs ls h1 h2 h3 hl
  refine lv_if_eq (tgt := pc + 7) C.1.1 C.1.2.1 d0 (by omega) (fun h => ?_) (fun h => ?_)
  · rw [if_pos h] at k
    exact lv_iconst (v := nI 0) C.1.1 C.1.2.1 d3 (by decide) (k H locs ls h1 h2 h3 hl)
  · rw [if_neg h] at k
    refine lv_iconst (v := nI 1) C.1.1 C.1.2.1 d1 (by decide) ?_
    exact lv_goto (tgt := pc + 8) C.1.1 C.1.2.1 d2 (by omega) (k H locs ls h1 h2 h3 hl)
theorem L_i2l {x : Int32} (C : LCx p s m meth c D cy ρ b L xs) (d : decode code pc = .ok (.i2l, 1)) (k : LJ p l e s m below meth c D cy ρ b (pc + 1) i (.long x.toInt64 :: stk) σx σm) : LJ p l e s m below meth c D cy ρ b pc i (.int x :: stk) σx σm := fun H locs ls h1 h2 h3 hl => lv_i2l C.1.1 C.1.2.1 d rfl (k H locs ls h1 h2 h3 hl)
theorem L_shl {x : Int64} (C : LCx p s m meth c D cy ρ b L xs) (d0 : decode code pc = .ok (.bipush 32, 2)) (d : decode code (pc + 2) = .ok (.lshl, 1)) (k : LJ p l e s m below meth c D cy ρ b (pc + 3) i (.long (x <<< ((nI 32).toInt64 &&& 63)) :: stk) σx σm) : LJ p l e s m below meth c D cy ρ b pc i (.long x :: stk) σx σm := fun H locs ls h1 h2 h3 hl => lv_bipush (v := nI 32) C.1.1 C.1.2.1 d0 (by decide) (lv_lshl C.1.1 C.1.2.1 d rfl (k H locs ls h1 h2 h3 hl))
theorem L_lor {x y : Int64} (C : LCx p s m meth c D cy ρ b L xs) (hw : Cond.constantLong R_law 36 4294967295 ∈ TB) (d0 : decode code pc = .ok (.ldc2_w 36, 3)) (d1 : decode code (pc + 3) = .ok (.land, 1)) (d2 : decode code (pc + 4) = .ok (.lor, 1)) (k : LJ p l e s m below meth c D cy ρ b (pc + 5) i (.long (x ||| (y &&& 4294967295)) :: stk) σx σm) : LJ p l e s m below meth c D cy ρ b pc i (.long y :: .long x :: stk) σx σm := by
  intro H locs ls h1 h2 h3 hl
  obtain ⟨⟨hx, hb, hr, hml, hown, hts, hX, hbl, hlocks, hgv⟩, hK, hNw, hD, hL⟩ := C
  refine lv_ldc2 hx hb hown (tb_hts hts _ hw) d0 ?_
  refine lv_land hx hb d1 ?_
  refine lv_lor hx hb d2 ?_
  exact k H locs ls h1 h2 h3 hl
theorem L_eq {r r' : Int32} {off : Int} (C : LCx p s m meth c D cy ρ b L xs) (he : r = r') (d : decode code pc = .ok (.if_icmp .eq off, 3)) (ht : (pc : Int) + off = ((1194 : Nat) : Int)) (k : LJ p l e s m below meth c D cy ρ b 1194 i stk σx σm) : LJ p l e s m below meth c D cy ρ b pc i (.int r' :: .int r :: stk) σx σm := fun H locs ls h1 h2 h3 hl => lv_icmp_eq C.1.1 C.1.2.1 d ht (fun _ => k H locs ls h1 h2 h3 hl) (fun h => absurd he h)
theorem L_leq {r r' : Int64} {off : Int} (C : LCx p s m meth c D cy ρ b L xs) (he : r = r') (d0 : decode code pc = .ok (.lcmp, 1)) (d : decode code (pc + 1) = .ok (.ifCond .eq off, 3)) (ht : ((pc + 1 : Nat) : Int) + off = ((1194 : Nat) : Int)) (k : LJ p l e s m below meth c D cy ρ b 1194 i stk σx σm) : LJ p l e s m below meth c D cy ρ b pc i (.long r' :: .long r :: stk) σx σm := by
  intro H locs ls h1 h2 h3 hl
  refine W.lcmp C.1.1 C.1.2.1 d0 ?_
  refine lv_if_eq (tgt := 1194) C.1.1 C.1.2.1 d ht (fun _ => k H locs ls h1 h2 h3 hl) (fun h => absurd ?_ h)
  subst he
  simp [lg_cmp]
theorem hD_X (h : va_D (AL s) (wl kS cy ρ IX mem0X ++ wl kS cy ρ IM mem0X)) : va_D (AL s) (wl kS cy ρ IX σx ++ wl kS cy ρ IM σm) := vD_addr (by simp only [List.map_append, wl_fst]) h
theorem hD_M (h : va_D (AL s) (wl kS cy ρ IX mem0X ++ wl kS cy ρ IM mem0X)) : va_D (AL s) (wl kS cy ρ IM σm ++ wl kS cy ρ IX σx) := vD_perm List.perm_append_comm (hD_X h)
theorem inXX : ((0, 0) : KI) ∈ IX := by decide
theorem inMM : ((30, 0) : KI) ∈ IM := by decide
theorem L_cX {S : SR} {idx : Nat} {as : List AV} {fl : List (Option Nat)} {Q' : Option AV → Mem → Prop} {v0 : Option AV} {sx : Mem} (C : LCx p s m meth c D cy ρ b L xs) (hS : Sok S) (hci : S.2.2.2.2.2 = some 7) (hk : kS 0 = .inl (7, fl)) (hw : Cond.methodLink R_law idx S.1 ∈ TB) (hok : okS IX as) (hlen : as.length = S.2.2.2.2.1) (d : decode code pc = .ok (.invokevirtual idx, 3)) (hr8 : (rest.map fun v => v.category).sum ≤ 8) (hC : Cal IX 7 S (ar 0 0 :: as) σx Q') (hQ : ∀ v t, Q' v t → v = v0 ∧ t = sx) (k : LJ p l e s m below meth c D cy ρ b (pc + 3) i ((v0.map (toV ρ)).toList ++ rest) sx σm) : LJ p l e s m below meth c D cy ρ b pc i ((as.map (toV ρ)).reverse ++ .ref (ρ 0 0) :: rest) σx σm := by
  intro H locs ls h1 h2 h3 hl
  obtain ⟨⟨hx, hb, hr, hml, hown, hts, hX, hbl, hlocks, hgv⟩, hK, hNw, hD, hL⟩ := C
  have hT := tb_hts hts
  refine W_virt (I := IX) (k := 0) (i := 0) (d := 7) (wr := wl kS cy ρ IM σm) hS hci hx hb hml hown hT (hT _ hw) hK hNw (by decide) (by decide) (Nat.le_of_ble_eq_true rfl) (Nat.le_of_ble_eq_true rfl) inXX hk hok hlen d hl.1 hr8 hC h1 h2 (hD_X hD) h3 (fun q h => h) (fun v σ' H1 locs1 hq hP1 hP2 hS1 => ?_)
  obtain ⟨rfl, rfl⟩ := hQ v σ' hq
  exact k H1 locs1 ls hP1 hP2 hS1 hl
theorem L_cM {S : SR} {idx : Nat} {as : List AV} {fl : List (Option Nat)} {Q' : Option AV → Mem → Prop} {v0 : Option AV} {sm : Mem} (C : LCx p s m meth c D cy ρ b L xs) (hS : Sok S) (hci : S.2.2.2.2.2 = some 8) (hk : kS 30 = .inl (8, fl)) (hw : Cond.methodLink R_law idx S.1 ∈ TB) (hok : okS IM as) (hlen : as.length = S.2.2.2.2.1) (d : decode code pc = .ok (.invokevirtual idx, 3)) (hr8 : (rest.map fun v => v.category).sum ≤ 8) (hC : Cal IM 7 S (ar 30 0 :: as) σm Q') (hQ : ∀ v t, Q' v t → v = v0 ∧ t = sm) (k : LJ p l e s m below meth c D cy ρ b (pc + 3) i ((v0.map (toV ρ)).toList ++ rest) σx sm) : LJ p l e s m below meth c D cy ρ b pc i ((as.map (toV ρ)).reverse ++ .ref (ρ 30 0) :: rest) σx σm := by
  intro H locs ls h1 h2 h3 hl
  obtain ⟨⟨hx, hb, hr, hml, hown, hts, hX, hbl, hlocks, hgv⟩, hK, hNw, hD, hL⟩ := C
  have hT := tb_hts hts
  refine W_virt (I := IM) (k := 30) (i := 0) (d := 7) (wr := wl kS cy ρ IX σx) hS hci hx hb hml hown hT (hT _ hw) hK hNw (by decide) (by decide) (Nat.le_of_ble_eq_true rfl) (Nat.le_of_ble_eq_true rfl) inMM hk hok hlen d hl.1 hr8 hC h2 h1 (hD_M hD) h3 (fun q h => h) (fun v σ' H1 locs1 hq hP1 hP2 hS1 => ?_)
  obtain ⟨rfl, rfl⟩ := hQ v σ' hq
  exact k H1 locs1 ls hP2 hP1 hS1 hl
theorem ok_i {I : List KI} : ∀ {l : List Value}, okS I (l.map .inl)
  | [], _, h => by cases h
  | _ :: _, _, h => by
    rcases List.mem_cons.mp h with rfl | h
    · trivial
    · exact ok_i _ h
end LawS
