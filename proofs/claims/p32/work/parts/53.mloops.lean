section Make
variable {p : Program} {l : Launch} {e : Env} {R : Room} {s : State} {m : MethodId} {args : Array Value} {below : List Frame} {meth : Method} {c : Code} {H H0 : Heap} {locs : List Loc} {cells slots : Nat} {Qf : State → Prop} {D : va_G} {cy : Nat → ClassId} {A : Nat → Prop} {pc : Nat} {ls : Array Slot} {rest : List Value} {ws : va_W} {own : String} {cc : ByteArray} {nL : Nat}
/-- new, dup, the constructor's call -/
theorem W_make {S' : SR} {idc idx ci k d' mc' ms' N : Nat} {T : u_T} {ty : Nat → FieldType} {fs : List Value} {I : List KI} (hC : Ctor l mem0X false S' d' mc' ms' ci k fs I) (hcl : vwCl[ci]? = some (S'.1.cls, T, N)) (hinT : ∀ w ∈ u_ws S'.1.cls T N, w ∈ TB) (hty : ∀ k, k < N → parseFieldDescriptor (T k).2.2.1 = some (ty k)) (hfs : ∀ j, j < N → defaultValue (ty j) = vp_V fs j) (hclk : Cond.classLink own idc S'.1.cls ∈ TB) (hinsb : Cond.instantiable S'.1.cls N ∈ TB)
    (hx : p.tables.exec = Jvm.exec) (hb : c.code = cc) (hml : c.maxLocals = nL) (hown : s.vm.findClass own = some m.cls) (hts : ∀ w ∈ TB, w.before args s = true) (hK : va_K D vwCl (tysOf cy) s) (hNw : NwOK s) (hA : ∀ q : Nat, H0.size ≤ q → A q)
    (hcode : Jvm.Cond.code S'.1 S'.2.1 S'.2.2.1 none ∈ TB) (hini : Cond.initialized S'.1.cls ∈ TB) (hinst : Cond.instanceMethod S'.1 ∈ TB) (hname : S'.1.name = "<init>") (hd : S'.1.cls ≠ "java/lang/invoke/MethodHandle" ∧ S'.1.cls ≠ "java/lang/invoke/VarHandle" ∧ (parseMethodDescriptor S'.1.desc).map (fun d => d.parameters.length) = some 0) (h21 : S'.2.2.1 ≤ 21) (hlink : (Cond.methodLink own idx S'.1).before args s = true ∨ ∃ host, (own, idx, S'.1, host) ∈ NWm) (hfr : d' + 1 ≤ R.frames) (hlo : 40 * (d' + 1) ≤ R.locals) (hcells : cells + 1 + mc' ≤ R.cells) (hslots : slots + N + ms' ≤ R.slots)
    (d0 : decode cc pc = .ok (.new idc, 3)) (d1 : decode cc (pc + 3) = .ok (.dup, 1)) (d2 : decode cc (pc + 4) = .ok (.invokespecial idx, 3)) (hls : ls.size = nL) (hr8 : (rest.map fun v => v.category).sum ≤ 7)
    (hP : va_P D vwCl ws H) (hD : va_D A ws) (hS : va_S A H0 H locs)
    (kk : ∀ (ρ : Nat → Nat → Nat) (H1 : Heap) (locs1 : List Loc), va_P D vwCl (ws ++ wl kS cy ρ I mem0X) H1 → va_D A (ws ++ wl kS cy ρ I mem0X) → va_S A H0 H1 locs1 → W p l e R s m args below meth c H1 locs1 (cells + 1 + mc') (slots + N + ms') Qf (F0 m (pc + 7) ls (.ref (ρ k 0) :: rest))) : W p l e R s m args below meth c H locs cells slots Qf (F0 m pc ls rest) := by
  refine va_new (ci := ci) (fs := fs) hx hb hts hinT ty hty hown (hts _ hclk) (hts _ hinsb) (hts _ hini) hK hP hD hS hA hcl hfs (by omega) (by omega) d0 (fun q H1 hP1 hD1 hS1 => ?_)
  refine lv_dup hx hb d1 rfl ?_
  refine W_ctor (rest := .ref q :: rest) hC hx hb hml hown hts hK hNw (fun h => by cases h) hA hcode hini hinst hname hd h21 hlink hfr hlo (by omega) (by omega) d2 hls ?_ hP1 hD1 hS1 (fun ρ H2 locs2 hρ hP2 hD2 hS2 => ?_)
  · rw [List.map_cons, List.sum_cons]
    show 1 + (rest.map fun v => v.category).sum ≤ 8
    omega
  · rw [← hρ]
    exact kk ρ H2 locs2 hP2 hD2 hS2
end Make
def blk (cy : Nat → ClassId) (I : List KI) (g : Nat → Nat → Nat → Nat) : Nat → va_W
  | 0 => []
  | n + 1 => blk cy I g n ++ wl kS cy (g n) I mem0X
theorem blk_c {cy : Nat → ClassId} {I : List KI} {g g' : Nat → Nat → Nat → Nat} : ∀ {n : Nat}, (∀ j, j < n → g j = g' j) → blk cy I g n = blk cy I g' n
  | 0, _ => rfl
  | n + 1, h => by rw [blk, blk, blk_c (fun j hj => h j (by omega)), h n (by omega)]
def mB (h : Nat) (fs : List Value) (a24 a25 a26 : Nat) (cy : Nat → ClassId) (f24 f25 f26 : Nat → Option Nat) : va_W := [(h, .inr (7, fs)), (a24, .inl (cy 3, 8, .inr (.inr (.inr (.inr f24))))), (a25, .inl (cy 4, 20, .inr (.inr (.inr (.inr f25))))), (a26, .inl (cy 5, 10, .inr (.inr (.inr (.inr f26)))))]

set_option maxHeartbeats 4000000 in
set_option maxRecDepth 20000 in
theorem L_shelves {p : Program} {l : Launch} {e : Env} {R : Room} {s : State} {m : MethodId} {args : Array Value} {below : List Frame} {meth : Method} {c : Code} {Qf : State → Prop} {D : va_G} {cy : Nat → ClassId} {A : Nat → Prop} (Cx : CxN true S_X7_init 3 146 6082 p R s m args meth c D cy A) {h a24 a25 a26 c0 s0 : Nat} {fs : List Value} {f25 f26 : Nat → Option Nat} {wt : va_W} (hfs : fs[1]? = some (.ref a24)) (hc0 : c0 + 16 ≤ 146) (hs0 : s0 + 512 ≤ 6082)
    (kk : ∀ (g : Nat → Nat → Nat → Nat) (ff : Nat → Option Nat) (H : Heap) (locs : List Loc) (ls : Array Slot), (∀ j, j < 8 → ff j = some (g j 7 0)) → va_P D vwCl (mB h fs a24 a25 a26 cy ff f25 f26 ++ (wt ++ blk cy [(7, 0), (8, 0)] g 8)) H → va_D A (mB h fs a24 a25 a26 cy ff f25 f26 ++ (wt ++ blk cy [(7, 0), (8, 0)] g 8)) → va_S A s.heap H locs → lv_has ls 2 [(0, .ref h)] → W p l e R s m args below meth c H locs (c0 + 16) (s0 + 512) Qf (F0 m 118 ls [])) :
    ∀ (n i : Nat), n + i = 8 → ∀ (g : Nat → Nat → Nat → Nat) (ff : Nat → Option Nat) (H : Heap) (locs : List Loc) (ls : Array Slot), (∀ j, j < i → ff j = some (g j 7 0)) → va_P D vwCl (mB h fs a24 a25 a26 cy ff f25 f26 ++ (wt ++ blk cy [(7, 0), (8, 0)] g i)) H → va_D A (mB h fs a24 a25 a26 cy ff f25 f26 ++ (wt ++ blk cy [(7, 0), (8, 0)] g i)) → va_S A s.heap H locs → lv_has ls 2 [(0, .ref h), (1, .int (nI i))] → W p l e R s m args below meth c H locs (c0 + 2 * i) (s0 + 64 * i) Qf (F0 m 93 ls []) := by
  have hd : ∀ pc q, gd 173 C_X7_init pc = some q → decode S_X7_init.2.1 pc = .ok q := Mok_X7_init.1
  obtain ⟨hx, hb, hml, hr, hlocks, hown, hts, hA, hin, hNw, hK, hfr, hlo, hRc, hRs, hEx⟩ := id Cx
  have hfr3 : 2 + 1 ≤ R.frames := hfr
  have hlo3 : 40 * (2 + 1) ≤ R.locals := hlo
  intro n
  induction n with
  | zero =>
    intro i hi g ff H locs ls hff hP hD hS hl
    have ei : i = 8 := by omega
    subst ei
    refine lv_iload_n hx hb (hd 93 (.iload_n 1, 1) rfl) rfl (lv_at hl 1 rfl) ?_
    refine lv_bipush (v := nI 8) hx hb (hd 94 (.bipush 8, 2) rfl) (by decide) ?_
    refine lv_icmp_ge (tgt := 118) hx hb (hd 96 (.if_icmp .ge 22, 3) rfl) (by decide) (fun _ => ?_) (fun c1 => absurd (by rw [le_nI (by omega) (by omega)]; omega) c1)
    exact kk g ff H locs ls hff hP hD hS (lv_sub hl [0] rfl)
  | succ n ih =>
    intro i hi g ff H locs ls hff hP hD hS hl
    refine lv_iload_n hx hb (hd 93 (.iload_n 1, 1) rfl) rfl (lv_at hl 1 rfl) ?_
    refine lv_bipush (v := nI 8) hx hb (hd 94 (.bipush 8, 2) rfl) (by decide) ?_
    refine lv_icmp_ge (tgt := 118) hx hb (hd 96 (.if_icmp .ge 22, 3) rfl) (by decide) (fun c1 => by rw [le_nI (by omega) (by omega)] at c1; omega) (fun _ => ?_)
    refine lv_aload_n hx hb (hd 99 (.aload_n 0, 1) rfl) rfl (lv_at hl 0 rfl) ?_
    refine va_get (D := D) (ci := 7) (v := .ref a24) hx hb hts inX7 hown hK hP 0 rfl rfl 1 (by decide) (hts _ (tb_2 28 (by decide +kernel) (by decide +kernel))) (fun _ h9 => h9) hfs (hd 100 (.getfield 18, 3) rfl) ?_
    refine lv_iload_n hx hb (hd 103 (.iload_n 1, 1) rfl) rfl (lv_at hl 1 rfl) ?_
    refine W_make (idc := 16) (idx := 62) (K_Shelf l) rfl inX5 tyX5_ok (fun j hj => by rcases (by omega : j = 0 ∨ j = 1 ∨ j = 2 ∨ j = 3) with rfl | rfl | rfl | rfl <;> rfl) (tb_1 92 (by decide +kernel) (by decide +kernel)) (tb_1 144 (by decide +kernel) (by decide +kernel)) hx hb hml hown hts hK hNw hA (tb_1 147 (by decide +kernel) (by decide +kernel)) (tb_1 6 (by decide +kernel) (by decide +kernel)) (tb_1 146 (by decide +kernel) (by decide +kernel)) rfl (by decide +kernel) (by decide) (Or.inr ⟨"TownFolk", List.mem_of_getElem? (i := 4) (by decide +kernel)⟩) hfr3 hlo3 (by rw [hRc]; omega) (by rw [hRs]; omega) (hd 104 (.new 16, 3) rfl) (hd 107 (.dup, 1) rfl) (hd 108 (.invokespecial 62, 3) rfl) hl.1 (Nat.le_of_ble_eq_true rfl) hP hD hS (fun ρ1 H locs hP hD hS => ?_)
    have hv : ((mB h fs a24 a25 a26 cy ff f25 f26 ++ (wt ++ blk cy [(7, 0), (8, 0)] g i)) ++ wl kS cy ρ1 [(7, 0), (8, 0)] mem0X)[(mB h fs a24 a25 a26 cy ff f25 f26 ++ (wt ++ blk cy [(7, 0), (8, 0)] g i)).length]? = some (ρ1 7 0, ent kS cy ρ1 mem0X 7 0) := by
      rw [List.getElem?_append_right (Nat.le_refl _), Nat.sub_self]
      rfl
    refine va_astq (ci := 5) (r := (RX5, TX5, 4)) hx hb hK hP hD hS 1 3 _ rfl rfl hv rfl (by rw [vp_nI (by omega)]; omega) (hd 111 (.aastore, 1) rfl) (fun H locs hP hD hS => ?_)
    rw [nI_clamp (by omega)] at hP hD
    have eb : wt ++ blk cy [(7, 0), (8, 0)] (fun j => if j = i then ρ1 else g j) (i + 1) = (wt ++ blk cy [(7, 0), (8, 0)] g i) ++ wl kS cy ρ1 [(7, 0), (8, 0)] mem0X := by
      rw [blk, if_pos rfl, blk_c (g' := g) (fun j hj => if_neg (by omega)), List.append_assoc]
    have hP : va_P D vwCl (mB h fs a24 a25 a26 cy (va_up ff i (some (ρ1 7 0))) f25 f26 ++ ((wt ++ blk cy [(7, 0), (8, 0)] g i) ++ wl kS cy ρ1 [(7, 0), (8, 0)] mem0X)) H := hP
    have hD : va_D A (mB h fs a24 a25 a26 cy (va_up ff i (some (ρ1 7 0))) f25 f26 ++ ((wt ++ blk cy [(7, 0), (8, 0)] g i) ++ wl kS cy ρ1 [(7, 0), (8, 0)] mem0X)) := hD
    rw [← eb] at hP hD
    refine lv_iinc (v := nI (i + 1)) (lv' := [(1, .int (nI (i + 1))), (0, .ref h)]) hx hb (hd 112 (.iinc 1 1, 3) rfl) hl (k := 1) rfl (nI_1 i) (by decide) rfl (fun ls hl => ?_)
    refine lv_goto (tgt := 93) hx hb (hd 115 (.goto (-22), 3) rfl) (by decide) ?_
    refine W.widen (k := c0 + 2 * (i + 1)) (n := s0 + 64 * (i + 1)) (by omega) (by omega) ?_
    refine ih (i + 1) (by omega) _ _ H locs ls (fun j hj => ?_) hP hD hS (lv_sub hl [1, 0] rfl)
    by_cases ej : j = i
    · rw [ej, va_up, if_pos rfl, if_pos rfl]
    · rw [va_up, if_neg ej, if_neg ej]
      exact hff j (by omega)
set_option maxHeartbeats 4000000 in
set_option maxRecDepth 20000 in
theorem L_people {p : Program} {l : Launch} {e : Env} {R : Room} {s : State} {m : MethodId} {args : Array Value} {below : List Frame} {meth : Method} {c : Code} {Qf : State → Prop} {D : va_G} {cy : Nat → ClassId} {A : Nat → Prop} (Cx : CxN true S_X7_init 3 146 6082 p R s m args meth c D cy A) {h a24 a25 a26 c0 s0 : Nat} {fs : List Value} {f24 f26 : Nat → Option Nat} {wt : va_W} (hfs : fs[2]? = some (.ref a25)) (hc0 : c0 + 100 ≤ 146) (hs0 : s0 + 2680 ≤ 6082)
    (kk : ∀ (g : Nat → Nat → Nat → Nat) (ff : Nat → Option Nat) (H : Heap) (locs : List Loc) (ls : Array Slot), (∀ j, j < 20 → ff j = some (g j 9 0)) → va_P D vwCl (mB h fs a24 a25 a26 cy f24 ff f26 ++ (wt ++ blk cy [(9, 0), (10, 0), (11, 0), (12, 0), (13, 0)] g 20)) H → va_D A (mB h fs a24 a25 a26 cy f24 ff f26 ++ (wt ++ blk cy [(9, 0), (10, 0), (11, 0), (12, 0), (13, 0)] g 20)) → va_S A s.heap H locs → lv_has ls 2 [(0, .ref h)] → W p l e R s m args below meth c H locs (c0 + 100) (s0 + 2680) Qf (F0 m 145 ls [])) :
    ∀ (n i : Nat), n + i = 20 → ∀ (g : Nat → Nat → Nat → Nat) (ff : Nat → Option Nat) (H : Heap) (locs : List Loc) (ls : Array Slot), (∀ j, j < i → ff j = some (g j 9 0)) → va_P D vwCl (mB h fs a24 a25 a26 cy f24 ff f26 ++ (wt ++ blk cy [(9, 0), (10, 0), (11, 0), (12, 0), (13, 0)] g i)) H → va_D A (mB h fs a24 a25 a26 cy f24 ff f26 ++ (wt ++ blk cy [(9, 0), (10, 0), (11, 0), (12, 0), (13, 0)] g i)) → va_S A s.heap H locs → lv_has ls 2 [(0, .ref h), (1, .int (nI i))] → W p l e R s m args below meth c H locs (c0 + 5 * i) (s0 + 134 * i) Qf (F0 m 120 ls []) := by
  have hd : ∀ pc q, gd 173 C_X7_init pc = some q → decode S_X7_init.2.1 pc = .ok q := Mok_X7_init.1
  obtain ⟨hx, hb, hml, hr, hlocks, hown, hts, hA, hin, hNw, hK, hfr, hlo, hRc, hRs, hEx⟩ := id Cx
  have hfr3 : 2 + 1 ≤ R.frames := hfr
  have hlo3 : 40 * (2 + 1) ≤ R.locals := hlo
  intro n
  induction n with
  | zero =>
    intro i hi g ff H locs ls hff hP hD hS hl
    have ei : i = 20 := by omega
    subst ei
    refine lv_iload_n hx hb (hd 120 (.iload_n 1, 1) rfl) rfl (lv_at hl 1 rfl) ?_
    refine lv_bipush (v := nI 20) hx hb (hd 121 (.bipush 20, 2) rfl) (by decide) ?_
    refine lv_icmp_ge (tgt := 145) hx hb (hd 123 (.if_icmp .ge 22, 3) rfl) (by decide) (fun _ => ?_) (fun c1 => absurd (by rw [le_nI (by omega) (by omega)]; omega) c1)
    exact kk g ff H locs ls hff hP hD hS (lv_sub hl [0] rfl)
  | succ n ih =>
    intro i hi g ff H locs ls hff hP hD hS hl
    refine lv_iload_n hx hb (hd 120 (.iload_n 1, 1) rfl) rfl (lv_at hl 1 rfl) ?_
    refine lv_bipush (v := nI 20) hx hb (hd 121 (.bipush 20, 2) rfl) (by decide) ?_
    refine lv_icmp_ge (tgt := 145) hx hb (hd 123 (.if_icmp .ge 22, 3) rfl) (by decide) (fun c1 => by rw [le_nI (by omega) (by omega)] at c1; omega) (fun _ => ?_)
    refine lv_aload_n hx hb (hd 126 (.aload_n 0, 1) rfl) rfl (lv_at hl 0 rfl) ?_
    refine va_get (D := D) (ci := 7) (v := .ref a25) hx hb hts inX7 hown hK hP 0 rfl rfl 2 (by decide) (hts _ (tb_2 29 (by decide +kernel) (by decide +kernel))) (fun _ h9 => h9) hfs (hd 127 (.getfield 24, 3) rfl) ?_
    refine lv_iload_n hx hb (hd 130 (.iload_n 1, 1) rfl) rfl (lv_at hl 1 rfl) ?_
    refine W_make (idc := 22) (idx := 63) (K_Resident l) rfl inX3 tyX3_ok (fun j hj => by rcases (by omega : j = 0 ∨ j = 1 ∨ j = 2 ∨ j = 3 ∨ j = 4 ∨ j = 5 ∨ j = 6 ∨ j = 7 ∨ j = 8 ∨ j = 9 ∨ j = 10 ∨ j = 11 ∨ j = 12 ∨ j = 13) with rfl | rfl | rfl | rfl | rfl | rfl | rfl | rfl | rfl | rfl | rfl | rfl | rfl | rfl <;> rfl) (tb_1 94 (by decide +kernel) (by decide +kernel)) (tb_1 166 (by decide +kernel) (by decide +kernel)) hx hb hml hown hts hK hNw hA (tb_1 169 (by decide +kernel) (by decide +kernel)) (tb_1 7 (by decide +kernel) (by decide +kernel)) (tb_1 168 (by decide +kernel) (by decide +kernel)) rfl (by decide +kernel) (by decide) (Or.inl (hts _ (tb_1 167 (by decide +kernel) (by decide +kernel)))) hfr3 hlo3 (by rw [hRc]; omega) (by rw [hRs]; omega) (hd 131 (.new 22, 3) rfl) (hd 134 (.dup, 1) rfl) (hd 135 (.invokespecial 63, 3) rfl) hl.1 (Nat.le_of_ble_eq_true rfl) hP hD hS (fun ρ1 H locs hP hD hS => ?_)
    have hv : ((mB h fs a24 a25 a26 cy f24 ff f26 ++ (wt ++ blk cy [(9, 0), (10, 0), (11, 0), (12, 0), (13, 0)] g i)) ++ wl kS cy ρ1 [(9, 0), (10, 0), (11, 0), (12, 0), (13, 0)] mem0X)[(mB h fs a24 a25 a26 cy f24 ff f26 ++ (wt ++ blk cy [(9, 0), (10, 0), (11, 0), (12, 0), (13, 0)] g i)).length]? = some (ρ1 9 0, ent kS cy ρ1 mem0X 9 0) := by
      rw [List.getElem?_append_right (Nat.le_refl _), Nat.sub_self]
      rfl
    refine va_astq (ci := 3) (r := (RX3, TX3, 14)) hx hb hK hP hD hS 2 4 _ rfl rfl hv rfl (by rw [vp_nI (by omega)]; omega) (hd 138 (.aastore, 1) rfl) (fun H locs hP hD hS => ?_)
    rw [nI_clamp (by omega)] at hP hD
    have eb : wt ++ blk cy [(9, 0), (10, 0), (11, 0), (12, 0), (13, 0)] (fun j => if j = i then ρ1 else g j) (i + 1) = (wt ++ blk cy [(9, 0), (10, 0), (11, 0), (12, 0), (13, 0)] g i) ++ wl kS cy ρ1 [(9, 0), (10, 0), (11, 0), (12, 0), (13, 0)] mem0X := by
      rw [blk, if_pos rfl, blk_c (g' := g) (fun j hj => if_neg (by omega)), List.append_assoc]
    have hP : va_P D vwCl (mB h fs a24 a25 a26 cy f24 (va_up ff i (some (ρ1 9 0))) f26 ++ ((wt ++ blk cy [(9, 0), (10, 0), (11, 0), (12, 0), (13, 0)] g i) ++ wl kS cy ρ1 [(9, 0), (10, 0), (11, 0), (12, 0), (13, 0)] mem0X)) H := hP
    have hD : va_D A (mB h fs a24 a25 a26 cy f24 (va_up ff i (some (ρ1 9 0))) f26 ++ ((wt ++ blk cy [(9, 0), (10, 0), (11, 0), (12, 0), (13, 0)] g i) ++ wl kS cy ρ1 [(9, 0), (10, 0), (11, 0), (12, 0), (13, 0)] mem0X)) := hD
    rw [← eb] at hP hD
    refine lv_iinc (v := nI (i + 1)) (lv' := [(1, .int (nI (i + 1))), (0, .ref h)]) hx hb (hd 139 (.iinc 1 1, 3) rfl) hl (k := 1) rfl (nI_1 i) (by decide) rfl (fun ls hl => ?_)
    refine lv_goto (tgt := 120) hx hb (hd 142 (.goto (-22), 3) rfl) (by decide) ?_
    refine W.widen (k := c0 + 5 * (i + 1)) (n := s0 + 134 * (i + 1)) (by omega) (by omega) ?_
    refine ih (i + 1) (by omega) _ _ H locs ls (fun j hj => ?_) hP hD hS (lv_sub hl [1, 0] rfl)
    by_cases ej : j = i
    · rw [ej, va_up, if_pos rfl, if_pos rfl]
    · rw [va_up, if_neg ej, if_neg ej]
      exact hff j (by omega)
set_option maxHeartbeats 4000000 in
set_option maxRecDepth 20000 in
theorem L_gath {p : Program} {l : Launch} {e : Env} {R : Room} {s : State} {m : MethodId} {args : Array Value} {below : List Frame} {meth : Method} {c : Code} {Qf : State → Prop} {D : va_G} {cy : Nat → ClassId} {A : Nat → Prop} (Cx : CxN true S_X7_init 3 146 6082 p R s m args meth c D cy A) {h a24 a25 a26 c0 s0 : Nat} {fs : List Value} {f24 f25 : Nat → Option Nat} {wt : va_W} (hfs : fs[3]? = some (.ref a26)) (hc0 : c0 + 10 ≤ 146) (hs0 : s0 + 80 ≤ 6082)
    (kk : ∀ (g : Nat → Nat → Nat → Nat) (ff : Nat → Option Nat) (H : Heap) (locs : List Loc) (ls : Array Slot), (∀ j, j < 10 → ff j = some (g j 14 0)) → va_P D vwCl (mB h fs a24 a25 a26 cy f24 f25 ff ++ (wt ++ blk cy [(14, 0)] g 10)) H → va_D A (mB h fs a24 a25 a26 cy f24 f25 ff ++ (wt ++ blk cy [(14, 0)] g 10)) → va_S A s.heap H locs → lv_has ls 2 [(0, .ref h)] → W p l e R s m args below meth c H locs (c0 + 10) (s0 + 80) Qf (F0 m 172 ls [])) :
    ∀ (n i : Nat), n + i = 10 → ∀ (g : Nat → Nat → Nat → Nat) (ff : Nat → Option Nat) (H : Heap) (locs : List Loc) (ls : Array Slot), (∀ j, j < i → ff j = some (g j 14 0)) → va_P D vwCl (mB h fs a24 a25 a26 cy f24 f25 ff ++ (wt ++ blk cy [(14, 0)] g i)) H → va_D A (mB h fs a24 a25 a26 cy f24 f25 ff ++ (wt ++ blk cy [(14, 0)] g i)) → va_S A s.heap H locs → lv_has ls 2 [(0, .ref h), (1, .int (nI i))] → W p l e R s m args below meth c H locs (c0 + 1 * i) (s0 + 8 * i) Qf (F0 m 147 ls []) := by
  have hd : ∀ pc q, gd 173 C_X7_init pc = some q → decode S_X7_init.2.1 pc = .ok q := Mok_X7_init.1
  obtain ⟨hx, hb, hml, hr, hlocks, hown, hts, hA, hin, hNw, hK, hfr, hlo, hRc, hRs, hEx⟩ := id Cx
  have hfr3 : 2 + 1 ≤ R.frames := hfr
  have hlo3 : 40 * (2 + 1) ≤ R.locals := hlo
  intro n
  induction n with
  | zero =>
    intro i hi g ff H locs ls hff hP hD hS hl
    have ei : i = 10 := by omega
    subst ei
    refine lv_iload_n hx hb (hd 147 (.iload_n 1, 1) rfl) rfl (lv_at hl 1 rfl) ?_
    refine lv_bipush (v := nI 10) hx hb (hd 148 (.bipush 10, 2) rfl) (by decide) ?_
    refine lv_icmp_ge (tgt := 172) hx hb (hd 150 (.if_icmp .ge 22, 3) rfl) (by decide) (fun _ => ?_) (fun c1 => absurd (by rw [le_nI (by omega) (by omega)]; omega) c1)
    exact kk g ff H locs ls hff hP hD hS (lv_sub hl [0] rfl)
  | succ n ih =>
    intro i hi g ff H locs ls hff hP hD hS hl
    refine lv_iload_n hx hb (hd 147 (.iload_n 1, 1) rfl) rfl (lv_at hl 1 rfl) ?_
    refine lv_bipush (v := nI 10) hx hb (hd 148 (.bipush 10, 2) rfl) (by decide) ?_
    refine lv_icmp_ge (tgt := 172) hx hb (hd 150 (.if_icmp .ge 22, 3) rfl) (by decide) (fun c1 => by rw [le_nI (by omega) (by omega)] at c1; omega) (fun _ => ?_)
    refine lv_aload_n hx hb (hd 153 (.aload_n 0, 1) rfl) rfl (lv_at hl 0 rfl) ?_
    refine va_get (D := D) (ci := 7) (v := .ref a26) hx hb hts inX7 hown hK hP 0 rfl rfl 3 (by decide) (hts _ (tb_2 30 (by decide +kernel) (by decide +kernel))) (fun _ h9 => h9) hfs (hd 154 (.getfield 30, 3) rfl) ?_
    refine lv_iload_n hx hb (hd 157 (.iload_n 1, 1) rfl) rfl (lv_at hl 1 rfl) ?_
    refine W_make (idc := 28) (idx := 64) (K_Gathering l) rfl inX1 tyX1_ok (fun j hj => by rcases (by omega : j = 0 ∨ j = 1 ∨ j = 2 ∨ j = 3 ∨ j = 4 ∨ j = 5 ∨ j = 6 ∨ j = 7) with rfl | rfl | rfl | rfl | rfl | rfl | rfl | rfl <;> rfl) (tb_1 96 (by decide +kernel) (by decide +kernel)) (tb_1 233 (by decide +kernel) (by decide +kernel)) hx hb hml hown hts hK hNw hA (tb_1 236 (by decide +kernel) (by decide +kernel)) (tb_1 9 (by decide +kernel) (by decide +kernel)) (tb_1 235 (by decide +kernel) (by decide +kernel)) rfl (by decide +kernel) (by decide) (Or.inr ⟨"TownFolk", List.mem_of_getElem? (i := 5) (by decide +kernel)⟩) hfr3 hlo3 (by rw [hRc]; omega) (by rw [hRs]; omega) (hd 158 (.new 28, 3) rfl) (hd 161 (.dup, 1) rfl) (hd 162 (.invokespecial 64, 3) rfl) hl.1 (Nat.le_of_ble_eq_true rfl) hP hD hS (fun ρ1 H locs hP hD hS => ?_)
    have hv : ((mB h fs a24 a25 a26 cy f24 f25 ff ++ (wt ++ blk cy [(14, 0)] g i)) ++ wl kS cy ρ1 [(14, 0)] mem0X)[(mB h fs a24 a25 a26 cy f24 f25 ff ++ (wt ++ blk cy [(14, 0)] g i)).length]? = some (ρ1 14 0, ent kS cy ρ1 mem0X 14 0) := by
      rw [List.getElem?_append_right (Nat.le_refl _), Nat.sub_self]
      rfl
    refine va_astq (ci := 1) (r := (RX1, TX1, 8)) hx hb hK hP hD hS 3 5 _ rfl rfl hv rfl (by rw [vp_nI (by omega)]; omega) (hd 165 (.aastore, 1) rfl) (fun H locs hP hD hS => ?_)
    rw [nI_clamp (by omega)] at hP hD
    have eb : wt ++ blk cy [(14, 0)] (fun j => if j = i then ρ1 else g j) (i + 1) = (wt ++ blk cy [(14, 0)] g i) ++ wl kS cy ρ1 [(14, 0)] mem0X := by
      rw [blk, if_pos rfl, blk_c (g' := g) (fun j hj => if_neg (by omega)), List.append_assoc]
    have hP : va_P D vwCl (mB h fs a24 a25 a26 cy f24 f25 (va_up ff i (some (ρ1 14 0))) ++ ((wt ++ blk cy [(14, 0)] g i) ++ wl kS cy ρ1 [(14, 0)] mem0X)) H := hP
    have hD : va_D A (mB h fs a24 a25 a26 cy f24 f25 (va_up ff i (some (ρ1 14 0))) ++ ((wt ++ blk cy [(14, 0)] g i) ++ wl kS cy ρ1 [(14, 0)] mem0X)) := hD
    rw [← eb] at hP hD
    refine lv_iinc (v := nI (i + 1)) (lv' := [(1, .int (nI (i + 1))), (0, .ref h)]) hx hb (hd 166 (.iinc 1 1, 3) rfl) hl (k := 1) rfl (nI_1 i) (by decide) rfl (fun ls hl => ?_)
    refine lv_goto (tgt := 147) hx hb (hd 169 (.goto (-22), 3) rfl) (by decide) ?_
    refine W.widen (k := c0 + 1 * (i + 1)) (n := s0 + 8 * (i + 1)) (by omega) (by omega) ?_
    refine ih (i + 1) (by omega) _ _ H locs ls (fun j hj => ?_) hP hD hS (lv_sub hl [1, 0] rfl)
    by_cases ej : j = i
    · rw [ej, va_up, if_pos rfl, if_pos rfl]
    · rw [va_up, if_neg ej, if_neg ej]
      exact hff j (by omega)
