set_option maxHeartbeats 4000000 in
set_option maxRecDepth 20000 in
theorem K_Town (l : Launch) : Ctor l mem0X false S_X6_init 2 5 324 6 1 [.null, .null, .null, .null, .null, .int 0, .int 0] [(1, 0), (2, 0), (3, 0), (4, 0), (5, 0), (6, 0)] := by
  refine Ctor_of (by decide) (by decide) rfl ?_
  intro p e s m args below meth c D cy h A ls Cx hl hP hD
  have hd : ∀ pc q, gd 47 C_X6_init pc = some q → decode S_X6_init.2.1 pc = .ok q := Mok_X6_init.1
  obtain ⟨hx, hb, hml, hr, hlocks, hown, hts, hA, hin, hNw, hK, hfr, hlo, hRc, hRs, hEx⟩ := id Cx
  have hS : va_S A s.heap s.heap [] := va_S.rf
  refine N_obj (idx := 3) Cx (by decide) (lv_at hl 0 rfl) hl.1 (tb_1 64 (by decide +kernel) (by decide +kernel)) (tb_1 57 (by decide +kernel) (by decide +kernel)) (tb_1 58 (by decide +kernel) (by decide +kernel)) (hd 0 (.aload_n 0, 1) rfl) (hd 1 (.invokespecial 3, 3) rfl) ?_
  refine N_fld (at_ := .int) (t := 0) (n := 12) (pc2 := 7) (idx := 9) (j := 0) (a0 := (12, .inl (fun _ => 0))) Cx rfl inX6 tyX6_ok nmX6 (by simp) (lv_at hl 0 rfl) (by decide) (tb_1 65 (by decide +kernel) (by decide +kernel)) rfl rfl (fun _ => rfl) (fun _ => rfl) (fun _ => rfl) rfl (by decide) (tb_1 91 (by decide +kernel) (by decide +kernel)) (by decide) (Nat.le_of_ble_eq_true rfl) (fun rest k => lv_bipush (v := nI 12) hx hb (hd 5 (.bipush 12, 2) rfl) (by decide) k) (hd 4 (.aload_n 0, 1) rfl) (hd 7 (.newarray .int, 2) rfl) (hd 9 (.putfield 9, 3) rfl) (Nat.le_of_ble_eq_true rfl) (Nat.le_of_ble_eq_true rfl) hP hD hS (fun q1 H locs hP hD hS => ?_)
  refine N_fld (at_ := .int) (t := 0) (n := 12) (pc2 := 15) (idx := 15) (j := 1) (a0 := (12, .inl (fun _ => 0))) Cx rfl inX6 tyX6_ok nmX6 (by simp) (lv_at hl 0 rfl) (by decide) (tb_1 67 (by decide +kernel) (by decide +kernel)) rfl rfl (fun _ => rfl) (fun _ => rfl) (fun _ => rfl) rfl (by decide) (tb_1 91 (by decide +kernel) (by decide +kernel)) (by decide) (Nat.le_of_ble_eq_true rfl) (fun rest k => lv_bipush (v := nI 12) hx hb (hd 13 (.bipush 12, 2) rfl) (by decide) k) (hd 12 (.aload_n 0, 1) rfl) (hd 15 (.newarray .int, 2) rfl) (hd 17 (.putfield 15, 3) rfl) (Nat.le_of_ble_eq_true rfl) (Nat.le_of_ble_eq_true rfl) hP hD hS (fun q2 H locs hP hD hS => ?_)
  refine N_fld (at_ := .int) (t := 0) (n := 12) (pc2 := 23) (idx := 18) (j := 2) (a0 := (12, .inl (fun _ => 0))) Cx rfl inX6 tyX6_ok nmX6 (by simp) (lv_at hl 0 rfl) (by decide) (tb_1 68 (by decide +kernel) (by decide +kernel)) rfl rfl (fun _ => rfl) (fun _ => rfl) (fun _ => rfl) rfl (by decide) (tb_1 91 (by decide +kernel) (by decide +kernel)) (by decide) (Nat.le_of_ble_eq_true rfl) (fun rest k => lv_bipush (v := nI 12) hx hb (hd 21 (.bipush 12, 2) rfl) (by decide) k) (hd 20 (.aload_n 0, 1) rfl) (hd 23 (.newarray .int, 2) rfl) (hd 25 (.putfield 18, 3) rfl) (Nat.le_of_ble_eq_true rfl) (Nat.le_of_ble_eq_true rfl) hP hD hS (fun q3 H locs hP hD hS => ?_)
  refine N_fld (at_ := .int) (t := 0) (n := 144) (pc2 := 32) (idx := 21) (j := 3) (a0 := (144, .inl (fun _ => 0))) Cx rfl inX6 tyX6_ok nmX6 (by simp) (lv_at hl 0 rfl) (by decide) (tb_1 69 (by decide +kernel) (by decide +kernel)) rfl rfl (fun _ => rfl) (fun _ => rfl) (fun _ => rfl) rfl (by decide) (tb_1 91 (by decide +kernel) (by decide +kernel)) (by decide) (Nat.le_of_ble_eq_true rfl) (fun rest k => lv_sipush (v := nI 144) hx hb (hd 29 (.sipush 144, 3) rfl) (by decide) k) (hd 28 (.aload_n 0, 1) rfl) (hd 32 (.newarray .int, 2) rfl) (hd 34 (.putfield 21, 3) rfl) (Nat.le_of_ble_eq_true rfl) (Nat.le_of_ble_eq_true rfl) hP hD hS (fun q4 H locs hP hD hS => ?_)
  refine N_fld (at_ := .int) (t := 0) (n := 144) (pc2 := 41) (idx := 24) (j := 4) (a0 := (144, .inl (fun _ => 0))) Cx rfl inX6 tyX6_ok nmX6 (by simp) (lv_at hl 0 rfl) (by decide) (tb_1 70 (by decide +kernel) (by decide +kernel)) rfl rfl (fun _ => rfl) (fun _ => rfl) (fun _ => rfl) rfl (by decide) (tb_1 91 (by decide +kernel) (by decide +kernel)) (by decide) (Nat.le_of_ble_eq_true rfl) (fun rest k => lv_sipush (v := nI 144) hx hb (hd 38 (.sipush 144, 3) rfl) (by decide) k) (hd 37 (.aload_n 0, 1) rfl) (hd 41 (.newarray .int, 2) rfl) (hd 43 (.putfield 24, 3) rfl) (Nat.le_of_ble_eq_true rfl) (Nat.le_of_ble_eq_true rfl) hP hD hS (fun q5 H locs hP hD hS => ?_)
  have hP : va_P D vwCl [(h, .inr (6, [.ref q1, .ref q2, .ref q3, .ref q4, .ref q5, .int 0, .int 0])), (q1, .inl (cy 0, 12, .inl (fun _ => 0))), (q2, .inl (cy 0, 12, .inl (fun _ => 0))), (q3, .inl (cy 0, 12, .inl (fun _ => 0))), (q4, .inl (cy 0, 144, .inl (fun _ => 0))), (q5, .inl (cy 0, 144, .inl (fun _ => 0)))] _ := hP
  have hD : va_D A [(h, .inr (6, [.ref q1, .ref q2, .ref q3, .ref q4, .ref q5, .int 0, .int 0])), (q1, .inl (cy 0, 12, .inl (fun _ => 0))), (q2, .inl (cy 0, 12, .inl (fun _ => 0))), (q3, .inl (cy 0, 12, .inl (fun _ => 0))), (q4, .inl (cy 0, 144, .inl (fun _ => 0))), (q5, .inl (cy 0, 144, .inl (fun _ => 0)))] := hD
  obtain ⟨r, hr0⟩ : ∃ r : Nat → Nat, r = (fun k => bif Nat.beq k 1 then h else bif Nat.beq k 2 then q1 else bif Nat.beq k 3 then q2 else bif Nat.beq k 4 then q3 else bif Nat.beq k 5 then q4 else bif Nat.beq k 6 then q5 else 0) := ⟨_, rfl⟩
  have ew : wl kS cy (fun k _ => r k) [(1, 0), (2, 0), (3, 0), (4, 0), (5, 0), (6, 0)] mem0X = [(h, .inr (6, [.ref q1, .ref q2, .ref q3, .ref q4, .ref q5, .int 0, .int 0])), (q1, .inl (cy 0, 12, .inl (fun _ => 0))), (q2, .inl (cy 0, 12, .inl (fun _ => 0))), (q3, .inl (cy 0, 12, .inl (fun _ => 0))), (q4, .inl (cy 0, 144, .inl (fun _ => 0))), (q5, .inl (cy 0, 144, .inl (fun _ => 0)))] := by rw [hr0]; rfl
  refine W.vret hx hb hr (fun t ht hW => ⟨⟨fun k _ => r k, rfl, by rw [hr0]; rfl, by rw [ht, ew]; exact hP, by rw [ew]; exact hD⟩, hS.F ht⟩) hS.2.2 (hd 46 (.return_, 1) rfl) hlocks
set_option maxHeartbeats 4000000 in
set_option maxRecDepth 20000 in
theorem K_Seats (l : Launch) : Ctor l mem0X false S_X4_init 2 1 576 4 15 [.null] [(15, 0), (16, 0)] := by
  refine Ctor_of (by decide) (by decide) rfl ?_
  intro p e s m args below meth c D cy h A ls Cx hl hP hD
  have hd : ∀ pc q, gd 14 C_X4_init pc = some q → decode S_X4_init.2.1 pc = .ok q := Mok_X4_init.1
  obtain ⟨hx, hb, hml, hr, hlocks, hown, hts, hA, hin, hNw, hK, hfr, hlo, hRc, hRs, hEx⟩ := id Cx
  have hS : va_S A s.heap s.heap [] := va_S.rf
  refine N_obj (idx := 3) Cx (by decide) (lv_at hl 0 rfl) hl.1 (tb_1 103 (by decide +kernel) (by decide +kernel)) (tb_1 57 (by decide +kernel) (by decide +kernel)) (tb_1 58 (by decide +kernel) (by decide +kernel)) (hd 0 (.aload_n 0, 1) rfl) (hd 1 (.invokespecial 3, 3) rfl) ?_
  refine N_fld (at_ := .int) (t := 0) (n := 576) (pc2 := 8) (idx := 9) (j := 0) (a0 := (576, .inl (fun _ => 0))) Cx rfl inX4 tyX4_ok nmX4 (by simp) (lv_at hl 0 rfl) (by decide) (tb_1 104 (by decide +kernel) (by decide +kernel)) rfl rfl (fun _ => rfl) (fun _ => rfl) (fun _ => rfl) rfl (by decide) (tb_1 91 (by decide +kernel) (by decide +kernel)) (by decide) (Nat.le_of_ble_eq_true rfl) (fun rest k => lv_sipush (v := nI 576) hx hb (hd 5 (.sipush 576, 3) rfl) (by decide) k) (hd 4 (.aload_n 0, 1) rfl) (hd 8 (.newarray .int, 2) rfl) (hd 10 (.putfield 9, 3) rfl) (Nat.le_of_ble_eq_true rfl) (Nat.le_of_ble_eq_true rfl) hP hD hS (fun q1 H locs hP hD hS => ?_)
  have hP : va_P D vwCl [(h, .inr (4, [.ref q1])), (q1, .inl (cy 0, 576, .inl (fun _ => 0)))] _ := hP
  have hD : va_D A [(h, .inr (4, [.ref q1])), (q1, .inl (cy 0, 576, .inl (fun _ => 0)))] := hD
  obtain ⟨r, hr0⟩ : ∃ r : Nat → Nat, r = (fun k => bif Nat.beq k 15 then h else bif Nat.beq k 16 then q1 else 0) := ⟨_, rfl⟩
  have ew : wl kS cy (fun k _ => r k) [(15, 0), (16, 0)] mem0X = [(h, .inr (4, [.ref q1])), (q1, .inl (cy 0, 576, .inl (fun _ => 0)))] := by rw [hr0]; rfl
  refine W.vret hx hb hr (fun t ht hW => ⟨⟨fun k _ => r k, rfl, by rw [hr0]; rfl, by rw [ht, ew]; exact hP, by rw [ew]; exact hD⟩, hS.F ht⟩) hS.2.2 (hd 13 (.return_, 1) rfl) hlocks
set_option maxHeartbeats 4000000 in
set_option maxRecDepth 20000 in
theorem K_Planner (l : Launch) : Ctor l mem0X false S_X2_init 2 5 1837 2 17 [.null, .null, .null, .null, .null] [(17, 0), (18, 0), (19, 0), (20, 0), (21, 0), (22, 0)] := by
  refine Ctor_of (by decide) (by decide) rfl ?_
  intro p e s m args below meth c D cy h A ls Cx hl hP hD
  have hd : ∀ pc q, gd 48 C_X2_init pc = some q → decode S_X2_init.2.1 pc = .ok q := Mok_X2_init.1
  obtain ⟨hx, hb, hml, hr, hlocks, hown, hts, hA, hin, hNw, hK, hfr, hlo, hRc, hRs, hEx⟩ := id Cx
  have hS : va_S A s.heap s.heap [] := va_S.rf
  refine N_obj (idx := 3) Cx (by decide) (lv_at hl 0 rfl) hl.1 (tb_1 113 (by decide +kernel) (by decide +kernel)) (tb_1 57 (by decide +kernel) (by decide +kernel)) (tb_1 58 (by decide +kernel) (by decide +kernel)) (hd 0 (.aload_n 0, 1) rfl) (hd 1 (.invokespecial 3, 3) rfl) ?_
  refine N_fld (at_ := .int) (t := 0) (n := 48) (pc2 := 7) (idx := 9) (j := 0) (a0 := (48, .inl (fun _ => 0))) Cx rfl inX2 tyX2_ok nmX2 (by simp) (lv_at hl 0 rfl) (by decide) (tb_1 114 (by decide +kernel) (by decide +kernel)) rfl rfl (fun _ => rfl) (fun _ => rfl) (fun _ => rfl) rfl (by decide) (tb_1 91 (by decide +kernel) (by decide +kernel)) (by decide) (Nat.le_of_ble_eq_true rfl) (fun rest k => lv_bipush (v := nI 48) hx hb (hd 5 (.bipush 48, 2) rfl) (by decide) k) (hd 4 (.aload_n 0, 1) rfl) (hd 7 (.newarray .int, 2) rfl) (hd 9 (.putfield 9, 3) rfl) (Nat.le_of_ble_eq_true rfl) (Nat.le_of_ble_eq_true rfl) hP hD hS (fun q1 H locs hP hD hS => ?_)
  refine N_fld (at_ := .int) (t := 0) (n := 576) (pc2 := 16) (idx := 15) (j := 1) (a0 := (576, .inl (fun _ => 0))) Cx rfl inX2 tyX2_ok nmX2 (by simp) (lv_at hl 0 rfl) (by decide) (tb_1 115 (by decide +kernel) (by decide +kernel)) rfl rfl (fun _ => rfl) (fun _ => rfl) (fun _ => rfl) rfl (by decide) (tb_1 91 (by decide +kernel) (by decide +kernel)) (by decide) (Nat.le_of_ble_eq_true rfl) (fun rest k => lv_sipush (v := nI 576) hx hb (hd 13 (.sipush 576, 3) rfl) (by decide) k) (hd 12 (.aload_n 0, 1) rfl) (hd 16 (.newarray .int, 2) rfl) (hd 18 (.putfield 15, 3) rfl) (Nat.le_of_ble_eq_true rfl) (Nat.le_of_ble_eq_true rfl) hP hD hS (fun q2 H locs hP hD hS => ?_)
  refine N_fld (at_ := .int) (t := 0) (n := 49) (pc2 := 24) (idx := 18) (j := 2) (a0 := (49, .inl (fun _ => 0))) Cx rfl inX2 tyX2_ok nmX2 (by simp) (lv_at hl 0 rfl) (by decide) (tb_1 116 (by decide +kernel) (by decide +kernel)) rfl rfl (fun _ => rfl) (fun _ => rfl) (fun _ => rfl) rfl (by decide) (tb_1 91 (by decide +kernel) (by decide +kernel)) (by decide) (Nat.le_of_ble_eq_true rfl) (fun rest k => lv_bipush (v := nI 49) hx hb (hd 22 (.bipush 49, 2) rfl) (by decide) k) (hd 21 (.aload_n 0, 1) rfl) (hd 24 (.newarray .int, 2) rfl) (hd 26 (.putfield 18, 3) rfl) (Nat.le_of_ble_eq_true rfl) (Nat.le_of_ble_eq_true rfl) hP hD hS (fun q3 H locs hP hD hS => ?_)
  refine N_fld (at_ := .int) (t := 0) (n := 588) (pc2 := 33) (idx := 21) (j := 3) (a0 := (588, .inl (fun _ => 0))) Cx rfl inX2 tyX2_ok nmX2 (by simp) (lv_at hl 0 rfl) (by decide) (tb_1 117 (by decide +kernel) (by decide +kernel)) rfl rfl (fun _ => rfl) (fun _ => rfl) (fun _ => rfl) rfl (by decide) (tb_1 91 (by decide +kernel) (by decide +kernel)) (by decide) (Nat.le_of_ble_eq_true rfl) (fun rest k => lv_sipush (v := nI 588) hx hb (hd 30 (.sipush 588, 3) rfl) (by decide) k) (hd 29 (.aload_n 0, 1) rfl) (hd 33 (.newarray .int, 2) rfl) (hd 35 (.putfield 21, 3) rfl) (Nat.le_of_ble_eq_true rfl) (Nat.le_of_ble_eq_true rfl) hP hD hS (fun q4 H locs hP hD hS => ?_)
  refine N_fld (at_ := .int) (t := 0) (n := 576) (pc2 := 42) (idx := 24) (j := 4) (a0 := (576, .inl (fun _ => 0))) Cx rfl inX2 tyX2_ok nmX2 (by simp) (lv_at hl 0 rfl) (by decide) (tb_1 118 (by decide +kernel) (by decide +kernel)) rfl rfl (fun _ => rfl) (fun _ => rfl) (fun _ => rfl) rfl (by decide) (tb_1 91 (by decide +kernel) (by decide +kernel)) (by decide) (Nat.le_of_ble_eq_true rfl) (fun rest k => lv_sipush (v := nI 576) hx hb (hd 39 (.sipush 576, 3) rfl) (by decide) k) (hd 38 (.aload_n 0, 1) rfl) (hd 42 (.newarray .int, 2) rfl) (hd 44 (.putfield 24, 3) rfl) (Nat.le_of_ble_eq_true rfl) (Nat.le_of_ble_eq_true rfl) hP hD hS (fun q5 H locs hP hD hS => ?_)
  have hP : va_P D vwCl [(h, .inr (2, [.ref q1, .ref q2, .ref q3, .ref q4, .ref q5])), (q1, .inl (cy 0, 48, .inl (fun _ => 0))), (q2, .inl (cy 0, 576, .inl (fun _ => 0))), (q3, .inl (cy 0, 49, .inl (fun _ => 0))), (q4, .inl (cy 0, 588, .inl (fun _ => 0))), (q5, .inl (cy 0, 576, .inl (fun _ => 0)))] _ := hP
  have hD : va_D A [(h, .inr (2, [.ref q1, .ref q2, .ref q3, .ref q4, .ref q5])), (q1, .inl (cy 0, 48, .inl (fun _ => 0))), (q2, .inl (cy 0, 576, .inl (fun _ => 0))), (q3, .inl (cy 0, 49, .inl (fun _ => 0))), (q4, .inl (cy 0, 588, .inl (fun _ => 0))), (q5, .inl (cy 0, 576, .inl (fun _ => 0)))] := hD
  obtain ⟨r, hr0⟩ : ∃ r : Nat → Nat, r = (fun k => bif Nat.beq k 17 then h else bif Nat.beq k 18 then q1 else bif Nat.beq k 19 then q2 else bif Nat.beq k 20 then q3 else bif Nat.beq k 21 then q4 else bif Nat.beq k 22 then q5 else 0) := ⟨_, rfl⟩
  have ew : wl kS cy (fun k _ => r k) [(17, 0), (18, 0), (19, 0), (20, 0), (21, 0), (22, 0)] mem0X = [(h, .inr (2, [.ref q1, .ref q2, .ref q3, .ref q4, .ref q5])), (q1, .inl (cy 0, 48, .inl (fun _ => 0))), (q2, .inl (cy 0, 576, .inl (fun _ => 0))), (q3, .inl (cy 0, 49, .inl (fun _ => 0))), (q4, .inl (cy 0, 588, .inl (fun _ => 0))), (q5, .inl (cy 0, 576, .inl (fun _ => 0)))] := by rw [hr0]; rfl
  refine W.vret hx hb hr (fun t ht hW => ⟨⟨fun k _ => r k, rfl, by rw [hr0]; rfl, by rw [ht, ew]; exact hP, by rw [ew]; exact hD⟩, hS.F ht⟩) hS.2.2 (hd 47 (.return_, 1) rfl) hlocks
set_option maxHeartbeats 4000000 in
set_option maxRecDepth 20000 in
theorem K_Gathering (l : Launch) : Ctor l mem0X false S_X1_init 2 0 0 1 14 [.int 0, .int 0, .int 0, .int 0, .int 0, .int 0, .int 0, .int 0] [(14, 0)] := by
  refine Ctor_of (by decide) (by decide) rfl ?_
  intro p e s m args below meth c D cy h A ls Cx hl hP hD
  have hd : ∀ pc q, gd 5 C_X1_init pc = some q → decode S_X1_init.2.1 pc = .ok q := Mok_X1_init.1
  obtain ⟨hx, hb, hml, hr, hlocks, hown, hts, hA, hin, hNw, hK, hfr, hlo, hRc, hRs, hEx⟩ := id Cx
  have hS : va_S A s.heap s.heap [] := va_S.rf
  refine N_obj (idx := 1) Cx (by decide) (lv_at hl 0 rfl) hl.1 (tb_1 237 (by decide +kernel) (by decide +kernel)) (tb_1 57 (by decide +kernel) (by decide +kernel)) (tb_1 58 (by decide +kernel) (by decide +kernel)) (hd 0 (.aload_n 0, 1) rfl) (hd 1 (.invokespecial 1, 3) rfl) ?_
  have hP : va_P D vwCl [(h, .inr (1, [.int 0, .int 0, .int 0, .int 0, .int 0, .int 0, .int 0, .int 0]))] _ := hP
  have hD : va_D A [(h, .inr (1, [.int 0, .int 0, .int 0, .int 0, .int 0, .int 0, .int 0, .int 0]))] := hD
  obtain ⟨r, hr0⟩ : ∃ r : Nat → Nat, r = (fun k => bif Nat.beq k 14 then h else 0) := ⟨_, rfl⟩
  have ew : wl kS cy (fun k _ => r k) [(14, 0)] mem0X = [(h, .inr (1, [.int 0, .int 0, .int 0, .int 0, .int 0, .int 0, .int 0, .int 0]))] := by rw [hr0]; rfl
  refine W.vret hx hb hr (fun t ht hW => ⟨⟨fun k _ => r k, rfl, by rw [hr0]; rfl, by rw [ht, ew]; exact hP, by rw [ew]; exact hD⟩, hS.F ht⟩) hS.2.2 (hd 4 (.return_, 1) rfl) hlocks
set_option maxHeartbeats 4000000 in
set_option maxRecDepth 20000 in
theorem K_Shelf (l : Launch) : Ctor l mem0X false S_X5_init 2 1 60 5 7 [.null, .int 0, .int 0, .int 0] [(7, 0), (8, 0)] := by
  refine Ctor_of (by decide) (by decide) rfl ?_
  intro p e s m args below meth c D cy h A ls Cx hl hP hD
  have hd : ∀ pc q, gd 23 C_X5_init pc = some q → decode S_X5_init.2.1 pc = .ok q := Mok_X5_init.1
  obtain ⟨hx, hb, hml, hr, hlocks, hown, hts, hA, hin, hNw, hK, hfr, hlo, hRc, hRs, hEx⟩ := id Cx
  have hS : va_S A s.heap s.heap [] := va_S.rf
  refine N_obj (idx := 3) Cx (by decide) (lv_at hl 0 rfl) hl.1 (tb_1 148 (by decide +kernel) (by decide +kernel)) (tb_1 57 (by decide +kernel) (by decide +kernel)) (tb_1 58 (by decide +kernel) (by decide +kernel)) (hd 0 (.aload_n 0, 1) rfl) (hd 1 (.invokespecial 3, 3) rfl) ?_
  refine N_fld (at_ := .long) (t := 1) (n := 60) (pc2 := 7) (idx := 9) (j := 0) (a0 := (60, .inr (.inl (fun _ => 0)))) Cx rfl inX5 tyX5_ok nmX5 (by simp) (lv_at hl 0 rfl) (by decide) (tb_1 149 (by decide +kernel) (by decide +kernel)) rfl rfl (fun _ => rfl) (fun _ => rfl) (fun _ => rfl) rfl (by decide) (tb_1 165 (by decide +kernel) (by decide +kernel)) (by decide) (Nat.le_of_ble_eq_true rfl) (fun rest k => lv_bipush (v := nI 60) hx hb (hd 5 (.bipush 60, 2) rfl) (by decide) k) (hd 4 (.aload_n 0, 1) rfl) (hd 7 (.newarray .long, 2) rfl) (hd 9 (.putfield 9, 3) rfl) (Nat.le_of_ble_eq_true rfl) (Nat.le_of_ble_eq_true rfl) hP hD hS (fun q1 H locs hP hD hS => ?_)
  refine N_m1 (idx := 15) (j := 1) Cx rfl inX5 tyX5_ok nmX5 (by simp) (lv_at hl 0 rfl) (by decide) (tb_1 150 (by decide +kernel) (by decide +kernel)) rfl rfl (hd 12 (.aload_n 0, 1) rfl) (hd 13 (.iconst (-1), 1) rfl) (hd 14 (.putfield 15, 3) rfl) hP hD hS (fun H locs hP hD hS => ?_)
  refine N_m1 (idx := 19) (j := 2) Cx rfl inX5 tyX5_ok nmX5 (by simp) (lv_at hl 0 rfl) (by decide) (tb_1 151 (by decide +kernel) (by decide +kernel)) rfl rfl (hd 17 (.aload_n 0, 1) rfl) (hd 18 (.iconst (-1), 1) rfl) (hd 19 (.putfield 19, 3) rfl) hP hD hS (fun H locs hP hD hS => ?_)
  have hP : va_P D vwCl [(h, .inr (5, [.ref q1, .int (-1), .int (-1), .int 0])), (q1, .inl (cy 1, 60, .inr (.inl (fun _ => 0))))] _ := hP
  have hD : va_D A [(h, .inr (5, [.ref q1, .int (-1), .int (-1), .int 0])), (q1, .inl (cy 1, 60, .inr (.inl (fun _ => 0))))] := hD
  obtain ⟨r, hr0⟩ : ∃ r : Nat → Nat, r = (fun k => bif Nat.beq k 7 then h else bif Nat.beq k 8 then q1 else 0) := ⟨_, rfl⟩
  have ew : wl kS cy (fun k _ => r k) [(7, 0), (8, 0)] mem0X = [(h, .inr (5, [.ref q1, .int (-1), .int (-1), .int 0])), (q1, .inl (cy 1, 60, .inr (.inl (fun _ => 0))))] := by rw [hr0]; rfl
  refine W.vret hx hb hr (fun t ht hW => ⟨⟨fun k _ => r k, rfl, by rw [hr0]; rfl, by rw [ht, ew]; exact hP, by rw [ew]; exact hD⟩, hS.F ht⟩) hS.2.2 (hd 22 (.return_, 1) rfl) hlocks
set_option maxHeartbeats 4000000 in
set_option maxRecDepth 20000 in
theorem K_DutyCheck (l : Launch) : Ctor l mem0X false S_X0_init 2 0 0 0 23 [.int 0, .int 0] [(23, 0)] := by
  refine Ctor_of (by decide) (by decide) rfl ?_
  intro p e s m args below meth c D cy h A ls Cx hl hP hD
  have hd : ∀ pc q, gd 10 C_X0_init pc = some q → decode S_X0_init.2.1 pc = .ok q := Mok_X0_init.1
  obtain ⟨hx, hb, hml, hr, hlocks, hown, hts, hA, hin, hNw, hK, hfr, hlo, hRc, hRs, hEx⟩ := id Cx
  have hS : va_S A s.heap s.heap [] := va_S.rf
  refine N_obj (idx := 3) Cx (by decide) (lv_at hl 0 rfl) hl.1 (tb_1 135 (by decide +kernel) (by decide +kernel)) (tb_1 57 (by decide +kernel) (by decide +kernel)) (tb_1 58 (by decide +kernel) (by decide +kernel)) (hd 0 (.aload_n 0, 1) rfl) (hd 1 (.invokespecial 3, 3) rfl) ?_
  refine N_m1 (idx := 9) (j := 1) Cx rfl inX0 tyX0_ok nmX0 (by simp) (lv_at hl 0 rfl) (by decide) (tb_1 138 (by decide +kernel) (by decide +kernel)) rfl rfl (hd 4 (.aload_n 0, 1) rfl) (hd 5 (.iconst (-1), 1) rfl) (hd 6 (.putfield 9, 3) rfl) hP hD hS (fun H locs hP hD hS => ?_)
  have hP : va_P D vwCl [(h, .inr (0, [.int 0, .int (-1)]))] _ := hP
  have hD : va_D A [(h, .inr (0, [.int 0, .int (-1)]))] := hD
  obtain ⟨r, hr0⟩ : ∃ r : Nat → Nat, r = (fun k => bif Nat.beq k 23 then h else 0) := ⟨_, rfl⟩
  have ew : wl kS cy (fun k _ => r k) [(23, 0)] mem0X = [(h, .inr (0, [.int 0, .int (-1)]))] := by rw [hr0]; rfl
  refine W.vret hx hb hr (fun t ht hW => ⟨⟨fun k _ => r k, rfl, by rw [hr0]; rfl, by rw [ht, ew]; exact hP, by rw [ew]; exact hD⟩, hS.F ht⟩) hS.2.2 (hd 9 (.return_, 1) rfl) hlocks
def I10 : List KI := [(10, 0)]
theorem oki_10 : OKI I10 := by
  refine ⟨by decide +kernel, ?_⟩
  intro q hq
  have h : I10.all (fun q => match kS q.1 with | .inl (_, fl) => fl.all (fun o => match o with | none => true | some rk => I10.contains (rk, q.2)) | .inr (t, n, rk) => Nat.blt t 3 || (List.range n).all (fun j => I10.contains (rk, j))) = true := by decide +kernel
  exact lc_of h hq
set_option maxRecDepth 10000 in
theorem r_fi10_0 {d : Nat} {p1 : Int32} {σ : Mem} {Q : Option AV → Mem → Prop} (h :
  J I10 M_J7_fill_53178 (d + 1) 5 [(0, ar 10 0), (1, ai p1), (2, ai 0), (3, ai 12)] [] σ Q) :
  Cal I10 (d + 1) S_J7_fill_53178 [ar 10 0, ai p1] σ Q := Cal_of (M := M_J7_fill_53178) Sok_J7_fill_53178 (by decide +kernel) rfl (wp_J oki_10 Mok_J7_fill_53178 (cuts := [(5, [0, 1, 2, 3])]) 400 0 _ [] σ h)
set_option maxRecDepth 10000 in
theorem r_fi10_5 {d : Nat} {v1 : Int32} {v2 : Int32} {v3 : Int32} {σ : Mem} {Q : Option AV → Mem → Prop} (h :
  ((v3 ≤ v2 →
  Q none σ) ∧
  (¬ v3 ≤ v2 →
  vp_in v2 12 ∧
    J I10 M_J7_fill_53178 (d + 1) 5 [(0, ar 10 0), (1, ai v1), (2, ai (v2 + 1)), (3, ai v3)] [] (wI σ 10 0 (Int32.toNatClampNeg v2) v1) Q))) :
  J I10 M_J7_fill_53178 (d + 1) 5 [(0, ar 10 0), (1, ai v1), (2, ai v2), (3, ai v3)] [] σ Q := wp_J oki_10 Mok_J7_fill_53178 (cuts := [(5, [0, 1, 2, 3])]) 400 5 _ [] σ h
set_option maxRecDepth 20000 in
theorem x_fi10 {d : Nat} {p1 : Int32} {σ : Mem} {K : Mem → Prop} (h : J I10 M_J7_fill_53178 (d + 1) 5 [(0, ar 10 0), (1, ai p1), (2, ai 0), (3, ai 12)] [] σ (KV K)) :
  CalV I10 (d + 1) S_J7_fill_53178 [ar 10 0, ai p1] σ K := r_fi10_0 h
set_option maxRecDepth 20000 in
theorem x_fi10_5 {d : Nat} {v1 : Int32} {v2 : Int32} {v3 : Int32} {σ : Mem} {Q : Option AV → Mem → Prop} (h : ((v3 ≤ v2 → Q none σ) ∧
  (¬ v3 ≤ v2 → vp_in v2 12 ∧ J I10 M_J7_fill_53178 (d + 1) 5 [(0, ar 10 0), (1, ai v1), (2, ai (v2 + 1)), (3, ai v3)] [] (wI σ 10 0 (Int32.toNatClampNeg v2) v1) Q))) :
  J I10 M_J7_fill_53178 (d + 1) 5 [(0, ar 10 0), (1, ai v1), (2, ai v2), (3, ai v3)] [] σ Q := r_fi10_5 ⟨fun c1 => (h.1 c1), fun c1 => ⟨(h.2 c1).1, (h.2 c1).2⟩⟩
theorem f_fi10 {d : Nat} {v : Int32} {σ : Mem} : Rv (fun K => CalV I10 (d + 1) S_J7_fill_53178 [ar 10 0, ai v] σ K) (fun s => s = sK σ 10 (fun i j => if i = 0 ∧ j < 12 then v else σ.1 10 i j)) := by
  refine Rv_map (fun K => x_fi10) (Rv_KV ?_)
  simp (disch := omega) only [lit_0, lit_1, lit_2, lit_3, lit_4, lit_5, lit_6, lit_7, lit_8, lit_9, lit_10, lit_11, lit_12, lit_17, lit_20, lit_30, lit_31, lit_32, lit_47, lit_48, lit_60, lit_99, lit_100, lit_144, lit_200, lit_240, lit_300, lit_576, lit_960, lit_1008, lit_1000000, lit_100000000, true_implies, not_true_eq_false, false_implies, not_false_eq_true, true_and, and_true, neg_1, nI_add, pk_mul, nI_clamp, le_nI, lt_nI, eq_nI, vp_nI, nI_NN, NN_nI, NN_lt, NN_le, lt_NN, le_NN]
  refine loopU (C := fun i s Q => J I10 M_J7_fill_53178 (d + 1) 5 [(0, ar 10 0), (1, ai v), (2, ai (nI i)), (3, ai (nI 12))] [] s Q) (Inv := fun n s => s = sK σ 10 (fun i j => if i = 0 ∧ j < n then v else σ.1 10 i j)) (n := 12) ?_ ?_ (by omega) ?_
  · rintro i _ hi rfl ih
    refine Rn_map (fun Q => x_fi10_5) ?_
    simp (disch := omega) only [lit_0, lit_1, lit_2, lit_3, lit_4, lit_5, lit_6, lit_7, lit_8, lit_9, lit_10, lit_11, lit_12, lit_17, lit_20, lit_30, lit_31, lit_32, lit_47, lit_48, lit_60, lit_99, lit_100, lit_144, lit_200, lit_240, lit_300, lit_576, lit_960, lit_1008, lit_1000000, lit_100000000, true_implies, not_true_eq_false, false_implies, not_false_eq_true, true_and, and_true, neg_1, nI_add, pk_mul, nI_clamp, le_nI, lt_nI, eq_nI, vp_nI, nI_NN, NN_nI, NN_lt, NN_le, lt_NN, le_NN]
    repeat' (first | refine Rn_and (by first | omega | assumption) ?_ | refine Rn_pos (by first | omega | assumption) ?_ | refine Rn_neg (by first | omega | assumption) ?_ | refine Rn_pos' (by first | omega | assumption) ?_ | refine Rn_neg' (by first | omega | assumption) ?_ | fail)
    refine ih _ (Mem_ext (fun k a b => ?_) rfl)
    simp only [wI_r, sK_r]
    grind
  · rintro _ rfl
    refine Rn_map (fun Q => x_fi10_5) ?_
    simp (disch := omega) only [lit_0, lit_1, lit_2, lit_3, lit_4, lit_5, lit_6, lit_7, lit_8, lit_9, lit_10, lit_11, lit_12, lit_17, lit_20, lit_30, lit_31, lit_32, lit_47, lit_48, lit_60, lit_99, lit_100, lit_144, lit_200, lit_240, lit_300, lit_576, lit_960, lit_1008, lit_1000000, lit_100000000, true_implies, not_true_eq_false, false_implies, not_false_eq_true, true_and, and_true, neg_1, nI_add, pk_mul, nI_clamp, le_nI, lt_nI, eq_nI, vp_nI, nI_NN, NN_nI, NN_lt, NN_le, lt_NN, le_NN]
    repeat' (first | refine Rn_and (by first | omega | assumption) ?_ | refine Rn_pos (by first | omega | assumption) ?_ | refine Rn_neg (by first | omega | assumption) ?_ | refine Rn_pos' (by first | omega | assumption) ?_ | refine Rn_neg' (by first | omega | assumption) ?_ | fail)
    exact Rn_ret ⟨rfl, rfl⟩
  · refine Mem_ext (fun k a b => ?_) rfl
    simp only [sK_r]
    grind
def I12 : List KI := [(12, 0)]
theorem oki_12 : OKI I12 := by
  refine ⟨by decide +kernel, ?_⟩
  intro q hq
  have h : I12.all (fun q => match kS q.1 with | .inl (_, fl) => fl.all (fun o => match o with | none => true | some rk => I12.contains (rk, q.2)) | .inr (t, n, rk) => Nat.blt t 3 || (List.range n).all (fun j => I12.contains (rk, j))) = true := by decide +kernel
  exact lc_of h hq
set_option maxRecDepth 10000 in
theorem r_fi12_0 {d : Nat} {p1 : Int32} {σ : Mem} {Q : Option AV → Mem → Prop} (h :
  J I12 M_J7_fill_53178 (d + 1) 5 [(0, ar 12 0), (1, ai p1), (2, ai 0), (3, ai 48)] [] σ Q) :
  Cal I12 (d + 1) S_J7_fill_53178 [ar 12 0, ai p1] σ Q := Cal_of (M := M_J7_fill_53178) Sok_J7_fill_53178 (by decide +kernel) rfl (wp_J oki_12 Mok_J7_fill_53178 (cuts := [(5, [0, 1, 2, 3])]) 400 0 _ [] σ h)
set_option maxRecDepth 10000 in
theorem r_fi12_5 {d : Nat} {v1 : Int32} {v2 : Int32} {v3 : Int32} {σ : Mem} {Q : Option AV → Mem → Prop} (h :
  ((v3 ≤ v2 →
  Q none σ) ∧
  (¬ v3 ≤ v2 →
  vp_in v2 48 ∧
    J I12 M_J7_fill_53178 (d + 1) 5 [(0, ar 12 0), (1, ai v1), (2, ai (v2 + 1)), (3, ai v3)] [] (wI σ 12 0 (Int32.toNatClampNeg v2) v1) Q))) :
  J I12 M_J7_fill_53178 (d + 1) 5 [(0, ar 12 0), (1, ai v1), (2, ai v2), (3, ai v3)] [] σ Q := wp_J oki_12 Mok_J7_fill_53178 (cuts := [(5, [0, 1, 2, 3])]) 400 5 _ [] σ h
set_option maxRecDepth 20000 in
theorem x_fi12 {d : Nat} {p1 : Int32} {σ : Mem} {K : Mem → Prop} (h : J I12 M_J7_fill_53178 (d + 1) 5 [(0, ar 12 0), (1, ai p1), (2, ai 0), (3, ai 48)] [] σ (KV K)) :
  CalV I12 (d + 1) S_J7_fill_53178 [ar 12 0, ai p1] σ K := r_fi12_0 h
set_option maxRecDepth 20000 in
theorem x_fi12_5 {d : Nat} {v1 : Int32} {v2 : Int32} {v3 : Int32} {σ : Mem} {Q : Option AV → Mem → Prop} (h : ((v3 ≤ v2 → Q none σ) ∧
  (¬ v3 ≤ v2 → vp_in v2 48 ∧ J I12 M_J7_fill_53178 (d + 1) 5 [(0, ar 12 0), (1, ai v1), (2, ai (v2 + 1)), (3, ai v3)] [] (wI σ 12 0 (Int32.toNatClampNeg v2) v1) Q))) :
  J I12 M_J7_fill_53178 (d + 1) 5 [(0, ar 12 0), (1, ai v1), (2, ai v2), (3, ai v3)] [] σ Q := r_fi12_5 ⟨fun c1 => (h.1 c1), fun c1 => ⟨(h.2 c1).1, (h.2 c1).2⟩⟩
theorem f_fi12 {d : Nat} {v : Int32} {σ : Mem} : Rv (fun K => CalV I12 (d + 1) S_J7_fill_53178 [ar 12 0, ai v] σ K) (fun s => s = sK σ 12 (fun i j => if i = 0 ∧ j < 48 then v else σ.1 12 i j)) := by
  refine Rv_map (fun K => x_fi12) (Rv_KV ?_)
  simp (disch := omega) only [lit_0, lit_1, lit_2, lit_3, lit_4, lit_5, lit_6, lit_7, lit_8, lit_9, lit_10, lit_11, lit_12, lit_17, lit_20, lit_30, lit_31, lit_32, lit_47, lit_48, lit_60, lit_99, lit_100, lit_144, lit_200, lit_240, lit_300, lit_576, lit_960, lit_1008, lit_1000000, lit_100000000, true_implies, not_true_eq_false, false_implies, not_false_eq_true, true_and, and_true, neg_1, nI_add, pk_mul, nI_clamp, le_nI, lt_nI, eq_nI, vp_nI, nI_NN, NN_nI, NN_lt, NN_le, lt_NN, le_NN]
  refine loopU (C := fun i s Q => J I12 M_J7_fill_53178 (d + 1) 5 [(0, ar 12 0), (1, ai v), (2, ai (nI i)), (3, ai (nI 48))] [] s Q) (Inv := fun n s => s = sK σ 12 (fun i j => if i = 0 ∧ j < n then v else σ.1 12 i j)) (n := 48) ?_ ?_ (by omega) ?_
  · rintro i _ hi rfl ih
    refine Rn_map (fun Q => x_fi12_5) ?_
    simp (disch := omega) only [lit_0, lit_1, lit_2, lit_3, lit_4, lit_5, lit_6, lit_7, lit_8, lit_9, lit_10, lit_11, lit_12, lit_17, lit_20, lit_30, lit_31, lit_32, lit_47, lit_48, lit_60, lit_99, lit_100, lit_144, lit_200, lit_240, lit_300, lit_576, lit_960, lit_1008, lit_1000000, lit_100000000, true_implies, not_true_eq_false, false_implies, not_false_eq_true, true_and, and_true, neg_1, nI_add, pk_mul, nI_clamp, le_nI, lt_nI, eq_nI, vp_nI, nI_NN, NN_nI, NN_lt, NN_le, lt_NN, le_NN]
    repeat' (first | refine Rn_and (by first | omega | assumption) ?_ | refine Rn_pos (by first | omega | assumption) ?_ | refine Rn_neg (by first | omega | assumption) ?_ | refine Rn_pos' (by first | omega | assumption) ?_ | refine Rn_neg' (by first | omega | assumption) ?_ | fail)
    refine ih _ (Mem_ext (fun k a b => ?_) rfl)
    simp only [wI_r, sK_r]
    grind
  · rintro _ rfl
    refine Rn_map (fun Q => x_fi12_5) ?_
    simp (disch := omega) only [lit_0, lit_1, lit_2, lit_3, lit_4, lit_5, lit_6, lit_7, lit_8, lit_9, lit_10, lit_11, lit_12, lit_17, lit_20, lit_30, lit_31, lit_32, lit_47, lit_48, lit_60, lit_99, lit_100, lit_144, lit_200, lit_240, lit_300, lit_576, lit_960, lit_1008, lit_1000000, lit_100000000, true_implies, not_true_eq_false, false_implies, not_false_eq_true, true_and, and_true, neg_1, nI_add, pk_mul, nI_clamp, le_nI, lt_nI, eq_nI, vp_nI, nI_NN, NN_nI, NN_lt, NN_le, lt_NN, le_NN]
    repeat' (first | refine Rn_and (by first | omega | assumption) ?_ | refine Rn_pos (by first | omega | assumption) ?_ | refine Rn_neg (by first | omega | assumption) ?_ | refine Rn_pos' (by first | omega | assumption) ?_ | refine Rn_neg' (by first | omega | assumption) ?_ | fail)
    exact Rn_ret ⟨rfl, rfl⟩
  · refine Mem_ext (fun k a b => ?_) rfl
    simp only [sK_r]
    grind
def memZ : Mem := (fun _ _ _ => 0, fun _ _ _ => 0)
theorem fz10 : (sK memZ 10 (fun i j => if i = 0 ∧ j < 12 then 5 else memZ.1 10 i j)).1 10 0 = mem0X.1 10 0 := by
  funext j
  rw [sK_r, if_pos rfl]
  show (if 0 = 0 ∧ j < 12 then (5 : Int32) else 0) = bif Nat.blt j 12 then 5 else 0
  by_cases h : j < 12
  · rw [if_pos ⟨rfl, h⟩, show Nat.blt j 12 = true from Nat.ble_eq_true_of_le h]; rfl
  · rw [if_neg (fun z => h z.2), show Nat.blt j 12 = false from by rw [Bool.eq_false_iff]; exact fun z => h (Nat.le_of_ble_eq_true z)]; rfl
theorem fz12 : (sK memZ 12 (fun i j => if i = 0 ∧ j < 48 then (-1) else memZ.1 12 i j)).1 12 0 = mem0X.1 12 0 := by
  funext j
  rw [sK_r, if_pos rfl]
  show (if 0 = 0 ∧ j < 48 then (-1 : Int32) else 0) = bif Nat.blt j 48 then -1 else 0
  by_cases h : j < 48
  · rw [if_pos ⟨rfl, h⟩, show Nat.blt j 48 = true from Nat.ble_eq_true_of_le h]; rfl
  · rw [if_neg (fun z => h z.2), show Nat.blt j 48 = false from by rw [Bool.eq_false_iff]; exact fun z => h (Nat.le_of_ble_eq_true z)]; rfl
set_option maxHeartbeats 4000000 in
set_option maxRecDepth 20000 in
theorem K_Resident (l : Launch) : Ctor l mem0X false S_X3_init 2 4 120 3 9 [.null, .null, .null, .null, .int 0, .int 0, .int 0, .int 0, .int 0, .int 0, .int 0, .int 0, .int 0, .int 0] [(9, 0), (10, 0), (11, 0), (12, 0), (13, 0)] := by
  refine Ctor_of (by decide) (by decide) rfl ?_
  intro p e s m args below meth c D cy h A ls Cx hl hP hD
  have hd : ∀ pc q, gd 53 C_X3_init pc = some q → decode S_X3_init.2.1 pc = .ok q := Mok_X3_init.1
  obtain ⟨hx, hb, hml, hr, hlocks, hown, hts, hA, hin, hNw, hK, hfr, hlo, hRc, hRs, hEx⟩ := id Cx
  have hS : va_S A s.heap s.heap [] := va_S.rf
  refine N_obj (idx := 3) Cx (by decide) (lv_at hl 0 rfl) hl.1 (tb_1 170 (by decide +kernel) (by decide +kernel)) (tb_1 57 (by decide +kernel) (by decide +kernel)) (tb_1 58 (by decide +kernel) (by decide +kernel)) (hd 0 (.aload_n 0, 1) rfl) (hd 1 (.invokespecial 3, 3) rfl) ?_
  refine N_fld (at_ := .int) (t := 0) (n := 12) (pc2 := 7) (idx := 9) (j := 0) (a0 := (12, .inl (fun _ => 0))) Cx rfl inX3 tyX3_ok nmX3 (by simp) (lv_at hl 0 rfl) (by decide) (tb_1 174 (by decide +kernel) (by decide +kernel)) rfl rfl (fun _ => rfl) (fun _ => rfl) (fun _ => rfl) rfl (by decide) (tb_1 91 (by decide +kernel) (by decide +kernel)) (by decide) (Nat.le_of_ble_eq_true rfl) (fun rest k => lv_bipush (v := nI 12) hx hb (hd 5 (.bipush 12, 2) rfl) (by decide) k) (hd 4 (.aload_n 0, 1) rfl) (hd 7 (.newarray .int, 2) rfl) (hd 9 (.putfield 9, 3) rfl) (Nat.le_of_ble_eq_true rfl) (Nat.le_of_ble_eq_true rfl) hP hD hS (fun q1 H locs hP hD hS => ?_)
  refine N_fld (at_ := .int) (t := 0) (n := 48) (pc2 := 15) (idx := 15) (j := 1) (a0 := (48, .inl (fun _ => 0))) Cx rfl inX3 tyX3_ok nmX3 (by simp) (lv_at hl 0 rfl) (by decide) (tb_1 176 (by decide +kernel) (by decide +kernel)) rfl rfl (fun _ => rfl) (fun _ => rfl) (fun _ => rfl) rfl (by decide) (tb_1 91 (by decide +kernel) (by decide +kernel)) (by decide) (Nat.le_of_ble_eq_true rfl) (fun rest k => lv_bipush (v := nI 48) hx hb (hd 13 (.bipush 48, 2) rfl) (by decide) k) (hd 12 (.aload_n 0, 1) rfl) (hd 15 (.newarray .int, 2) rfl) (hd 17 (.putfield 15, 3) rfl) (Nat.le_of_ble_eq_true rfl) (Nat.le_of_ble_eq_true rfl) hP hD hS (fun q2 H locs hP hD hS => ?_)
  refine N_fld (at_ := .int) (t := 0) (n := 48) (pc2 := 23) (idx := 18) (j := 2) (a0 := (48, .inl (fun _ => 0))) Cx rfl inX3 tyX3_ok nmX3 (by simp) (lv_at hl 0 rfl) (by decide) (tb_1 178 (by decide +kernel) (by decide +kernel)) rfl rfl (fun _ => rfl) (fun _ => rfl) (fun _ => rfl) rfl (by decide) (tb_1 91 (by decide +kernel) (by decide +kernel)) (by decide) (Nat.le_of_ble_eq_true rfl) (fun rest k => lv_bipush (v := nI 48) hx hb (hd 21 (.bipush 48, 2) rfl) (by decide) k) (hd 20 (.aload_n 0, 1) rfl) (hd 23 (.newarray .int, 2) rfl) (hd 25 (.putfield 18, 3) rfl) (Nat.le_of_ble_eq_true rfl) (Nat.le_of_ble_eq_true rfl) hP hD hS (fun q3 H locs hP hD hS => ?_)
  refine N_fld (at_ := .int) (t := 0) (n := 12) (pc2 := 31) (idx := 21) (j := 3) (a0 := (12, .inl (fun _ => 0))) Cx rfl inX3 tyX3_ok nmX3 (by simp) (lv_at hl 0 rfl) (by decide) (tb_1 182 (by decide +kernel) (by decide +kernel)) rfl rfl (fun _ => rfl) (fun _ => rfl) (fun _ => rfl) rfl (by decide) (tb_1 91 (by decide +kernel) (by decide +kernel)) (by decide) (Nat.le_of_ble_eq_true rfl) (fun rest k => lv_bipush (v := nI 12) hx hb (hd 29 (.bipush 12, 2) rfl) (by decide) k) (hd 28 (.aload_n 0, 1) rfl) (hd 31 (.newarray .int, 2) rfl) (hd 33 (.putfield 21, 3) rfl) (Nat.le_of_ble_eq_true rfl) (Nat.le_of_ble_eq_true rfl) hP hD hS (fun q4 H locs hP hD hS => ?_)
  have hP : va_P D vwCl [(h, .inr (3, [.ref q1, .ref q2, .ref q3, .ref q4, .int 0, .int 0, .int 0, .int 0, .int 0, .int 0, .int 0, .int 0, .int 0, .int 0])), (q1, .inl (cy 0, 12, .inl (fun _ => 0))), (q2, .inl (cy 0, 48, .inl (fun _ => 0))), (q3, .inl (cy 0, 48, .inl (fun _ => 0))), (q4, .inl (cy 0, 12, .inl (fun _ => 0)))] _ := hP
  have hD : va_D A [(h, .inr (3, [.ref q1, .ref q2, .ref q3, .ref q4, .int 0, .int 0, .int 0, .int 0, .int 0, .int 0, .int 0, .int 0, .int 0, .int 0])), (q1, .inl (cy 0, 12, .inl (fun _ => 0))), (q2, .inl (cy 0, 48, .inl (fun _ => 0))), (q3, .inl (cy 0, 48, .inl (fun _ => 0))), (q4, .inl (cy 0, 12, .inl (fun _ => 0)))] := hD
  refine lv_aload_n hx hb (hd 36 (.aload_n 0, 1) rfl) rfl (lv_at hl 0 rfl) ?_
  refine va_get (D := D) (ci := 3) (v := .ref q1) hx hb hts inX3 hown hK hP 0 rfl rfl 0 (by decide) (hts _ (tb_1 174 (by decide +kernel) (by decide +kernel))) (fun _ h9 => h9) rfl (hd 37 (.getfield 9, 3) rfl) ?_
  refine lv_iconst (v := 5) hx hb (hd 40 (.iconst 5, 1) rfl) (by decide) ?_
  obtain ⟨sg10, hsg10, kg10⟩ := f_fi10 (d := 0) (v := 5) (σ := memZ)
  have ew10 : wl kS cy (fun _ _ => q1) I10 memZ = [(q1, .inl (cy 0, 12, .inl (fun _ => 0)))] := rfl
  refine W_stat (I := I10) (ρ := fun _ _ => q1) (as := [ar 10 0, ai 5]) (rest := []) (d := 1) (wr := [(h, .inr (3, [.ref q1, .ref q2, .ref q3, .ref q4, .int 0, .int 0, .int 0, .int 0, .int 0, .int 0, .int 0, .int 0, .int 0, .int 0])), (q2, .inl (cy 0, 48, .inl (fun _ => 0))), (q3, .inl (cy 0, 48, .inl (fun _ => 0))), (q4, .inl (cy 0, 12, .inl (fun _ => 0)))]) (by show ¬ ((30, 0) : KI) ∈ I10; decide) Sok_J7_fill_53178 rfl hx hb hml hown hts (hts _ (tb_1 171 (by decide +kernel) (by decide +kernel))) hK hNw hfr hlo (by rw [hRc]; exact Nat.le_of_ble_eq_true rfl) (by rw [hRs]; exact Nat.le_of_ble_eq_true rfl) (by intro v hv; rcases List.mem_cons.mp hv with rfl | hv; exact Or.inl List.mem_cons_self; rcases List.mem_cons.mp hv with rfl | hv; trivial; cases hv) rfl (hd 41 (.invokestatic 24, 3) rfl) hl.1 (by decide) (kg10 (fun s => s = sg10) rfl) (by rw [ew10]; exact hP.sub [1] rfl) (hP.sub [0, 2, 3, 4] rfl) (by rw [ew10]; exact hD.sub [1, 0, 2, 3, 4] (by decide) rfl) hS hA (fun v sg H locs hq hP1 hP2 hS => ?_)
  obtain ⟨rfl, rfl⟩ := hq
  refine W.eq (g2 := F0 m 44 ls []) rfl ?_
  have ex10 : wl kS cy (fun _ _ => q1) I10 sg = [(q1, .inl (cy 0, 12, .inl (mem0X.1 10 0)))] := by rw [hsg10, ← fz10]; rfl
  rw [ex10] at hP1
  have hD : va_D A [(q1, .inl (cy 0, 12, .inl (mem0X.1 10 0))), (h, .inr (3, [.ref q1, .ref q2, .ref q3, .ref q4, .int 0, .int 0, .int 0, .int 0, .int 0, .int 0, .int 0, .int 0, .int 0, .int 0])), (q2, .inl (cy 0, 48, .inl (fun _ => 0))), (q3, .inl (cy 0, 48, .inl (fun _ => 0))), (q4, .inl (cy 0, 12, .inl (fun _ => 0)))] := vD_addr (by rfl) (hD.sub (ws' := [(q1, .inl (cy 0, 12, .inl (fun _ => 0))), (h, .inr (3, [.ref q1, .ref q2, .ref q3, .ref q4, .int 0, .int 0, .int 0, .int 0, .int 0, .int 0, .int 0, .int 0, .int 0, .int 0])), (q2, .inl (cy 0, 48, .inl (fun _ => 0))), (q3, .inl (cy 0, 48, .inl (fun _ => 0))), (q4, .inl (cy 0, 12, .inl (fun _ => 0)))]) [1, 0, 2, 3, 4] (by decide) rfl)
  have hP : va_P D vwCl [(q1, .inl (cy 0, 12, .inl (mem0X.1 10 0))), (h, .inr (3, [.ref q1, .ref q2, .ref q3, .ref q4, .int 0, .int 0, .int 0, .int 0, .int 0, .int 0, .int 0, .int 0, .int 0, .int 0])), (q2, .inl (cy 0, 48, .inl (fun _ => 0))), (q3, .inl (cy 0, 48, .inl (fun _ => 0))), (q4, .inl (cy 0, 12, .inl (fun _ => 0)))] H := hP1.app hP2
  refine lv_aload_n hx hb (hd 44 (.aload_n 0, 1) rfl) rfl (lv_at hl 0 rfl) ?_
  refine va_get (D := D) (ci := 3) (v := .ref q3) hx hb hts inX3 hown hK hP 1 rfl rfl 2 (by decide) (hts _ (tb_1 178 (by decide +kernel) (by decide +kernel))) (fun _ h9 => h9) rfl (hd 45 (.getfield 18, 3) rfl) ?_
  refine lv_iconst (v := -1) hx hb (hd 48 (.iconst (-1), 1) rfl) (by decide) ?_
  obtain ⟨sg12, hsg12, kg12⟩ := f_fi12 (d := 0) (v := -1) (σ := memZ)
  have ew12 : wl kS cy (fun _ _ => q3) I12 memZ = [(q3, .inl (cy 0, 48, .inl (fun _ => 0)))] := rfl
  refine W_stat (I := I12) (ρ := fun _ _ => q3) (as := [ar 12 0, ai (-1)]) (rest := []) (d := 1) (wr := [(q1, .inl (cy 0, 12, .inl (mem0X.1 10 0))), (h, .inr (3, [.ref q1, .ref q2, .ref q3, .ref q4, .int 0, .int 0, .int 0, .int 0, .int 0, .int 0, .int 0, .int 0, .int 0, .int 0])), (q2, .inl (cy 0, 48, .inl (fun _ => 0))), (q4, .inl (cy 0, 12, .inl (fun _ => 0)))]) (by show ¬ ((30, 0) : KI) ∈ I12; decide) Sok_J7_fill_53178 rfl hx hb hml hown hts (hts _ (tb_1 171 (by decide +kernel) (by decide +kernel))) hK hNw hfr hlo (by rw [hRc]; exact Nat.le_of_ble_eq_true rfl) (by rw [hRs]; exact Nat.le_of_ble_eq_true rfl) (by intro v hv; rcases List.mem_cons.mp hv with rfl | hv; exact Or.inl List.mem_cons_self; rcases List.mem_cons.mp hv with rfl | hv; trivial; cases hv) rfl (hd 49 (.invokestatic 24, 3) rfl) hl.1 (by decide) (kg12 (fun s => s = sg12) rfl) (by rw [ew12]; exact hP.sub [3] rfl) (hP.sub [0, 1, 2, 4] rfl) (by rw [ew12]; exact hD.sub [3, 0, 1, 2, 4] (by decide) rfl) hS hA (fun v sg H locs hq hP1 hP2 hS => ?_)
  obtain ⟨rfl, rfl⟩ := hq
  refine W.eq (g2 := F0 m 52 ls []) rfl ?_
  have ex12 : wl kS cy (fun _ _ => q3) I12 sg = [(q3, .inl (cy 0, 48, .inl (mem0X.1 12 0)))] := by rw [hsg12, ← fz12]; rfl
  rw [ex12] at hP1
  have hD : va_D A [(q3, .inl (cy 0, 48, .inl (mem0X.1 12 0))), (q1, .inl (cy 0, 12, .inl (mem0X.1 10 0))), (h, .inr (3, [.ref q1, .ref q2, .ref q3, .ref q4, .int 0, .int 0, .int 0, .int 0, .int 0, .int 0, .int 0, .int 0, .int 0, .int 0])), (q2, .inl (cy 0, 48, .inl (fun _ => 0))), (q4, .inl (cy 0, 12, .inl (fun _ => 0)))] := vD_addr (by rfl) (hD.sub (ws' := [(q3, .inl (cy 0, 48, .inl (fun _ => 0))), (q1, .inl (cy 0, 12, .inl (mem0X.1 10 0))), (h, .inr (3, [.ref q1, .ref q2, .ref q3, .ref q4, .int 0, .int 0, .int 0, .int 0, .int 0, .int 0, .int 0, .int 0, .int 0, .int 0])), (q2, .inl (cy 0, 48, .inl (fun _ => 0))), (q4, .inl (cy 0, 12, .inl (fun _ => 0)))]) [3, 0, 1, 2, 4] (by decide) rfl)
  have hP : va_P D vwCl [(q3, .inl (cy 0, 48, .inl (mem0X.1 12 0))), (q1, .inl (cy 0, 12, .inl (mem0X.1 10 0))), (h, .inr (3, [.ref q1, .ref q2, .ref q3, .ref q4, .int 0, .int 0, .int 0, .int 0, .int 0, .int 0, .int 0, .int 0, .int 0, .int 0])), (q2, .inl (cy 0, 48, .inl (fun _ => 0))), (q4, .inl (cy 0, 12, .inl (fun _ => 0)))] H := hP1.app hP2
  have hP : va_P D vwCl [(h, .inr (3, [.ref q1, .ref q2, .ref q3, .ref q4, .int 0, .int 0, .int 0, .int 0, .int 0, .int 0, .int 0, .int 0, .int 0, .int 0])), (q1, .inl (cy 0, 12, .inl (mem0X.1 10 0))), (q2, .inl (cy 0, 48, .inl (fun _ => 0))), (q3, .inl (cy 0, 48, .inl (mem0X.1 12 0))), (q4, .inl (cy 0, 12, .inl (fun _ => 0)))] _ := hP.sub [2, 1, 3, 0, 4] rfl
  have hD : va_D A [(h, .inr (3, [.ref q1, .ref q2, .ref q3, .ref q4, .int 0, .int 0, .int 0, .int 0, .int 0, .int 0, .int 0, .int 0, .int 0, .int 0])), (q1, .inl (cy 0, 12, .inl (mem0X.1 10 0))), (q2, .inl (cy 0, 48, .inl (fun _ => 0))), (q3, .inl (cy 0, 48, .inl (mem0X.1 12 0))), (q4, .inl (cy 0, 12, .inl (fun _ => 0)))] := hD.sub [2, 1, 3, 0, 4] (by decide) rfl
  obtain ⟨r, hr0⟩ : ∃ r : Nat → Nat, r = (fun k => bif Nat.beq k 9 then h else bif Nat.beq k 10 then q1 else bif Nat.beq k 11 then q2 else bif Nat.beq k 12 then q3 else bif Nat.beq k 13 then q4 else 0) := ⟨_, rfl⟩
  have ew : wl kS cy (fun k _ => r k) [(9, 0), (10, 0), (11, 0), (12, 0), (13, 0)] mem0X = [(h, .inr (3, [.ref q1, .ref q2, .ref q3, .ref q4, .int 0, .int 0, .int 0, .int 0, .int 0, .int 0, .int 0, .int 0, .int 0, .int 0])), (q1, .inl (cy 0, 12, .inl (mem0X.1 10 0))), (q2, .inl (cy 0, 48, .inl (fun _ => 0))), (q3, .inl (cy 0, 48, .inl (mem0X.1 12 0))), (q4, .inl (cy 0, 12, .inl (fun _ => 0)))] := by rw [hr0]; rfl
  refine W.vret hx hb hr (fun t ht hW => ⟨⟨fun k _ => r k, rfl, by rw [hr0]; rfl, by rw [ht, ew]; exact hP, by rw [ew]; exact hD⟩, hS.F ht⟩) hS.2.2 (hd 52 (.return_, 1) rfl) hlocks
