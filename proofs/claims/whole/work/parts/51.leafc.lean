set_option maxHeartbeats 4000000 in
set_option maxRecDepth 20000 in
theorem K_Town (l : Launch) : Ctor l S_X6_init 2 5 324 6 1 [.null, .null, .null, .null, .null, .int 0, .int 0] [(1, 0), (2, 0), (3, 0), (4, 0), (5, 0), (6, 0)] := by
  refine Ctor_of (by decide) (by decide) rfl ?_
  intro p e s m args below meth c D cy h A ls Cx hl hP hD
  have hd : ∀ pc q, gd 47 C_X6_init pc = some q → decode S_X6_init.2.1 pc = .ok q := Mok_X6_init.1
  obtain ⟨hx, hb, hml, hr, hlocks, hown, hts, hA, hin, hNw, hK, hfr, hlo, hRc, hRs⟩ := id Cx
  have hS : va_S A s.heap s.heap [] := va_S.rf
  refine N_obj (idx := 3) Cx (by decide) (lv_at hl 0 rfl) hl.1 (tb_1 27 (by decide +kernel) (by decide +kernel)) (tb_1 20 (by decide +kernel) (by decide +kernel)) (tb_1 21 (by decide +kernel) (by decide +kernel)) (hd 0 (.aload_n 0, 1) rfl) (hd 1 (.invokespecial 3, 3) rfl) ?_
  refine N_fld (at_ := .int) (t := 0) (n := 12) (pc2 := 7) (idx := 9) (j := 0) (a0 := (12, .inl (fun _ => 0))) Cx rfl inX6 tyX6_ok nmX6 (by simp) (lv_at hl 0 rfl) (by decide) (tb_1 28 (by decide +kernel) (by decide +kernel)) rfl rfl (fun _ => rfl) (fun _ => rfl) (fun _ => rfl) rfl (by decide) (tb_1 54 (by decide +kernel) (by decide +kernel)) (by decide) (Nat.le_of_ble_eq_true rfl) (fun rest k => lv_bipush (v := nI 12) hx hb (hd 5 (.bipush 12, 2) rfl) (by decide) k) (hd 4 (.aload_n 0, 1) rfl) (hd 7 (.newarray .int, 2) rfl) (hd 9 (.putfield 9, 3) rfl) (Nat.le_of_ble_eq_true rfl) (Nat.le_of_ble_eq_true rfl) hP hD hS (fun q1 H locs hP hD hS => ?_)
  refine N_fld (at_ := .int) (t := 0) (n := 12) (pc2 := 15) (idx := 15) (j := 1) (a0 := (12, .inl (fun _ => 0))) Cx rfl inX6 tyX6_ok nmX6 (by simp) (lv_at hl 0 rfl) (by decide) (tb_1 30 (by decide +kernel) (by decide +kernel)) rfl rfl (fun _ => rfl) (fun _ => rfl) (fun _ => rfl) rfl (by decide) (tb_1 54 (by decide +kernel) (by decide +kernel)) (by decide) (Nat.le_of_ble_eq_true rfl) (fun rest k => lv_bipush (v := nI 12) hx hb (hd 13 (.bipush 12, 2) rfl) (by decide) k) (hd 12 (.aload_n 0, 1) rfl) (hd 15 (.newarray .int, 2) rfl) (hd 17 (.putfield 15, 3) rfl) (Nat.le_of_ble_eq_true rfl) (Nat.le_of_ble_eq_true rfl) hP hD hS (fun q2 H locs hP hD hS => ?_)
  refine N_fld (at_ := .int) (t := 0) (n := 12) (pc2 := 23) (idx := 18) (j := 2) (a0 := (12, .inl (fun _ => 0))) Cx rfl inX6 tyX6_ok nmX6 (by simp) (lv_at hl 0 rfl) (by decide) (tb_1 31 (by decide +kernel) (by decide +kernel)) rfl rfl (fun _ => rfl) (fun _ => rfl) (fun _ => rfl) rfl (by decide) (tb_1 54 (by decide +kernel) (by decide +kernel)) (by decide) (Nat.le_of_ble_eq_true rfl) (fun rest k => lv_bipush (v := nI 12) hx hb (hd 21 (.bipush 12, 2) rfl) (by decide) k) (hd 20 (.aload_n 0, 1) rfl) (hd 23 (.newarray .int, 2) rfl) (hd 25 (.putfield 18, 3) rfl) (Nat.le_of_ble_eq_true rfl) (Nat.le_of_ble_eq_true rfl) hP hD hS (fun q3 H locs hP hD hS => ?_)
  refine N_fld (at_ := .int) (t := 0) (n := 144) (pc2 := 32) (idx := 21) (j := 3) (a0 := (144, .inl (fun _ => 0))) Cx rfl inX6 tyX6_ok nmX6 (by simp) (lv_at hl 0 rfl) (by decide) (tb_1 32 (by decide +kernel) (by decide +kernel)) rfl rfl (fun _ => rfl) (fun _ => rfl) (fun _ => rfl) rfl (by decide) (tb_1 54 (by decide +kernel) (by decide +kernel)) (by decide) (Nat.le_of_ble_eq_true rfl) (fun rest k => lv_sipush (v := nI 144) hx hb (hd 29 (.sipush 144, 3) rfl) (by decide) k) (hd 28 (.aload_n 0, 1) rfl) (hd 32 (.newarray .int, 2) rfl) (hd 34 (.putfield 21, 3) rfl) (Nat.le_of_ble_eq_true rfl) (Nat.le_of_ble_eq_true rfl) hP hD hS (fun q4 H locs hP hD hS => ?_)
  refine N_fld (at_ := .int) (t := 0) (n := 144) (pc2 := 41) (idx := 24) (j := 4) (a0 := (144, .inl (fun _ => 0))) Cx rfl inX6 tyX6_ok nmX6 (by simp) (lv_at hl 0 rfl) (by decide) (tb_1 33 (by decide +kernel) (by decide +kernel)) rfl rfl (fun _ => rfl) (fun _ => rfl) (fun _ => rfl) rfl (by decide) (tb_1 54 (by decide +kernel) (by decide +kernel)) (by decide) (Nat.le_of_ble_eq_true rfl) (fun rest k => lv_sipush (v := nI 144) hx hb (hd 38 (.sipush 144, 3) rfl) (by decide) k) (hd 37 (.aload_n 0, 1) rfl) (hd 41 (.newarray .int, 2) rfl) (hd 43 (.putfield 24, 3) rfl) (Nat.le_of_ble_eq_true rfl) (Nat.le_of_ble_eq_true rfl) hP hD hS (fun q5 H locs hP hD hS => ?_)
  have hP : va_P D vwCl [(h, .inr (6, [.ref q1, .ref q2, .ref q3, .ref q4, .ref q5, .int 0, .int 0])), (q1, .inl (cy 0, 12, .inl (fun _ => 0))), (q2, .inl (cy 0, 12, .inl (fun _ => 0))), (q3, .inl (cy 0, 12, .inl (fun _ => 0))), (q4, .inl (cy 0, 144, .inl (fun _ => 0))), (q5, .inl (cy 0, 144, .inl (fun _ => 0)))] _ := hP
  have hD : va_D A [(h, .inr (6, [.ref q1, .ref q2, .ref q3, .ref q4, .ref q5, .int 0, .int 0])), (q1, .inl (cy 0, 12, .inl (fun _ => 0))), (q2, .inl (cy 0, 12, .inl (fun _ => 0))), (q3, .inl (cy 0, 12, .inl (fun _ => 0))), (q4, .inl (cy 0, 144, .inl (fun _ => 0))), (q5, .inl (cy 0, 144, .inl (fun _ => 0)))] := hD
  obtain ⟨r, hr0⟩ : ∃ r : Nat → Nat, r = (fun k => bif Nat.beq k 1 then h else bif Nat.beq k 2 then q1 else bif Nat.beq k 3 then q2 else bif Nat.beq k 4 then q3 else bif Nat.beq k 5 then q4 else bif Nat.beq k 6 then q5 else 0) := ⟨_, rfl⟩
  have ew : wl kS cy (fun k _ => r k) [(1, 0), (2, 0), (3, 0), (4, 0), (5, 0), (6, 0)] mem0X = [(h, .inr (6, [.ref q1, .ref q2, .ref q3, .ref q4, .ref q5, .int 0, .int 0])), (q1, .inl (cy 0, 12, .inl (fun _ => 0))), (q2, .inl (cy 0, 12, .inl (fun _ => 0))), (q3, .inl (cy 0, 12, .inl (fun _ => 0))), (q4, .inl (cy 0, 144, .inl (fun _ => 0))), (q5, .inl (cy 0, 144, .inl (fun _ => 0)))] := by rw [hr0]; rfl
  refine W.vret hx hb hr (fun t ht hW => ⟨⟨r, rfl, by rw [hr0]; rfl, by rw [ht, ew]; exact hP, by rw [ew]; exact hD⟩, hS.F ht⟩) hS.2.2 (hd 46 (.return_, 1) rfl) hlocks
set_option maxHeartbeats 4000000 in
set_option maxRecDepth 20000 in
theorem K_Seats (l : Launch) : Ctor l S_X4_init 2 1 576 4 15 [.null] [(15, 0), (16, 0)] := by
  refine Ctor_of (by decide) (by decide) rfl ?_
  intro p e s m args below meth c D cy h A ls Cx hl hP hD
  have hd : ∀ pc q, gd 14 C_X4_init pc = some q → decode S_X4_init.2.1 pc = .ok q := Mok_X4_init.1
  obtain ⟨hx, hb, hml, hr, hlocks, hown, hts, hA, hin, hNw, hK, hfr, hlo, hRc, hRs⟩ := id Cx
  have hS : va_S A s.heap s.heap [] := va_S.rf
  refine N_obj (idx := 3) Cx (by decide) (lv_at hl 0 rfl) hl.1 (tb_1 66 (by decide +kernel) (by decide +kernel)) (tb_1 20 (by decide +kernel) (by decide +kernel)) (tb_1 21 (by decide +kernel) (by decide +kernel)) (hd 0 (.aload_n 0, 1) rfl) (hd 1 (.invokespecial 3, 3) rfl) ?_
  refine N_fld (at_ := .int) (t := 0) (n := 576) (pc2 := 8) (idx := 9) (j := 0) (a0 := (576, .inl (fun _ => 0))) Cx rfl inX4 tyX4_ok nmX4 (by simp) (lv_at hl 0 rfl) (by decide) (tb_1 67 (by decide +kernel) (by decide +kernel)) rfl rfl (fun _ => rfl) (fun _ => rfl) (fun _ => rfl) rfl (by decide) (tb_1 54 (by decide +kernel) (by decide +kernel)) (by decide) (Nat.le_of_ble_eq_true rfl) (fun rest k => lv_sipush (v := nI 576) hx hb (hd 5 (.sipush 576, 3) rfl) (by decide) k) (hd 4 (.aload_n 0, 1) rfl) (hd 8 (.newarray .int, 2) rfl) (hd 10 (.putfield 9, 3) rfl) (Nat.le_of_ble_eq_true rfl) (Nat.le_of_ble_eq_true rfl) hP hD hS (fun q1 H locs hP hD hS => ?_)
  have hP : va_P D vwCl [(h, .inr (4, [.ref q1])), (q1, .inl (cy 0, 576, .inl (fun _ => 0)))] _ := hP
  have hD : va_D A [(h, .inr (4, [.ref q1])), (q1, .inl (cy 0, 576, .inl (fun _ => 0)))] := hD
  obtain ⟨r, hr0⟩ : ∃ r : Nat → Nat, r = (fun k => bif Nat.beq k 15 then h else bif Nat.beq k 16 then q1 else 0) := ⟨_, rfl⟩
  have ew : wl kS cy (fun k _ => r k) [(15, 0), (16, 0)] mem0X = [(h, .inr (4, [.ref q1])), (q1, .inl (cy 0, 576, .inl (fun _ => 0)))] := by rw [hr0]; rfl
  refine W.vret hx hb hr (fun t ht hW => ⟨⟨r, rfl, by rw [hr0]; rfl, by rw [ht, ew]; exact hP, by rw [ew]; exact hD⟩, hS.F ht⟩) hS.2.2 (hd 13 (.return_, 1) rfl) hlocks
set_option maxHeartbeats 4000000 in
set_option maxRecDepth 20000 in
theorem K_Planner (l : Launch) : Ctor l S_X2_init 2 5 1837 2 17 [.null, .null, .null, .null, .null] [(17, 0), (18, 0), (19, 0), (20, 0), (21, 0), (22, 0)] := by
  refine Ctor_of (by decide) (by decide) rfl ?_
  intro p e s m args below meth c D cy h A ls Cx hl hP hD
  have hd : ∀ pc q, gd 48 C_X2_init pc = some q → decode S_X2_init.2.1 pc = .ok q := Mok_X2_init.1
  obtain ⟨hx, hb, hml, hr, hlocks, hown, hts, hA, hin, hNw, hK, hfr, hlo, hRc, hRs⟩ := id Cx
  have hS : va_S A s.heap s.heap [] := va_S.rf
  refine N_obj (idx := 3) Cx (by decide) (lv_at hl 0 rfl) hl.1 (tb_1 76 (by decide +kernel) (by decide +kernel)) (tb_1 20 (by decide +kernel) (by decide +kernel)) (tb_1 21 (by decide +kernel) (by decide +kernel)) (hd 0 (.aload_n 0, 1) rfl) (hd 1 (.invokespecial 3, 3) rfl) ?_
  refine N_fld (at_ := .int) (t := 0) (n := 48) (pc2 := 7) (idx := 9) (j := 0) (a0 := (48, .inl (fun _ => 0))) Cx rfl inX2 tyX2_ok nmX2 (by simp) (lv_at hl 0 rfl) (by decide) (tb_1 77 (by decide +kernel) (by decide +kernel)) rfl rfl (fun _ => rfl) (fun _ => rfl) (fun _ => rfl) rfl (by decide) (tb_1 54 (by decide +kernel) (by decide +kernel)) (by decide) (Nat.le_of_ble_eq_true rfl) (fun rest k => lv_bipush (v := nI 48) hx hb (hd 5 (.bipush 48, 2) rfl) (by decide) k) (hd 4 (.aload_n 0, 1) rfl) (hd 7 (.newarray .int, 2) rfl) (hd 9 (.putfield 9, 3) rfl) (Nat.le_of_ble_eq_true rfl) (Nat.le_of_ble_eq_true rfl) hP hD hS (fun q1 H locs hP hD hS => ?_)
  refine N_fld (at_ := .int) (t := 0) (n := 576) (pc2 := 16) (idx := 15) (j := 1) (a0 := (576, .inl (fun _ => 0))) Cx rfl inX2 tyX2_ok nmX2 (by simp) (lv_at hl 0 rfl) (by decide) (tb_1 78 (by decide +kernel) (by decide +kernel)) rfl rfl (fun _ => rfl) (fun _ => rfl) (fun _ => rfl) rfl (by decide) (tb_1 54 (by decide +kernel) (by decide +kernel)) (by decide) (Nat.le_of_ble_eq_true rfl) (fun rest k => lv_sipush (v := nI 576) hx hb (hd 13 (.sipush 576, 3) rfl) (by decide) k) (hd 12 (.aload_n 0, 1) rfl) (hd 16 (.newarray .int, 2) rfl) (hd 18 (.putfield 15, 3) rfl) (Nat.le_of_ble_eq_true rfl) (Nat.le_of_ble_eq_true rfl) hP hD hS (fun q2 H locs hP hD hS => ?_)
  refine N_fld (at_ := .int) (t := 0) (n := 49) (pc2 := 24) (idx := 18) (j := 2) (a0 := (49, .inl (fun _ => 0))) Cx rfl inX2 tyX2_ok nmX2 (by simp) (lv_at hl 0 rfl) (by decide) (tb_1 79 (by decide +kernel) (by decide +kernel)) rfl rfl (fun _ => rfl) (fun _ => rfl) (fun _ => rfl) rfl (by decide) (tb_1 54 (by decide +kernel) (by decide +kernel)) (by decide) (Nat.le_of_ble_eq_true rfl) (fun rest k => lv_bipush (v := nI 49) hx hb (hd 22 (.bipush 49, 2) rfl) (by decide) k) (hd 21 (.aload_n 0, 1) rfl) (hd 24 (.newarray .int, 2) rfl) (hd 26 (.putfield 18, 3) rfl) (Nat.le_of_ble_eq_true rfl) (Nat.le_of_ble_eq_true rfl) hP hD hS (fun q3 H locs hP hD hS => ?_)
  refine N_fld (at_ := .int) (t := 0) (n := 588) (pc2 := 33) (idx := 21) (j := 3) (a0 := (588, .inl (fun _ => 0))) Cx rfl inX2 tyX2_ok nmX2 (by simp) (lv_at hl 0 rfl) (by decide) (tb_1 80 (by decide +kernel) (by decide +kernel)) rfl rfl (fun _ => rfl) (fun _ => rfl) (fun _ => rfl) rfl (by decide) (tb_1 54 (by decide +kernel) (by decide +kernel)) (by decide) (Nat.le_of_ble_eq_true rfl) (fun rest k => lv_sipush (v := nI 588) hx hb (hd 30 (.sipush 588, 3) rfl) (by decide) k) (hd 29 (.aload_n 0, 1) rfl) (hd 33 (.newarray .int, 2) rfl) (hd 35 (.putfield 21, 3) rfl) (Nat.le_of_ble_eq_true rfl) (Nat.le_of_ble_eq_true rfl) hP hD hS (fun q4 H locs hP hD hS => ?_)
  refine N_fld (at_ := .int) (t := 0) (n := 576) (pc2 := 42) (idx := 24) (j := 4) (a0 := (576, .inl (fun _ => 0))) Cx rfl inX2 tyX2_ok nmX2 (by simp) (lv_at hl 0 rfl) (by decide) (tb_1 81 (by decide +kernel) (by decide +kernel)) rfl rfl (fun _ => rfl) (fun _ => rfl) (fun _ => rfl) rfl (by decide) (tb_1 54 (by decide +kernel) (by decide +kernel)) (by decide) (Nat.le_of_ble_eq_true rfl) (fun rest k => lv_sipush (v := nI 576) hx hb (hd 39 (.sipush 576, 3) rfl) (by decide) k) (hd 38 (.aload_n 0, 1) rfl) (hd 42 (.newarray .int, 2) rfl) (hd 44 (.putfield 24, 3) rfl) (Nat.le_of_ble_eq_true rfl) (Nat.le_of_ble_eq_true rfl) hP hD hS (fun q5 H locs hP hD hS => ?_)
  have hP : va_P D vwCl [(h, .inr (2, [.ref q1, .ref q2, .ref q3, .ref q4, .ref q5])), (q1, .inl (cy 0, 48, .inl (fun _ => 0))), (q2, .inl (cy 0, 576, .inl (fun _ => 0))), (q3, .inl (cy 0, 49, .inl (fun _ => 0))), (q4, .inl (cy 0, 588, .inl (fun _ => 0))), (q5, .inl (cy 0, 576, .inl (fun _ => 0)))] _ := hP
  have hD : va_D A [(h, .inr (2, [.ref q1, .ref q2, .ref q3, .ref q4, .ref q5])), (q1, .inl (cy 0, 48, .inl (fun _ => 0))), (q2, .inl (cy 0, 576, .inl (fun _ => 0))), (q3, .inl (cy 0, 49, .inl (fun _ => 0))), (q4, .inl (cy 0, 588, .inl (fun _ => 0))), (q5, .inl (cy 0, 576, .inl (fun _ => 0)))] := hD
  obtain ⟨r, hr0⟩ : ∃ r : Nat → Nat, r = (fun k => bif Nat.beq k 17 then h else bif Nat.beq k 18 then q1 else bif Nat.beq k 19 then q2 else bif Nat.beq k 20 then q3 else bif Nat.beq k 21 then q4 else bif Nat.beq k 22 then q5 else 0) := ⟨_, rfl⟩
  have ew : wl kS cy (fun k _ => r k) [(17, 0), (18, 0), (19, 0), (20, 0), (21, 0), (22, 0)] mem0X = [(h, .inr (2, [.ref q1, .ref q2, .ref q3, .ref q4, .ref q5])), (q1, .inl (cy 0, 48, .inl (fun _ => 0))), (q2, .inl (cy 0, 576, .inl (fun _ => 0))), (q3, .inl (cy 0, 49, .inl (fun _ => 0))), (q4, .inl (cy 0, 588, .inl (fun _ => 0))), (q5, .inl (cy 0, 576, .inl (fun _ => 0)))] := by rw [hr0]; rfl
  refine W.vret hx hb hr (fun t ht hW => ⟨⟨r, rfl, by rw [hr0]; rfl, by rw [ht, ew]; exact hP, by rw [ew]; exact hD⟩, hS.F ht⟩) hS.2.2 (hd 47 (.return_, 1) rfl) hlocks
set_option maxHeartbeats 4000000 in
set_option maxRecDepth 20000 in
theorem K_Gathering (l : Launch) : Ctor l S_X1_init 2 0 0 1 14 [.int 0, .int 0, .int 0, .int 0, .int 0, .int 0, .int 0, .int 0] [(14, 0)] := by
  refine Ctor_of (by decide) (by decide) rfl ?_
  intro p e s m args below meth c D cy h A ls Cx hl hP hD
  have hd : ∀ pc q, gd 5 C_X1_init pc = some q → decode S_X1_init.2.1 pc = .ok q := Mok_X1_init.1
  obtain ⟨hx, hb, hml, hr, hlocks, hown, hts, hA, hin, hNw, hK, hfr, hlo, hRc, hRs⟩ := id Cx
  have hS : va_S A s.heap s.heap [] := va_S.rf
  refine N_obj (idx := 1) Cx (by decide) (lv_at hl 0 rfl) hl.1 (tb_1 204 (by decide +kernel) (by decide +kernel)) (tb_1 20 (by decide +kernel) (by decide +kernel)) (tb_1 21 (by decide +kernel) (by decide +kernel)) (hd 0 (.aload_n 0, 1) rfl) (hd 1 (.invokespecial 1, 3) rfl) ?_
  have hP : va_P D vwCl [(h, .inr (1, [.int 0, .int 0, .int 0, .int 0, .int 0, .int 0, .int 0, .int 0]))] _ := hP
  have hD : va_D A [(h, .inr (1, [.int 0, .int 0, .int 0, .int 0, .int 0, .int 0, .int 0, .int 0]))] := hD
  obtain ⟨r, hr0⟩ : ∃ r : Nat → Nat, r = (fun k => bif Nat.beq k 14 then h else 0) := ⟨_, rfl⟩
  have ew : wl kS cy (fun k _ => r k) [(14, 0)] mem0X = [(h, .inr (1, [.int 0, .int 0, .int 0, .int 0, .int 0, .int 0, .int 0, .int 0]))] := by rw [hr0]; rfl
  refine W.vret hx hb hr (fun t ht hW => ⟨⟨r, rfl, by rw [hr0]; rfl, by rw [ht, ew]; exact hP, by rw [ew]; exact hD⟩, hS.F ht⟩) hS.2.2 (hd 4 (.return_, 1) rfl) hlocks
set_option maxHeartbeats 4000000 in
set_option maxRecDepth 20000 in
theorem K_Shelf (l : Launch) : Ctor l S_X5_init 2 1 60 5 7 [.null, .int 0, .int 0, .int 0] [(7, 0), (8, 0)] := by
  refine Ctor_of (by decide) (by decide) rfl ?_
  intro p e s m args below meth c D cy h A ls Cx hl hP hD
  have hd : ∀ pc q, gd 23 C_X5_init pc = some q → decode S_X5_init.2.1 pc = .ok q := Mok_X5_init.1
  obtain ⟨hx, hb, hml, hr, hlocks, hown, hts, hA, hin, hNw, hK, hfr, hlo, hRc, hRs⟩ := id Cx
  have hS : va_S A s.heap s.heap [] := va_S.rf
  refine N_obj (idx := 3) Cx (by decide) (lv_at hl 0 rfl) hl.1 (tb_1 112 (by decide +kernel) (by decide +kernel)) (tb_1 20 (by decide +kernel) (by decide +kernel)) (tb_1 21 (by decide +kernel) (by decide +kernel)) (hd 0 (.aload_n 0, 1) rfl) (hd 1 (.invokespecial 3, 3) rfl) ?_
  refine N_fld (at_ := .long) (t := 1) (n := 60) (pc2 := 7) (idx := 9) (j := 0) (a0 := (60, .inr (.inl (fun _ => 0)))) Cx rfl inX5 tyX5_ok nmX5 (by simp) (lv_at hl 0 rfl) (by decide) (tb_1 113 (by decide +kernel) (by decide +kernel)) rfl rfl (fun _ => rfl) (fun _ => rfl) (fun _ => rfl) rfl (by decide) (tb_1 132 (by decide +kernel) (by decide +kernel)) (by decide) (Nat.le_of_ble_eq_true rfl) (fun rest k => lv_bipush (v := nI 60) hx hb (hd 5 (.bipush 60, 2) rfl) (by decide) k) (hd 4 (.aload_n 0, 1) rfl) (hd 7 (.newarray .long, 2) rfl) (hd 9 (.putfield 9, 3) rfl) (Nat.le_of_ble_eq_true rfl) (Nat.le_of_ble_eq_true rfl) hP hD hS (fun q1 H locs hP hD hS => ?_)
  refine N_m1 (idx := 15) (j := 1) Cx rfl inX5 tyX5_ok nmX5 (by simp) (lv_at hl 0 rfl) (by decide) (tb_1 115 (by decide +kernel) (by decide +kernel)) rfl rfl (hd 12 (.aload_n 0, 1) rfl) (hd 13 (.iconst (-1), 1) rfl) (hd 14 (.putfield 15, 3) rfl) hP hD hS (fun H locs hP hD hS => ?_)
  refine N_m1 (idx := 19) (j := 2) Cx rfl inX5 tyX5_ok nmX5 (by simp) (lv_at hl 0 rfl) (by decide) (tb_1 117 (by decide +kernel) (by decide +kernel)) rfl rfl (hd 17 (.aload_n 0, 1) rfl) (hd 18 (.iconst (-1), 1) rfl) (hd 19 (.putfield 19, 3) rfl) hP hD hS (fun H locs hP hD hS => ?_)
  have hP : va_P D vwCl [(h, .inr (5, [.ref q1, .int (-1), .int (-1), .int 0])), (q1, .inl (cy 1, 60, .inr (.inl (fun _ => 0))))] _ := hP
  have hD : va_D A [(h, .inr (5, [.ref q1, .int (-1), .int (-1), .int 0])), (q1, .inl (cy 1, 60, .inr (.inl (fun _ => 0))))] := hD
  obtain ⟨r, hr0⟩ : ∃ r : Nat → Nat, r = (fun k => bif Nat.beq k 7 then h else bif Nat.beq k 8 then q1 else 0) := ⟨_, rfl⟩
  have ew : wl kS cy (fun k _ => r k) [(7, 0), (8, 0)] mem0X = [(h, .inr (5, [.ref q1, .int (-1), .int (-1), .int 0])), (q1, .inl (cy 1, 60, .inr (.inl (fun _ => 0))))] := by rw [hr0]; rfl
  refine W.vret hx hb hr (fun t ht hW => ⟨⟨r, rfl, by rw [hr0]; rfl, by rw [ht, ew]; exact hP, by rw [ew]; exact hD⟩, hS.F ht⟩) hS.2.2 (hd 22 (.return_, 1) rfl) hlocks
set_option maxHeartbeats 4000000 in
set_option maxRecDepth 20000 in
theorem K_DutyCheck (l : Launch) : Ctor l S_X0_init 2 0 0 0 23 [.int 0, .int 0] [(23, 0)] := by
  refine Ctor_of (by decide) (by decide) rfl ?_
  intro p e s m args below meth c D cy h A ls Cx hl hP hD
  have hd : ∀ pc q, gd 10 C_X0_init pc = some q → decode S_X0_init.2.1 pc = .ok q := Mok_X0_init.1
  obtain ⟨hx, hb, hml, hr, hlocks, hown, hts, hA, hin, hNw, hK, hfr, hlo, hRc, hRs⟩ := id Cx
  have hS : va_S A s.heap s.heap [] := va_S.rf
  refine N_obj (idx := 3) Cx (by decide) (lv_at hl 0 rfl) hl.1 (tb_1 98 (by decide +kernel) (by decide +kernel)) (tb_1 20 (by decide +kernel) (by decide +kernel)) (tb_1 21 (by decide +kernel) (by decide +kernel)) (hd 0 (.aload_n 0, 1) rfl) (hd 1 (.invokespecial 3, 3) rfl) ?_
  refine N_m1 (idx := 9) (j := 1) Cx rfl inX0 tyX0_ok nmX0 (by simp) (lv_at hl 0 rfl) (by decide) (tb_1 101 (by decide +kernel) (by decide +kernel)) rfl rfl (hd 4 (.aload_n 0, 1) rfl) (hd 5 (.iconst (-1), 1) rfl) (hd 6 (.putfield 9, 3) rfl) hP hD hS (fun H locs hP hD hS => ?_)
  have hP : va_P D vwCl [(h, .inr (0, [.int 0, .int (-1)]))] _ := hP
  have hD : va_D A [(h, .inr (0, [.int 0, .int (-1)]))] := hD
  obtain ⟨r, hr0⟩ : ∃ r : Nat → Nat, r = (fun k => bif Nat.beq k 23 then h else 0) := ⟨_, rfl⟩
  have ew : wl kS cy (fun k _ => r k) [(23, 0)] mem0X = [(h, .inr (0, [.int 0, .int (-1)]))] := by rw [hr0]; rfl
  refine W.vret hx hb hr (fun t ht hW => ⟨⟨r, rfl, by rw [hr0]; rfl, by rw [ht, ew]; exact hP, by rw [ew]; exact hD⟩, hS.F ht⟩) hS.2.2 (hd 9 (.return_, 1) rfl) hlocks
