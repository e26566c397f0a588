set_option maxHeartbeats 4000000 in
set_option maxRecDepth 20000 in
theorem law_loop {p : Program} {l : Launch} {e : Env} {s : State} {m : MethodId} {below : List Frame} {meth : Method} {c : Code} {D : va_G} {cy : Nat → ClassId} {ρ : Nat → Nat → Nat} {b L : Nat} {xs : Nat → Int32} (C : LCx p s m meth c D cy ρ b L xs) : ∀ (n a : Nat) (σx σm : Mem), L < a + n → a ≤ L + 6 → Rel σx σm → LJ p l e s m below meth c D cy ρ b 18 (nI a) [] σx σm := by
  obtain ⟨⟨hx, hb, hr, hml, hown, hts, hX, hbl, hlocks, hgv⟩, hK, hNw, hD, hL⟩ := id C
  intro n
  induction n with
  | zero =>
    intro a σx σm hn ha R H locs ls h1 h2 h3 hl
    refine lv_iload_n hx hb (dL_0 (18, .iload_n 3, 1) (List.mem_of_getElem? (i := 10) rfl)) rfl (lv_at hl 3 rfl) ?_
    refine lv_aload_n hx hb (dL_0 (19, .aload_n 0, 1) (List.mem_of_getElem? (i := 11) rfl)) rfl (lv_at hl 0 rfl) ?_
    refine va_slen hx hb hX hbl (A := AL s) (Nat.not_le.mpr hbl) h3 (dL_0 (20, .arraylength, 1) (List.mem_of_getElem? (i := 12) rfl)) ?_
    refine lv_bipush (v := nI 6) hx hb (dL_0 (21, .bipush 6, 2) (List.mem_of_getElem? (i := 13) rfl)) (by decide) ?_
    refine lv_isub hx hb (dL_0 (23, .isub, 1) (List.mem_of_getElem? (i := 14) rfl)) ?_
    refine lv_icmp_gt (tgt := 1200) hx hb (dL_0 (24, .if_icmp .gt 1176, 3) (List.mem_of_getElem? (i := 15) rfl)) (by decide) (fun _ => ?_) (fun c1 => ?_)
    · refine lv_iconst (v := 1) hx hb (dL_19 (1200, .iconst 1, 1) (List.mem_of_getElem? (i := 3) rfl)) (by decide) ?_
      refine va_forget (fun q hq => h3.2.2 q hq) ?_
      refine W.widen (k := 600000) (n := 7302250) (Nat.le_of_ble_eq_true rfl) (Nat.le_of_ble_eq_true rfl) ?_
      exact lw_ret hx hb hr hlocks (dL_19 (1201, .ireturn, 1) (List.mem_of_getElem? (i := 4) rfl))
    · exfalso
      rw [Int32.lt_iff_toInt_lt, show Int32.ofNat L = nI L from rfl, tI_sub (by omega) (by omega), nI_toInt (by omega)] at c1
      omega
  | succ n ih =>
    intro a σx σm hn ha R H locs ls h1 h2 h3 hl
    refine lv_iload_n hx hb (dL_0 (18, .iload_n 3, 1) (List.mem_of_getElem? (i := 10) rfl)) rfl (lv_at hl 3 rfl) ?_
    refine lv_aload_n hx hb (dL_0 (19, .aload_n 0, 1) (List.mem_of_getElem? (i := 11) rfl)) rfl (lv_at hl 0 rfl) ?_
    refine va_slen hx hb hX hbl (A := AL s) (Nat.not_le.mpr hbl) h3 (dL_0 (20, .arraylength, 1) (List.mem_of_getElem? (i := 12) rfl)) ?_
    refine lv_bipush (v := nI 6) hx hb (dL_0 (21, .bipush 6, 2) (List.mem_of_getElem? (i := 13) rfl)) (by decide) ?_
    refine lv_isub hx hb (dL_0 (23, .isub, 1) (List.mem_of_getElem? (i := 14) rfl)) ?_
    refine lv_icmp_gt (tgt := 1200) hx hb (dL_0 (24, .if_icmp .gt 1176, 3) (List.mem_of_getElem? (i := 15) rfl)) (by decide) (fun _ => ?_) (fun c1 => ?_)
    · refine lv_iconst (v := 1) hx hb (dL_19 (1200, .iconst 1, 1) (List.mem_of_getElem? (i := 3) rfl)) (by decide) ?_
      refine va_forget (fun q hq => h3.2.2 q hq) ?_
      refine W.widen (k := 600000) (n := 7302250) (Nat.le_of_ble_eq_true rfl) (Nat.le_of_ble_eq_true rfl) ?_
      exact lw_ret hx hb hr hlocks (dL_19 (1201, .ireturn, 1) (List.mem_of_getElem? (i := 4) rfl))
    · have h6 : a + 6 ≤ L := by
        rw [Int32.lt_iff_toInt_lt, show Int32.ofNat L = nI L from rfl, tI_sub (by omega) (by omega), nI_toInt (by omega)] at c1
        omega
      have next : ∀ sx sm, Rel sx sm → LJ p l e s m below meth c D cy ρ b 1194 (nI a) [] sx sm := by
        intro sx sm R1 H locs ls h1 h2 h3 hl
        refine lv_iinc (v := nI (a + 6)) (lv' := [(3, .int (nI (a + 6))), (0, .ref b), (1, .ref (ρ 0 0)), (2, .ref (ρ 30 0))]) hx hb (dL_19 (1194, .iinc 3 6, 3) (List.mem_of_getElem? (i := 1) rfl)) hl (k := 3) rfl (nI_add a 6) (by decide) rfl (fun ls hl => ?_)
        refine lv_goto (tgt := 18) hx hb (dL_19 (1197, .goto (-1179), 3) (List.mem_of_getElem? (i := 2) rfl)) (by decide) ?_
        exact ih (a + 6) sx sm (by omega) (by omega) R1 H locs ls h1 h2 h3 (lv_sub hl [1, 2, 3, 0] rfl)
      refine lv_aload_n hx hb (dL_0 (27, .aload_n 0, 1) (List.mem_of_getElem? (i := 16) rfl)) rfl (lv_at hl 0 rfl) ?_
      refine lv_iload_n hx hb (dL_0 (28, .iload_n 3, 1) (List.mem_of_getElem? (i := 17) rfl)) rfl (lv_at hl 3 rfl) ?_
      refine va_sld hx hb hX hbl (A := AL s) (Nat.not_le.mpr hbl) h3 (by rw [vp_nI (by omega)]; omega) (dL_0 (29, .iaload, 1) (List.mem_of_getElem? (i := 18) rfl)) ?_
      rw [nI_clamp (by omega)]
      refine lv_bipush (v := nI 31) hx hb (dL_0 (30, .bipush 31, 2) (List.mem_of_getElem? (i := 19) rfl)) (by decide) ?_
      refine lv_iand hx hb (dL_0 (32, .iand, 1) (List.mem_of_getElem? (i := 20) rfl)) ?_
      obtain ⟨w, _, ew⟩ := wb_of32 (xs a)
      obtain ⟨j, hj, ej⟩ : ∃ j, j < 32 ∧ xs a &&& nI 31 = nI j := ⟨w &&& 31, Nat.lt_succ_of_le Nat.and_le_right, by rw [ew, nx_and]⟩
      rcases (by omega : j = 0 ∨ j = 1 ∨ j = 2 ∨ j = 3 ∨ j = 4 ∨ j = 5 ∨ j = 6 ∨ j = 7 ∨ j = 8 ∨ j = 9 ∨ j = 10 ∨ j = 11 ∨ j = 12 ∨ j = 13 ∨ j = 14 ∨ j = 15 ∨ j = 16 ∨ j = 17 ∨ j = 18 ∨ j = 19 ∨ j = 20 ∨ j = 21 ∨ j = 22 ∨ j = 23 ∨ j = 24 ∨ j = 25 ∨ j = 26 ∨ j = 27 ∨ j = 28 ∨ 29 ≤ j) with rfl | rfl | rfl | rfl | rfl | rfl | rfl | rfl | rfl | rfl | rfl | rfl | rfl | rfl | rfl | rfl | rfl | rfl | rfl | rfl | rfl | rfl | rfl | rfl | rfl | rfl | rfl | rfl | rfl | hj29
      · exact lv_tableIn (off := 131) (tgt := 164) hx hb (dL_0 (33, .tableswitch 1161 0 28 #[131, 174, 217, 240, 303, 346, 419, 482, 516, 549, 572, 595, 628, 651, 684, 743, 756, 779, 832, 881, 904, 927, 950, 983, 1006, 1039, 1072, 1105, 1138], 131) (List.mem_of_getElem? (i := 21) rfl)) (by rw [ej, nI_toInt (by omega)]; omega) (by rw [ej, nI_toInt (by omega)]; omega) (by rw [ej, nI_toInt (by omega)]; rfl) (by decide) (Cs_place C h6 R next H locs ls h1 h2 h3 hl)
      · exact lv_tableIn (off := 174) (tgt := 207) hx hb (dL_0 (33, .tableswitch 1161 0 28 #[131, 174, 217, 240, 303, 346, 419, 482, 516, 549, 572, 595, 628, 651, 684, 743, 756, 779, 832, 881, 904, 927, 950, 983, 1006, 1039, 1072, 1105, 1138], 131) (List.mem_of_getElem? (i := 21) rfl)) (by rw [ej, nI_toInt (by omega)]; omega) (by rw [ej, nI_toInt (by omega)]; omega) (by rw [ej, nI_toInt (by omega)]; rfl) (by decide) (Cs_way C h6 R next H locs ls h1 h2 h3 hl)
      · exact lv_tableIn (off := 217) (tgt := 250) hx hb (dL_0 (33, .tableswitch 1161 0 28 #[131, 174, 217, 240, 303, 346, 419, 482, 516, 549, 572, 595, 628, 651, 684, 743, 756, 779, 832, 881, 904, 927, 950, 983, 1006, 1039, 1072, 1105, 1138], 131) (List.mem_of_getElem? (i := 21) rfl)) (by rw [ej, nI_toInt (by omega)]; omega) (by rw [ej, nI_toInt (by omega)]; omega) (by rw [ej, nI_toInt (by omega)]; rfl) (by decide) (Cs_folk C h6 R next H locs ls h1 h2 h3 hl)
      · exact lv_tableIn (off := 240) (tgt := 273) hx hb (dL_0 (33, .tableswitch 1161 0 28 #[131, 174, 217, 240, 303, 346, 419, 482, 516, 549, 572, 595, 628, 651, 684, 743, 756, 779, 832, 881, 904, 927, 950, 983, 1006, 1039, 1072, 1105, 1138], 131) (List.mem_of_getElem? (i := 21) rfl)) (by rw [ej, nI_toInt (by omega)]; omega) (by rw [ej, nI_toInt (by omega)]; omega) (by rw [ej, nI_toInt (by omega)]; rfl) (by decide) (Cs_meeting C h6 R next H locs ls h1 h2 h3 hl)
      · exact lv_tableIn (off := 303) (tgt := 336) hx hb (dL_0 (33, .tableswitch 1161 0 28 #[131, 174, 217, 240, 303, 346, 419, 482, 516, 549, 572, 595, 628, 651, 684, 743, 756, 779, 832, 881, 904, 927, 950, 983, 1006, 1039, 1072, 1105, 1138], 131) (List.mem_of_getElem? (i := 21) rfl)) (by rw [ej, nI_toInt (by omega)]; omega) (by rw [ej, nI_toInt (by omega)]; omega) (by rw [ej, nI_toInt (by omega)]; rfl) (by decide) (Cs_row C h6 R next H locs ls h1 h2 h3 hl)
      · exact lv_tableIn (off := 346) (tgt := 379) hx hb (dL_0 (33, .tableswitch 1161 0 28 #[131, 174, 217, 240, 303, 346, 419, 482, 516, 549, 572, 595, 628, 651, 684, 743, 756, 779, 832, 881, 904, 927, 950, 983, 1006, 1039, 1072, 1105, 1138], 131) (List.mem_of_getElem? (i := 21) rfl)) (by rw [ej, nI_toInt (by omega)]; omega) (by rw [ej, nI_toInt (by omega)]; omega) (by rw [ej, nI_toInt (by omega)]; rfl) (by decide) (Cs_set C h6 R next H locs ls h1 h2 h3 hl)
      · exact lv_tableIn (off := 419) (tgt := 452) hx hb (dL_0 (33, .tableswitch 1161 0 28 #[131, 174, 217, 240, 303, 346, 419, 482, 516, 549, 572, 595, 628, 651, 684, 743, 756, 779, 832, 881, 904, 927, 950, 983, 1006, 1039, 1072, 1105, 1138], 131) (List.mem_of_getElem? (i := 21) rfl)) (by rw [ej, nI_toInt (by omega)]; omega) (by rw [ej, nI_toInt (by omega)]; omega) (by rw [ej, nI_toInt (by omega)]; rfl) (by decide) (Cs_copy C h6 R next H locs ls h1 h2 h3 hl)
      · exact lv_tableIn (off := 482) (tgt := 515) hx hb (dL_0 (33, .tableswitch 1161 0 28 #[131, 174, 217, 240, 303, 346, 419, 482, 516, 549, 572, 595, 628, 651, 684, 743, 756, 779, 832, 881, 904, 927, 950, 983, 1006, 1039, 1072, 1105, 1138], 131) (List.mem_of_getElem? (i := 21) rfl)) (by rw [ej, nI_toInt (by omega)]; omega) (by rw [ej, nI_toInt (by omega)]; omega) (by rw [ej, nI_toInt (by omega)]; rfl) (by decide) (Cs_element C h6 R next H locs ls h1 h2 h3 hl)
      · exact lv_tableIn (off := 516) (tgt := 549) hx hb (dL_0 (33, .tableswitch 1161 0 28 #[131, 174, 217, 240, 303, 346, 419, 482, 516, 549, 572, 595, 628, 651, 684, 743, 756, 779, 832, 881, 904, 927, 950, 983, 1006, 1039, 1072, 1105, 1138], 131) (List.mem_of_getElem? (i := 21) rfl)) (by rw [ej, nI_toInt (by omega)]; omega) (by rw [ej, nI_toInt (by omega)]; omega) (by rw [ej, nI_toInt (by omega)]; rfl) (by decide) (Cs_show C h6 R next H locs ls h1 h2 h3 hl)
      · exact lv_tableIn (off := 549) (tgt := 582) hx hb (dL_0 (33, .tableswitch 1161 0 28 #[131, 174, 217, 240, 303, 346, 419, 482, 516, 549, 572, 595, 628, 651, 684, 743, 756, 779, 832, 881, 904, 927, 950, 983, 1006, 1039, 1072, 1105, 1138], 131) (List.mem_of_getElem? (i := 21) rfl)) (by rw [ej, nI_toInt (by omega)]; omega) (by rw [ej, nI_toInt (by omega)]; omega) (by rw [ej, nI_toInt (by omega)]; rfl) (by decide) (Cs_holds C h6 R next H locs ls h1 h2 h3 hl)
      · exact lv_tableIn (off := 572) (tgt := 605) hx hb (dL_0 (33, .tableswitch 1161 0 28 #[131, 174, 217, 240, 303, 346, 419, 482, 516, 549, 572, 595, 628, 651, 684, 743, 756, 779, 832, 881, 904, 927, 950, 983, 1006, 1039, 1072, 1105, 1138], 131) (List.mem_of_getElem? (i := 21) rfl)) (by rw [ej, nI_toInt (by omega)]; omega) (by rw [ej, nI_toInt (by omega)]; omega) (by rw [ej, nI_toInt (by omega)]; rfl) (by decide) (Cs_homeIn C h6 R next H locs ls h1 h2 h3 hl)
      · exact lv_tableIn (off := 595) (tgt := 628) hx hb (dL_0 (33, .tableswitch 1161 0 28 #[131, 174, 217, 240, 303, 346, 419, 482, 516, 549, 572, 595, 628, 651, 684, 743, 756, 779, 832, 881, 904, 927, 950, 983, 1006, 1039, 1072, 1105, 1138], 131) (List.mem_of_getElem? (i := 21) rfl)) (by rw [ej, nI_toInt (by omega)]; omega) (by rw [ej, nI_toInt (by omega)]; omega) (by rw [ej, nI_toInt (by omega)]; rfl) (by decide) (Cs_duties C h6 R next H locs ls h1 h2 h3 hl)
      · exact lv_tableIn (off := 628) (tgt := 661) hx hb (dL_0 (33, .tableswitch 1161 0 28 #[131, 174, 217, 240, 303, 346, 419, 482, 516, 549, 572, 595, 628, 651, 684, 743, 756, 779, 832, 881, 904, 927, 950, 983, 1006, 1039, 1072, 1105, 1138], 131) (List.mem_of_getElem? (i := 21) rfl)) (by rw [ej, nI_toInt (by omega)]; omega) (by rw [ej, nI_toInt (by omega)]; omega) (by rw [ej, nI_toInt (by omega)]; rfl) (by decide) (Cs_fault C h6 R next H locs ls h1 h2 h3 hl)
      · exact lv_tableIn (off := 651) (tgt := 684) hx hb (dL_0 (33, .tableswitch 1161 0 28 #[131, 174, 217, 240, 303, 346, 419, 482, 516, 549, 572, 595, 628, 651, 684, 743, 756, 779, 832, 881, 904, 927, 950, 983, 1006, 1039, 1072, 1105, 1138], 131) (List.mem_of_getElem? (i := 21) rfl)) (by rw [ej, nI_toInt (by omega)]; omega) (by rw [ej, nI_toInt (by omega)]; omega) (by rw [ej, nI_toInt (by omega)]; rfl) (by decide) (Cs_likes C h6 R next H locs ls h1 h2 h3 hl)
      · exact lv_tableIn (off := 684) (tgt := 717) hx hb (dL_0 (33, .tableswitch 1161 0 28 #[131, 174, 217, 240, 303, 346, 419, 482, 516, 549, 572, 595, 628, 651, 684, 743, 756, 779, 832, 881, 904, 927, 950, 983, 1006, 1039, 1072, 1105, 1138], 131) (List.mem_of_getElem? (i := 21) rfl)) (by rw [ej, nI_toInt (by omega)]; omega) (by rw [ej, nI_toInt (by omega)]; omega) (by rw [ej, nI_toInt (by omega)]; rfl) (by decide) (Cs_key C h6 R next H locs ls h1 h2 h3 hl)
      · exact lv_tableIn (off := 743) (tgt := 776) hx hb (dL_0 (33, .tableswitch 1161 0 28 #[131, 174, 217, 240, 303, 346, 419, 482, 516, 549, 572, 595, 628, 651, 684, 743, 756, 779, 832, 881, 904, 927, 950, 983, 1006, 1039, 1072, 1105, 1138], 131) (List.mem_of_getElem? (i := 21) rfl)) (by rw [ej, nI_toInt (by omega)]; omega) (by rw [ej, nI_toInt (by omega)]; omega) (by rw [ej, nI_toInt (by omega)]; rfl) (by decide) (Cs_begin C h6 R next H locs ls h1 h2 h3 hl)
      · exact lv_tableIn (off := 756) (tgt := 789) hx hb (dL_0 (33, .tableswitch 1161 0 28 #[131, 174, 217, 240, 303, 346, 419, 482, 516, 549, 572, 595, 628, 651, 684, 743, 756, 779, 832, 881, 904, 927, 950, 983, 1006, 1039, 1072, 1105, 1138], 131) (List.mem_of_getElem? (i := 21) rfl)) (by rw [ej, nI_toInt (by omega)]; omega) (by rw [ej, nI_toInt (by omega)]; omega) (by rw [ej, nI_toInt (by omega)]; rfl) (by decide) (Cs_tick C h6 R next H locs ls h1 h2 h3 hl)
      · exact lv_tableIn (off := 779) (tgt := 812) hx hb (dL_0 (33, .tableswitch 1161 0 28 #[131, 174, 217, 240, 303, 346, 419, 482, 516, 549, 572, 595, 628, 651, 684, 743, 756, 779, 832, 881, 904, 927, 950, 983, 1006, 1039, 1072, 1105, 1138], 131) (List.mem_of_getElem? (i := 21) rfl)) (by rw [ej, nI_toInt (by omega)]; omega) (by rw [ej, nI_toInt (by omega)]; omega) (by rw [ej, nI_toInt (by omega)]; rfl) (by decide) (Cs_bend C h6 R next H locs ls h1 h2 h3 hl)
      · exact lv_tableIn (off := 832) (tgt := 865) hx hb (dL_0 (33, .tableswitch 1161 0 28 #[131, 174, 217, 240, 303, 346, 419, 482, 516, 549, 572, 595, 628, 651, 684, 743, 756, 779, 832, 881, 904, 927, 950, 983, 1006, 1039, 1072, 1105, 1138], 131) (List.mem_of_getElem? (i := 21) rfl)) (by rw [ej, nI_toInt (by omega)]; omega) (by rw [ej, nI_toInt (by omega)]; omega) (by rw [ej, nI_toInt (by omega)]; rfl) (by decide) (Cs_lock C h6 R next H locs ls h1 h2 h3 hl)
      · exact lv_tableIn (off := 881) (tgt := 914) hx hb (dL_0 (33, .tableswitch 1161 0 28 #[131, 174, 217, 240, 303, 346, 419, 482, 516, 549, 572, 595, 628, 651, 684, 743, 756, 779, 832, 881, 904, 927, 950, 983, 1006, 1039, 1072, 1105, 1138], 131) (List.mem_of_getElem? (i := 21) rfl)) (by rw [ej, nI_toInt (by omega)]; omega) (by rw [ej, nI_toInt (by omega)]; omega) (by rw [ej, nI_toInt (by omega)]; rfl) (by decide) (Cs_again C h6 R next H locs ls h1 h2 h3 hl)
      · exact lv_tableIn (off := 904) (tgt := 937) hx hb (dL_0 (33, .tableswitch 1161 0 28 #[131, 174, 217, 240, 303, 346, 419, 482, 516, 549, 572, 595, 628, 651, 684, 743, 756, 779, 832, 881, 904, 927, 950, 983, 1006, 1039, 1072, 1105, 1138], 131) (List.mem_of_getElem? (i := 21) rfl)) (by rw [ej, nI_toInt (by omega)]; omega) (by rw [ej, nI_toInt (by omega)]; omega) (by rw [ej, nI_toInt (by omega)]; rfl) (by decide) (Cs_gone C h6 R next H locs ls h1 h2 h3 hl)
      · exact lv_tableIn (off := 927) (tgt := 960) hx hb (dL_0 (33, .tableswitch 1161 0 28 #[131, 174, 217, 240, 303, 346, 419, 482, 516, 549, 572, 595, 628, 651, 684, 743, 756, 779, 832, 881, 904, 927, 950, 983, 1006, 1039, 1072, 1105, 1138], 131) (List.mem_of_getElem? (i := 21) rfl)) (by rw [ej, nI_toInt (by omega)]; omega) (by rw [ej, nI_toInt (by omega)]; omega) (by rw [ej, nI_toInt (by omega)]; rfl) (by decide) (Cs_happen C h6 R next H locs ls h1 h2 h3 hl)
      · exact lv_tableIn (off := 950) (tgt := 983) hx hb (dL_0 (33, .tableswitch 1161 0 28 #[131, 174, 217, 240, 303, 346, 419, 482, 516, 549, 572, 595, 628, 651, 684, 743, 756, 779, 832, 881, 904, 927, 950, 983, 1006, 1039, 1072, 1105, 1138], 131) (List.mem_of_getElem? (i := 21) rfl)) (by rw [ej, nI_toInt (by omega)]; omega) (by rw [ej, nI_toInt (by omega)]; omega) (by rw [ej, nI_toInt (by omega)]; rfl) (by decide) (Cs_where C h6 R next H locs ls h1 h2 h3 hl)
      · exact lv_tableIn (off := 983) (tgt := 1016) hx hb (dL_0 (33, .tableswitch 1161 0 28 #[131, 174, 217, 240, 303, 346, 419, 482, 516, 549, 572, 595, 628, 651, 684, 743, 756, 779, 832, 881, 904, 927, 950, 983, 1006, 1039, 1072, 1105, 1138], 131) (List.mem_of_getElem? (i := 21) rfl)) (by rw [ej, nI_toInt (by omega)]; omega) (by rw [ej, nI_toInt (by omega)]; omega) (by rw [ej, nI_toInt (by omega)]; rfl) (by decide) (Cs_cost C h6 R next H locs ls h1 h2 h3 hl)
      · exact lv_tableIn (off := 1006) (tgt := 1039) hx hb (dL_0 (33, .tableswitch 1161 0 28 #[131, 174, 217, 240, 303, 346, 419, 482, 516, 549, 572, 595, 628, 651, 684, 743, 756, 779, 832, 881, 904, 927, 950, 983, 1006, 1039, 1072, 1105, 1138], 131) (List.mem_of_getElem? (i := 21) rfl)) (by rw [ej, nI_toInt (by omega)]; omega) (by rw [ej, nI_toInt (by omega)]; omega) (by rw [ej, nI_toInt (by omega)]; rfl) (by decide) (Cs_seated C h6 R next H locs ls h1 h2 h3 hl)
      · exact lv_tableIn (off := 1039) (tgt := 1072) hx hb (dL_0 (33, .tableswitch 1161 0 28 #[131, 174, 217, 240, 303, 346, 419, 482, 516, 549, 572, 595, 628, 651, 684, 743, 756, 779, 832, 881, 904, 927, 950, 983, 1006, 1039, 1072, 1105, 1138], 131) (List.mem_of_getElem? (i := 21) rfl)) (by rw [ej, nI_toInt (by omega)]; omega) (by rw [ej, nI_toInt (by omega)]; omega) (by rw [ej, nI_toInt (by omega)]; rfl) (by decide) (Cs_knows C h6 R next H locs ls h1 h2 h3 hl)
      · exact lv_tableIn (off := 1072) (tgt := 1105) hx hb (dL_0 (33, .tableswitch 1161 0 28 #[131, 174, 217, 240, 303, 346, 419, 482, 516, 549, 572, 595, 628, 651, 684, 743, 756, 779, 832, 881, 904, 927, 950, 983, 1006, 1039, 1072, 1105, 1138], 131) (List.mem_of_getElem? (i := 21) rfl)) (by rw [ej, nI_toInt (by omega)]; omega) (by rw [ej, nI_toInt (by omega)]; omega) (by rw [ej, nI_toInt (by omega)]; rfl) (by decide) (Cs_met C h6 R next H locs ls h1 h2 h3 hl)
      · exact lv_tableIn (off := 1105) (tgt := 1138) hx hb (dL_0 (33, .tableswitch 1161 0 28 #[131, 174, 217, 240, 303, 346, 419, 482, 516, 549, 572, 595, 628, 651, 684, 743, 756, 779, 832, 881, 904, 927, 950, 983, 1006, 1039, 1072, 1105, 1138], 131) (List.mem_of_getElem? (i := 21) rfl)) (by rw [ej, nI_toInt (by omega)]; omega) (by rw [ej, nI_toInt (by omega)]; omega) (by rw [ej, nI_toInt (by omega)]; rfl) (by decide) (Cs_far C h6 R next H locs ls h1 h2 h3 hl)
      · exact lv_tableIn (off := 1138) (tgt := 1171) hx hb (dL_0 (33, .tableswitch 1161 0 28 #[131, 174, 217, 240, 303, 346, 419, 482, 516, 549, 572, 595, 628, 651, 684, 743, 756, 779, 832, 881, 904, 927, 950, 983, 1006, 1039, 1072, 1105, 1138], 131) (List.mem_of_getElem? (i := 21) rfl)) (by rw [ej, nI_toInt (by omega)]; omega) (by rw [ej, nI_toInt (by omega)]; omega) (by rw [ej, nI_toInt (by omega)]; rfl) (by decide) (Cs_status C h6 R next H locs ls h1 h2 h3 hl)
      · exact lv_tableOut (tgt := 1194) hx hb (dL_0 (33, .tableswitch 1161 0 28 #[131, 174, 217, 240, 303, 346, 419, 482, 516, 549, 572, 595, 628, 651, 684, 743, 756, 779, 832, 881, 904, 927, 950, 983, 1006, 1039, 1072, 1105, 1138], 131) (List.mem_of_getElem? (i := 21) rfl)) (Or.inr (by rw [ej, nI_toInt (by omega)]; omega)) (by decide) (next σx σm R H locs ls h1 h2 h3 hl)
theorem lt_1 {w : Cond} (i : Nat) (h : tables_1_1[i]? = some w) : w ∈ lw_tbl := List.mem_append_right _ (List.mem_append_left _ (List.mem_of_getElem? h) : w ∈ tables_1)
theorem lt_2 {w : Cond} (i : Nat) (h : tables_1_2[i]? = some w) : w ∈ lw_tbl := List.mem_append_right _ (List.mem_append_right _ (List.mem_append_left _ (List.mem_of_getElem? h)) : w ∈ tables_1)
theorem lt_3 {w : Cond} (i : Nat) (h : tables_1_3[i]? = some w) : w ∈ lw_tbl := List.mem_append_right _ (List.mem_append_right _ (List.mem_append_right _ (List.mem_append_left _ (List.mem_of_getElem? h))) : w ∈ tables_1)
theorem lt_4 {w : Cond} (i : Nat) (h : tables_1_4[i]? = some w) : w ∈ lw_tbl := List.mem_append_right _ (List.mem_append_right _ (List.mem_append_right _ (List.mem_append_right _ (List.mem_append_left _ (List.mem_of_getElem? h)))) : w ∈ tables_1)
theorem lt_5 {w : Cond} (i : Nat) (h : tables_1_5[i]? = some w) : w ∈ lw_tbl := List.mem_append_right _ (List.mem_append_right _ (List.mem_append_right _ (List.mem_append_right _ (List.mem_append_right _ (List.mem_of_getElem? h)))) : w ∈ tables_1)
theorem nwf_in : ∀ q ∈ NWf, Cond.fieldLinkNest q.1 q.2.1 q.2.2.1 q.2.2.2.1 q.2.2.2.2.1 q.2.2.2.2.2 ∈ lw_tbl := List.forall_mem_cons.mpr ⟨lt_1 29 (by decide +kernel), List.forall_mem_cons.mpr ⟨lt_1 35 (by decide +kernel), List.forall_mem_cons.mpr ⟨lt_1 36 (by decide +kernel), List.forall_mem_cons.mpr ⟨lt_1 37 (by decide +kernel), List.forall_mem_cons.mpr ⟨lt_1 100 (by decide +kernel), List.forall_mem_cons.mpr ⟨lt_1 102 (by decide +kernel), List.forall_mem_cons.mpr ⟨lt_1 114 (by decide +kernel), List.forall_mem_cons.mpr ⟨lt_1 116 (by decide +kernel), List.forall_mem_cons.mpr ⟨lt_1 118 (by decide +kernel), List.forall_mem_cons.mpr ⟨lt_1 119 (by decide +kernel), List.forall_mem_cons.mpr ⟨lt_1 120 (by decide +kernel), List.forall_mem_cons.mpr ⟨lt_1 122 (by decide +kernel), List.forall_mem_cons.mpr ⟨lt_1 142 (by decide +kernel), List.forall_mem_cons.mpr ⟨lt_1 144 (by decide +kernel), List.forall_mem_cons.mpr ⟨lt_1 146 (by decide +kernel), List.forall_mem_cons.mpr ⟨lt_1 147 (by decide +kernel), List.forall_mem_cons.mpr ⟨lt_1 148 (by decide +kernel), List.forall_mem_cons.mpr ⟨lt_1 150 (by decide +kernel), List.forall_mem_cons.mpr ⟨lt_1 151 (by decide +kernel), List.forall_mem_cons.mpr ⟨lt_1 154 (by decide +kernel), List.forall_mem_cons.mpr ⟨lt_1 156 (by decide +kernel), List.forall_mem_cons.mpr ⟨lt_1 157 (by decide +kernel), List.forall_mem_cons.mpr ⟨lt_1 159 (by decide +kernel), List.forall_mem_cons.mpr ⟨lt_1 161 (by decide +kernel), List.forall_mem_cons.mpr ⟨lt_1 163 (by decide +kernel), List.forall_mem_cons.mpr ⟨lt_1 165 (by decide +kernel), List.forall_mem_cons.mpr ⟨lt_1 166 (by decide +kernel), List.forall_mem_cons.mpr ⟨lt_1 168 (by decide +kernel), List.forall_mem_cons.mpr ⟨lt_1 170 (by decide +kernel), List.forall_mem_cons.mpr ⟨lt_1 207 (by decide +kernel), List.forall_mem_cons.mpr ⟨lt_1 209 (by decide +kernel), List.forall_mem_cons.mpr ⟨lt_1 211 (by decide +kernel), List.forall_mem_cons.mpr ⟨lt_1 213 (by decide +kernel), List.forall_mem_cons.mpr ⟨lt_1 215 (by decide +kernel), List.forall_mem_cons.mpr ⟨lt_1 217 (by decide +kernel), List.forall_mem_cons.mpr ⟨lt_1 219 (by decide +kernel), fun _ h => absurd h List.not_mem_nil⟩⟩⟩⟩⟩⟩⟩⟩⟩⟩⟩⟩⟩⟩⟩⟩⟩⟩⟩⟩⟩⟩⟩⟩⟩⟩⟩⟩⟩⟩⟩⟩⟩⟩⟩⟩
theorem nwm_in : ∀ q ∈ NWm, Cond.methodLinkNest q.1 q.2.1 q.2.2.1 q.2.2.2 ∈ lw_tbl := List.forall_mem_cons.mpr ⟨lt_1 24 (by decide +kernel), List.forall_mem_cons.mpr ⟨lt_1 63 (by decide +kernel), List.forall_mem_cons.mpr ⟨lt_1 73 (by decide +kernel), List.forall_mem_cons.mpr ⟨lt_1 95 (by decide +kernel), List.forall_mem_cons.mpr ⟨lt_1 109 (by decide +kernel), List.forall_mem_cons.mpr ⟨lt_1 201 (by decide +kernel), List.forall_mem_cons.mpr ⟨lt_2 217 (by decide +kernel), List.forall_mem_cons.mpr ⟨lt_2 218 (by decide +kernel), List.forall_mem_cons.mpr ⟨lt_3 51 (by decide +kernel), fun _ h => absurd h List.not_mem_nil⟩⟩⟩⟩⟩⟩⟩⟩⟩
set_option maxRecDepth 100000 in
theorem wl_rho1 {cy : Nat → ClassId} {ρ1 ρ2 : Nat → Nat → Nat} : wl kS cy (fun k i => bif Nat.ble k 29 then ρ1 k i else ρ2 k i) IX mem0X = wl kS cy ρ1 IX mem0X := rfl
set_option maxRecDepth 100000 in
theorem wl_rho2 {cy : Nat → ClassId} {ρ1 ρ2 : Nat → Nat → Nat} : wl kS cy (fun k i => bif Nat.ble k 29 then ρ1 k i else ρ2 k i) IM mem1M = wl kS cy ρ2 IM mem1M := rfl
set_option maxHeartbeats 4000000 in
set_option maxRecDepth 20000 in
/-- the law, from its entry, for every script of at most 3072 ints -/
theorem whole_start {p : Program} {e : Env} {s : State} {m : MethodId} {below : List Frame} {meth : Method} {c : Code} (l : Launch) (hflags : l.flags = flags0) {b L : Nat} {xs : Nat → Int32} (hL : L ≤ 3072) (C0 : lw_At p s m meth c b L xs) : W p l e room_1 s m #[Value.ref b] below meth c s.heap [] 0 0 (lw_Z below #[Value.ref b] s) (entryFrame m ([Value.ref b] : List Value).toArray 4) := by
  obtain ⟨hx, hb, hr, hml, hown, hts, hX, hbl, hlocks, hgv⟩ := id C0
  have hT := tb_hts hts
  obtain ⟨cc0, ci0, kn0⟩ := u_known (C := RX0) (T := TX0) (N := 2) (n := 2) hT inX0 (hT _ (tb_1 94 (by decide +kernel) (by decide +kernel)))
  obtain ⟨cc1, ci1, kn1⟩ := u_known (C := RX1) (T := TX1) (N := 8) (n := 8) hT inX1 (hT _ (tb_1 200 (by decide +kernel) (by decide +kernel)))
  obtain ⟨cc2, ci2, kn2⟩ := u_known (C := RX2) (T := TX2) (N := 5) (n := 5) hT inX2 (hT _ (tb_1 72 (by decide +kernel) (by decide +kernel)))
  obtain ⟨cc3, ci3, kn3⟩ := u_known (C := RX3) (T := TX3) (N := 14) (n := 14) hT inX3 (hT _ (tb_1 133 (by decide +kernel) (by decide +kernel)))
  obtain ⟨cc4, ci4, kn4⟩ := u_known (C := RX4) (T := TX4) (N := 1) (n := 1) hT inX4 (hT _ (tb_1 62 (by decide +kernel) (by decide +kernel)))
  obtain ⟨cc5, ci5, kn5⟩ := u_known (C := RX5) (T := TX5) (N := 4) (n := 4) hT inX5 (hT _ (tb_1 108 (by decide +kernel) (by decide +kernel)))
  obtain ⟨cc6, ci6, kn6⟩ := u_known (C := RX6) (T := TX6) (N := 7) (n := 7) hT inX6 (hT _ (tb_1 23 (by decide +kernel) (by decide +kernel)))
  obtain ⟨cc7, ci7, kn7⟩ := u_known (C := RX7) (T := TX7) (N := 17) (n := 17) hT inX7 (hT _ (tb_1 15 (by decide +kernel) (by decide +kernel)))
  obtain ⟨cc8, ci8, kn8⟩ := u_known (C := RX8) (T := TX8) (N := 45) (n := 45) hT inX8 (hT _ (tb_3 232 (by decide +kernel) (by decide +kernel)))
  obtain ⟨dC, dI, hKc⟩ : ∃ (dC : Nat → ClassId) (dI : Nat → Nat → Nat), ∀ (k : Nat) (q : vw_C), vwCl[k]? = some q → u_Kn s q.1 q.2.1 q.2.2 (dC k) (dI k) := by
    refine ⟨fun k => if k = 0 then cc0 else if k = 1 then cc1 else if k = 2 then cc2 else if k = 3 then cc3 else if k = 4 then cc4 else if k = 5 then cc5 else if k = 6 then cc6 else if k = 7 then cc7 else cc8, fun k => if k = 0 then ci0 else if k = 1 then ci1 else if k = 2 then ci2 else if k = 3 then ci3 else if k = 4 then ci4 else if k = 5 then ci5 else if k = 6 then ci6 else if k = 7 then ci7 else ci8, ?_⟩
    intro k q hq
    match k, hq with
    | 0, hq => cases hq; exact kn0
    | 1, hq => cases hq; exact kn1
    | 2, hq => cases hq; exact kn2
    | 3, hq => cases hq; exact kn3
    | 4, hq => cases hq; exact kn4
    | 5, hq => cases hq; exact kn5
    | 6, hq => cases hq; exact kn6
    | 7, hq => cases hq; exact kn7
    | 8, hq => cases hq; exact kn8
    | k + 9, hq => simp [vwCl] at hq
  obtain ⟨a0, k0, p0, f0, g0, j0⟩ := Cond.arrayClass_spec (hT (.arrayClass .int) (tb_1 54 (by decide +kernel) (by decide +kernel)))
  obtain ⟨a1, k1, p1, f1, g1, j1⟩ := Cond.arrayClass_spec (hT (.arrayClass .long) (tb_1 132 (by decide +kernel) (by decide +kernel)))
  obtain ⟨a2, k2, p2, f2, g2, j2⟩ := Cond.arrayClass_spec (hT (.arrayClass .boolean) (tb_4 134 (by decide +kernel) (by decide +kernel)))
  have ao3 : va_AO "TownFolk$Shelf" s := va_AO.of (hts _ (lt_1 56 (by decide +kernel)))
  have ao4 : va_AO "TownFolk$Resident" s := va_AO.of (hts _ (lt_1 58 (by decide +kernel)))
  have ao5 : va_AO "TownFolk$Gathering" s := va_AO.of (hts _ (lt_1 60 (by decide +kernel)))
  obtain ⟨p3, a3, k3, f3, _, g3, j3, i3⟩ := Cond.arrayOver_spec ao3
  obtain ⟨p4, a4, k4, f4, _, g4, j4, i4⟩ := Cond.arrayOver_spec ao4
  obtain ⟨p5, a5, k5, f5, _, g5, j5, i5⟩ := Cond.arrayOver_spec ao5
  obtain ⟨cy, hcy⟩ : ∃ cy : Nat → ClassId, cy = fun t => if t = 0 then a0 else if t = 1 then a1 else if t = 2 then a2 else if t = 3 then a3 else if t = 4 then a4 else a5 := ⟨_, rfl⟩
  have hK : va_K (dC, dI) vwCl (tysOf cy) s := by
    refine ⟨hKc, fun k q hq => ?_⟩
    rw [hcy] at hq
    match k, hq with
    | 0, hq => cases hq; exact ⟨fun n z => ⟨fun k h => (by cases h), k0, g0, p0, j0⟩, f0⟩
    | 1, hq => cases hq; exact ⟨fun n z => ⟨fun k h => (by cases h), k1, g1, p1, j1⟩, f1⟩
    | 2, hq => cases hq; exact ⟨fun n z => ⟨fun k h => (by cases h), k2, g2, p2, j2⟩, f2⟩
    | 3, hq => cases hq; exact ⟨fun n z => ⟨fun k h => (by cases h), k3, g3, p3, j3⟩, k3, p3, g3, j3, f3, i3⟩
    | 4, hq => cases hq; exact ⟨fun n z => ⟨fun k h => (by cases h), k4, g4, p4, j4⟩, k4, p4, g4, j4, f4, i4⟩
    | 5, hq => cases hq; exact ⟨fun n z => ⟨fun k h => (by cases h), k5, g5, p5, j5⟩, k5, p5, g5, j5, f5, i5⟩
    | k + 6, hq => simp [tysOf] at hq
  have hNw : NwOK s := ⟨fun q hq => va_Nw.of rfl (hts _ (nwf_in q hq)), fun q hq => va_Nw.of rfl (hts _ (nwm_in q hq))⟩
  have hA : ∀ q : Nat, s.heap.size ≤ q → AL s q := fun q h => h
  have hS : va_S (AL s) s.heap s.heap [] := va_S.rf
  have hP : va_P (dC, dI) vwCl [] s.heap := fun k q h => by simp at h
  have hD : va_D (AL s) [] := ⟨fun i j p q h => by simp at h, fun k q h => by simp at h⟩
  have hl := lv_entry ([.ref b]) (n := 4) (Nat.le_of_ble_eq_true rfl)
  rw [lg_entry_eq]
  generalize (lg_sl ([.ref b]) ++ List.replicate (4 - (lg_sl ([.ref b])).length) Slot.unset).toArray = ls at hl ⊢
  have hl : lv_has ls 4 [(0, .ref b)] := hl
  refine va_new (ci := 7) (fs := [.null, .null, .null, .null, .null, .null, .null, .null, .null, .int 0, .int 0, .int 0, .int 0, .int 0, .int 0, .int 0, .int 0]) hx hb hT inX7 tyX7 tyX7_ok hown (hT _ (tb_1 14 (by decide +kernel) (by decide +kernel))) (hT _ (tb_1 15 (by decide +kernel) (by decide +kernel))) (hT _ (tb_1 1 (by decide +kernel) (by decide +kernel))) hK hP hD hS hA rfl (fun j hj => by rcases (by omega : j = 0 ∨ j = 1 ∨ j = 2 ∨ j = 3 ∨ j = 4 ∨ j = 5 ∨ j = 6 ∨ j = 7 ∨ j = 8 ∨ j = 9 ∨ j = 10 ∨ j = 11 ∨ j = 12 ∨ j = 13 ∨ j = 14 ∨ j = 15 ∨ j = 16) with rfl | rfl | rfl | rfl | rfl | rfl | rfl | rfl | rfl | rfl | rfl | rfl | rfl | rfl | rfl | rfl | rfl <;> rfl) (Nat.le_of_ble_eq_true rfl) (Nat.le_of_ble_eq_true rfl) (dL_0 (0, .new 7, 3) (List.mem_of_getElem? (i := 0) rfl)) (fun q1 H hP hD hS => ?_)
  refine lv_dup hx hb (dL_0 (3, .dup, 1) (List.mem_of_getElem? (i := 1) rfl)) rfl ?_
  refine W_ctor (rest := [.ref q1]) (K_Main l) hx hb hml hown hT hK hNw (fun _ => ⟨ao3, ao4, ao5⟩) hA (tb_1 18 (by decide +kernel) (by decide +kernel)) (tb_1 1 (by decide +kernel) (by decide +kernel)) (tb_1 17 (by decide +kernel) (by decide +kernel)) rfl (by decide +kernel) (by decide) (Or.inl (hT _ (tb_1 16 (by decide +kernel) (by decide +kernel)))) (by decide) (by decide) (Nat.le_of_ble_eq_true rfl) (Nat.le_of_ble_eq_true rfl) (dL_0 (4, .invokespecial 9, 3) (List.mem_of_getElem? (i := 2) rfl)) hl.1 (Nat.le_of_ble_eq_true rfl) hP hD hS (fun ρ1 H locs hρ1 hP hD hS => ?_)
  refine lv_astore_n (lv' := [(1, .ref q1), (0, .ref b)]) hx hb (dL_0 (7, .astore_n 1, 1) (List.mem_of_getElem? (i := 3) rfl)) rfl hl (by decide) rfl (fun ls hl => ?_)
  have hP : va_P (dC, dI) vwCl (wl kS cy ρ1 IX mem0X) H := hP
  have hD : va_D (AL s) (wl kS cy ρ1 IX mem0X) := hD
  refine va_new (ci := 8) (fs := [.null, .int 0, .int 0, .int 0, .int 0, .int 0, .null, .null, .null, .null, .int 0, .null, .null, .int 0, .null, .null, .null, .null, .null, .null, .null, .null, .null, .null, .null, .int 0, .null, .null, .null, .null, .null, .int 0, .null, .null, .null, .null, .null, .null, .null, .int 0, .int 0, .null, .null, .null, .null]) hx hb hT inX8 tyX8 tyX8_ok hown (hT _ (tb_3 231 (by decide +kernel) (by decide +kernel))) (hT _ (tb_3 232 (by decide +kernel) (by decide +kernel))) (hT _ (tb_1 10 (by decide +kernel) (by decide +kernel))) hK hP hD hS hA rfl (fun j hj => by rcases (by omega : j = 0 ∨ j = 1 ∨ j = 2 ∨ j = 3 ∨ j = 4 ∨ j = 5 ∨ j = 6 ∨ j = 7 ∨ j = 8 ∨ j = 9 ∨ j = 10 ∨ j = 11 ∨ j = 12 ∨ j = 13 ∨ j = 14 ∨ j = 15 ∨ j = 16 ∨ j = 17 ∨ j = 18 ∨ j = 19 ∨ j = 20 ∨ j = 21 ∨ j = 22 ∨ j = 23 ∨ j = 24 ∨ j = 25 ∨ j = 26 ∨ j = 27 ∨ j = 28 ∨ j = 29 ∨ j = 30 ∨ j = 31 ∨ j = 32 ∨ j = 33 ∨ j = 34 ∨ j = 35 ∨ j = 36 ∨ j = 37 ∨ j = 38 ∨ j = 39 ∨ j = 40 ∨ j = 41 ∨ j = 42 ∨ j = 43 ∨ j = 44) with rfl | rfl | rfl | rfl | rfl | rfl | rfl | rfl | rfl | rfl | rfl | rfl | rfl | rfl | rfl | rfl | rfl | rfl | rfl | rfl | rfl | rfl | rfl | rfl | rfl | rfl | rfl | rfl | rfl | rfl | rfl | rfl | rfl | rfl | rfl | rfl | rfl | rfl | rfl | rfl | rfl | rfl | rfl | rfl | rfl <;> rfl) (Nat.le_of_ble_eq_true rfl) (Nat.le_of_ble_eq_true rfl) (dL_0 (8, .new 10, 3) (List.mem_of_getElem? (i := 4) rfl)) (fun q2 H hP hD hS => ?_)
  refine lv_dup hx hb (dL_0 (11, .dup, 1) (List.mem_of_getElem? (i := 5) rfl)) rfl ?_
  refine W_ctor (rest := [.ref q2]) (K_Model l) hx hb hml hown hT hK hNw (fun h => by cases h) hA (tb_3 235 (by decide +kernel) (by decide +kernel)) (tb_1 10 (by decide +kernel) (by decide +kernel)) (tb_3 234 (by decide +kernel) (by decide +kernel)) rfl (by decide +kernel) (by decide) (Or.inl (hT _ (tb_3 233 (by decide +kernel) (by decide +kernel)))) (by decide) (by decide) (Nat.le_of_ble_eq_true rfl) (Nat.le_of_ble_eq_true rfl) (dL_0 (12, .invokespecial 12, 3) (List.mem_of_getElem? (i := 6) rfl)) hl.1 (Nat.le_of_ble_eq_true rfl) hP hD hS (fun ρ2 H locs hρ2 hP hD hS => ?_)
  refine lv_astore_n (lv' := [(2, .ref q2), (1, .ref q1), (0, .ref b)]) hx hb (dL_0 (15, .astore_n 2, 1) (List.mem_of_getElem? (i := 7) rfl)) rfl hl (by decide) rfl (fun ls hl => ?_)
  refine lv_iconst (v := nI 0) hx hb (dL_0 (16, .iconst 0, 1) (List.mem_of_getElem? (i := 8) rfl)) (by decide) ?_
  refine lv_istore_n (lv' := [(3, .int (nI 0)), (2, .ref q2), (1, .ref q1), (0, .ref b)]) hx hb (dL_0 (17, .istore_n 3, 1) (List.mem_of_getElem? (i := 9) rfl)) rfl hl (by decide) rfl (fun ls hl => ?_)
  rw [← wl_rho1 (ρ1 := ρ1) (ρ2 := ρ2), ← wl_rho2 (ρ1 := ρ1) (ρ2 := ρ2)] at hP hD
  obtain ⟨ρ, hρ⟩ : ∃ ρ : Nat → Nat → Nat, ρ = fun k i => bif Nat.ble k 29 then ρ1 k i else ρ2 k i := ⟨_, rfl⟩
  rw [← hρ] at hP hD
  have r0 : ρ 0 0 = q1 := by rw [hρ]; exact hρ1
  have r30 : ρ 30 0 = q2 := by rw [hρ]; exact hρ2
  have hDz : va_D (AL s) (wl kS cy ρ IX mem0X ++ wl kS cy ρ IM mem0X) := vD_addr (by simp only [List.map_append, wl_fst]) hD
  have C : LCx p s m meth c (dC, dI) cy ρ b L xs := ⟨C0, hK, hNw, hDz, hL⟩
  have hl2 : lv_has ls 4 [(0, .ref b), (1, .ref (ρ 0 0)), (2, .ref (ρ 30 0)), (3, .int (nI 0))] := by
    rw [r0, r30]
    exact lv_sub hl [3, 2, 1, 0] rfl
  exact law_loop C (L + 1) 0 mem0X mem1M (by omega) (by omega) R_init H locs ls (vP_app.mp hP).1 (vP_app.mp hP).2 hS hl2
