set_option maxRecDepth 10000 in
theorem r_L_acts_0 {d : Nat} {p1 : Int32} {σ : Mem} {Q : Option AV → Mem → Prop} (h :
  CalI IX d S_X7_status [ar 0 0, ai 0] σ (fun r2 σ1 =>
  CalI IX d S_X7_status [ar 0 0, ai 2] σ1 (fun r4 σ3 =>
  ¬ r4 = 0 ∧
  ¬ r2 = 0 ∧
  ((Int32.toInt (p1 &&& 7) < 0 ∨ 6 < Int32.toInt (p1 &&& 7) →
  ((¬ ((p1 >>> ((14 : Int32) &&& 31)) &&& 3) = 3 →
    ((¬ ((p1 >>> ((14 : Int32) &&& 31)) &&& 1) = 1 →
      CalI IX d S_X7_key [ar 0 0, ai (((p1 >>> ((3 : Int32) &&& 31)) &&& 7) - ((p1 >>> ((3 : Int32) &&& 31)) &&& 7) / r4 * r4), ai (((p1 >>> ((6 : Int32) &&& 31)) &&& 7) - ((p1 >>> ((6 : Int32) &&& 31)) &&& 7) / r2 * r2), ai 0] σ3 (fun r6 σ5 =>
        Q none σ5)) ∧
      (((p1 >>> ((14 : Int32) &&& 31)) &&& 1) = 1 →
      CalI IX d S_X7_key [ar 0 0, ai (((p1 >>> ((3 : Int32) &&& 31)) &&& 7) - ((p1 >>> ((3 : Int32) &&& 31)) &&& 7) / r4 * r4), ai (((p1 >>> ((6 : Int32) &&& 31)) &&& 7) - ((p1 >>> ((6 : Int32) &&& 31)) &&& 7) / r2 * r2), ai 1] σ3 (fun r8 σ7 =>
        Q none σ7)))) ∧
    (((p1 >>> ((14 : Int32) &&& 31)) &&& 3) = 3 →
    CalI IX d S_X7_gone [ar 0 0, ai (((p1 >>> ((3 : Int32) &&& 31)) &&& 7) - ((p1 >>> ((3 : Int32) &&& 31)) &&& 7) / r4 * r4)] σ3 (fun r10 σ9 =>
      Q none σ9)))) ∧
  (Int32.toInt (p1 &&& 7) = 0 →
  CalI IX d S_X7_tick [ar 0 0, ai (1 + ((p1 >>> ((14 : Int32) &&& 31)) &&& 7))] σ3 (fun r12 σ11 =>
    Q none σ11)) ∧
  (Int32.toInt (p1 &&& 7) = 1 →
  CalI IX d S_X7_tick [ar 0 0, ai (1 + ((p1 >>> ((14 : Int32) &&& 31)) &&& 7))] σ3 (fun r14 σ13 =>
    Q none σ13)) ∧
  (Int32.toInt (p1 &&& 7) = 2 →
  CalI IX d S_X7_bend [ar 0 0, ai (((p1 >>> ((3 : Int32) &&& 31)) &&& 7) - ((p1 >>> ((3 : Int32) &&& 31)) &&& 7) / r4 * r4), ai (((p1 >>> ((6 : Int32) &&& 31)) &&& 7) - ((p1 >>> ((6 : Int32) &&& 31)) &&& 7) / r2 * r2), ai ((p1 >>> ((9 : Int32) &&& 31)) &&& 31), ai ((((p1 >>> ((9 : Int32) &&& 31)) &&& 31) + 1) + ((p1 >>> ((14 : Int32) &&& 31)) &&& 15))] σ3 (fun r16 σ15 =>
    Q none σ15)) ∧
  (Int32.toInt (p1 &&& 7) = 3 →
  CalI IX d S_X7_bend [ar 0 0, ai (((p1 >>> ((3 : Int32) &&& 31)) &&& 7) - ((p1 >>> ((3 : Int32) &&& 31)) &&& 7) / r4 * r4), ai (((p1 >>> ((6 : Int32) &&& 31)) &&& 7) - ((p1 >>> ((6 : Int32) &&& 31)) &&& 7) / r2 * r2), ai ((p1 >>> ((9 : Int32) &&& 31)) &&& 31), ai ((((p1 >>> ((9 : Int32) &&& 31)) &&& 31) + 1) + ((p1 >>> ((14 : Int32) &&& 31)) &&& 15))] σ3 (fun r18 σ17 =>
    Q none σ17)) ∧
  (Int32.toInt (p1 &&& 7) = 4 →
  ((¬ ((p1 >>> ((14 : Int32) &&& 31)) &&& 1) = 1 →
    CalI IX d S_X7_lock [ar 0 0, ai (((p1 >>> ((6 : Int32) &&& 31)) &&& 7) - ((p1 >>> ((6 : Int32) &&& 31)) &&& 7) / r2 * r2), ai 0] σ3 (fun r20 σ19 =>
      Q none σ19)) ∧
    (((p1 >>> ((14 : Int32) &&& 31)) &&& 1) = 1 →
    CalI IX d S_X7_lock [ar 0 0, ai (((p1 >>> ((6 : Int32) &&& 31)) &&& 7) - ((p1 >>> ((6 : Int32) &&& 31)) &&& 7) / r2 * r2), ai 1] σ3 (fun r22 σ21 =>
      Q none σ21)))) ∧
  (Int32.toInt (p1 &&& 7) = 5 →
  CalI IX d S_X7_again [ar 0 0, ai (((p1 >>> ((3 : Int32) &&& 31)) &&& 7) - ((p1 >>> ((3 : Int32) &&& 31)) &&& 7) / r4 * r4)] σ3 (fun r24 σ23 =>
    Q none σ23)) ∧
  (Int32.toInt (p1 &&& 7) = 6 →
  CalI IX d S_X7_happen [ar 0 0, ai (((p1 >>> ((6 : Int32) &&& 31)) &&& 7) - ((p1 >>> ((6 : Int32) &&& 31)) &&& 7) / r2 * r2)] σ3 (fun r26 σ25 =>
    Q none σ25)) ∧ True)))) :
  Cal IX (d + 1) S_L_acts [ar 0 0, ai p1] σ Q := Cal_of (M := M_L_acts) Sok_L_acts (by decide +kernel) rfl (wp_J oki_X Mok_L_acts (cuts := []) 400 0 _ [] σ h)
set_option maxRecDepth 10000 in
theorem r_L_build_8 {d : Nat}  {σ : Mem} {Q : Option AV → Mem → Prop} (h :
  (¬ (0 : Int32) < 0 ∧
  ∀ r1 : Int32, J IX M_L_build (d + 1) 20 [(0, ar 29 0), (1, ar 0 0), (2, ai (2 + (r1 &&& 3))), (3, ai 0)] [] σ Q)) :
  J IX M_L_build (d + 1) 8 [(0, ar 29 0), (1, ar 0 0)] [] σ Q := wp_J oki_X Mok_L_build (cuts := [(8, [0, 1]), (20, [0, 1, 2, 3]), (140, [0, 1, 2, 3, 4])]) 400 8 _ [] σ h
set_option maxRecDepth 10000 in
theorem r_L_build_20 {d : Nat} {v2 : Int32} {v3 : Int32} {σ : Mem} {Q : Option AV → Mem → Prop} (h :
  ((v2 ≤ v3 →
  (¬ (0 : Int32) < 0 ∧
    ∀ r2 : Int32, CalI IX d S_X7_way [ar 0 0, ai 0, ai (v2 - 1), ai (1 + ((r2 >>> ((2 : Int32) &&& 31)) &&& 7))] σ (fun r4 σ3 =>
    (¬ (0 : Int32) < 0 ∧
    ∀ r5 : Int32, ¬ (3 : Int32) = 0 ∧
    J IX M_L_build (d + 1) 140 [(0, ar 29 0), (1, ar 0 0), (2, ai v2), (3, ai (2 + (((r5 >>> ((5 : Int32) &&& 31)) &&& 3) - ((r5 >>> ((5 : Int32) &&& 31)) &&& 3) / 3 * 3))), (4, ai 0)] [] σ3 Q)))) ∧
  (¬ v2 ≤ v3 →
  (¬ (1 + v3) < 0 ∧
    ∀ r6 : Int32, CalI IX d S_X7_place [ar 0 0, ai (1 + ((r6 >>> ((5 : Int32) &&& 31)) &&& 1)), ai (r6 &&& 31), ai (if (((r6 &&& 31) + 1) + ((r6 >>> ((6 : Int32) &&& 31)) &&& 63)) < 48 then (((r6 &&& 31) + 1) + ((r6 >>> ((6 : Int32) &&& 31)) &&& 63)) else 48)] σ (fun r8 σ7 =>
    ((v3 ≤ 0 →
    J IX M_L_build (d + 1) 20 [(0, ar 29 0), (1, ar 0 0), (2, ai v2), (3, ai (v3 + 1))] [] σ7 Q) ∧
    (¬ v3 ≤ 0 →
    CalI IX d S_X7_way [ar 0 0, ai (v3 - 1), ai v3, ai (1 + ((r6 >>> ((12 : Int32) &&& 31)) &&& 3))] σ7 (fun r10 σ9 =>
      J IX M_L_build (d + 1) 20 [(0, ar 29 0), (1, ar 0 0), (2, ai v2), (3, ai (v3 + 1))] [] σ9 Q)))))))) :
  J IX M_L_build (d + 1) 20 [(0, ar 29 0), (1, ar 0 0), (2, ai v2), (3, ai v3)] [] σ Q := wp_J oki_X Mok_L_build (cuts := [(8, [0, 1]), (20, [0, 1, 2, 3]), (140, [0, 1, 2, 3, 4])]) 400 20 _ [] σ h
set_option maxRecDepth 10000 in
theorem r_L_build_140 {d : Nat} {v2 : Int32} {v3 : Int32} {v4 : Int32} {σ : Mem} {Q : Option AV → Mem → Prop} (h :
  ((v3 ≤ v4 →
  (¬ (10 : Int32) < 0 ∧
    ∀ r11 : Int32, ¬ v2 = 0 ∧
    CalI IX d S_X7_meeting [ar 0 0, ai 3, ai ((r11 &&& 7) - (r11 &&& 7) / v2 * v2), ai ((r11 >>> ((3 : Int32) &&& 31)) &&& 31), ai ((((r11 >>> ((3 : Int32) &&& 31)) &&& 31) + 1) + ((r11 >>> ((8 : Int32) &&& 31)) &&& 7)), ai (1 + ((r11 >>> ((11 : Int32) &&& 31)) &&& 63))] σ (fun r13 σ12 =>
    CalI IX d S_X7_begin [ar 0 0] σ12 (fun r15 σ14 =>
    Q (some (ar 0 0)) σ14)))) ∧
  (¬ v3 ≤ v4 →
  (¬ (6 + v4) < 0 ∧
    ∀ r16 : Int32, ¬ v2 = 0 ∧
    CalI IX d S_X7_folk [ar 0 0, ai ((r16 &&& 7) - (r16 &&& 7) / v2 * v2)] σ (fun r18 σ17 =>
    ¬ v2 = 0 ∧
    (((r16 &&& 64) = 0 →
    CalI IX d S_X7_key [ar 0 0, ai v4, ai (((r16 >>> ((3 : Int32) &&& 31)) &&& 7) - ((r16 >>> ((3 : Int32) &&& 31)) &&& 7) / v2 * v2), ai 0] σ17 (fun r20 σ19 =>
      CalI IX d S_X7_row [ar 0 0, ai 0, ai 2, ai 4] σ19 (fun r22 σ21 =>
      ¬ v2 = 0 ∧
      CalI IX d S_X7_set [ar 0 0, ai 0, ai 0, al (Int32.toInt64 (((r16 >>> ((12 : Int32) &&& 31)) &&& 7) - ((r16 >>> ((12 : Int32) &&& 31)) &&& 7) / v2 * v2))] σ21 (fun r24 σ23 =>
      CalI IX d S_X7_set [ar 0 0, ai 0, ai 1, al (Int32.toInt64 ((r16 >>> ((7 : Int32) &&& 31)) &&& 31))] σ23 (fun r26 σ25 =>
      CalI IX d S_X7_set [ar 0 0, ai 0, ai 2, al (Int32.toInt64 ((((r16 >>> ((7 : Int32) &&& 31)) &&& 31) + 1) + ((r16 >>> ((15 : Int32) &&& 31)) &&& 15)))] σ25 (fun r28 σ27 =>
      CalI IX d S_X7_set [ar 0 0, ai 0, ai 3, al (Int32.toInt64 (1 + ((r16 >>> ((19 : Int32) &&& 31)) &&& 63)))] σ27 (fun r30 σ29 =>
      CalI IX d S_X7_duties [ar 0 0, ai v4, ai 0] σ29 (fun r32 σ31 =>
      J IX M_L_build (d + 1) 140 [(0, ar 29 0), (1, ar 0 0), (2, ai v2), (3, ai v3), (4, ai (v4 + 1))] [] σ31 Q)))))))) ∧
    (¬ (r16 &&& 64) = 0 →
    CalI IX d S_X7_key [ar 0 0, ai v4, ai (((r16 >>> ((3 : Int32) &&& 31)) &&& 7) - ((r16 >>> ((3 : Int32) &&& 31)) &&& 7) / v2 * v2), ai 1] σ17 (fun r34 σ33 =>
      CalI IX d S_X7_row [ar 0 0, ai 0, ai 2, ai 4] σ33 (fun r36 σ35 =>
      ¬ v2 = 0 ∧
      CalI IX d S_X7_set [ar 0 0, ai 0, ai 0, al (Int32.toInt64 (((r16 >>> ((12 : Int32) &&& 31)) &&& 7) - ((r16 >>> ((12 : Int32) &&& 31)) &&& 7) / v2 * v2))] σ35 (fun r38 σ37 =>
      CalI IX d S_X7_set [ar 0 0, ai 0, ai 1, al (Int32.toInt64 ((r16 >>> ((7 : Int32) &&& 31)) &&& 31))] σ37 (fun r40 σ39 =>
      CalI IX d S_X7_set [ar 0 0, ai 0, ai 2, al (Int32.toInt64 ((((r16 >>> ((7 : Int32) &&& 31)) &&& 31) + 1) + ((r16 >>> ((15 : Int32) &&& 31)) &&& 15)))] σ39 (fun r42 σ41 =>
      CalI IX d S_X7_set [ar 0 0, ai 0, ai 3, al (Int32.toInt64 (1 + ((r16 >>> ((19 : Int32) &&& 31)) &&& 63)))] σ41 (fun r44 σ43 =>
      CalI IX d S_X7_duties [ar 0 0, ai v4, ai 0] σ43 (fun r46 σ45 =>
      J IX M_L_build (d + 1) 140 [(0, ar 29 0), (1, ar 0 0), (2, ai v2), (3, ai v3), (4, ai (v4 + 1))] [] σ45 Q)))))))))))))) :
  J IX M_L_build (d + 1) 140 [(0, ar 29 0), (1, ar 0 0), (2, ai v2), (3, ai v3), (4, ai v4)] [] σ Q := wp_J oki_X Mok_L_build (cuts := [(8, [0, 1]), (20, [0, 1, 2, 3]), (140, [0, 1, 2, 3, 4])]) 400 140 _ [] σ h
set_option maxRecDepth 10000 in
theorem r_L_law_17 {d : Nat} {v2 : Int32} {σ : Mem} {Q : Option AV → Mem → Prop} (h :
  J IY M_L_law (d + 1) 20 [(0, ar 29 0), (1, ar 0 0), (2, ai v2), (3, ar 62 0), (4, ai 0)] [] σ Q) :
  J IY M_L_law (d + 1) 17 [(0, ar 29 0), (1, ar 0 0), (2, ai v2), (3, ar 62 0)] [] σ Q := wp_J oki_Y Mok_L_law (cuts := [(17, [0, 1, 2, 3]), (20, [0, 1, 2, 3, 4]), (84, [0, 1, 2, 3, 4, 5, 6, 7, 8, 9]), (93, [0, 1, 2, 3, 4, 5, 6, 7, 8, 9, 10]), (162, [0, 1, 2, 3, 4, 6, 7, 8, 9, 10]), (200, [0, 1, 2, 3, 4, 6, 7, 8, 9, 10, 11, 12]), (249, [0, 1, 2, 3, 4, 6, 7, 8, 9, 10, 11, 12])]) 400 17 _ [] σ h
set_option maxRecDepth 10000 in
theorem r_L_law_20 {d : Nat} {v2 : Int32} {v4 : Int32} {σ : Mem} {Q : Option AV → Mem → Prop} (h :
  ((24 ≤ v4 →
  ((1 : Int32) = 0 ∨ (1 : Int32) = 1) ∧ Q (some (ai 1)) σ) ∧
  (¬ 24 ≤ v4 →
  ¬ (40 : Int32) = 0 ∧
    (¬ (11 + (v4 - v4 / 40 * 40)) < 0 ∧
    ∀ r1 : Int32, CalI IY d S_X7_status [ar 0 0, ai 2] σ (fun r3 σ2 =>
    ¬ r3 = 0 ∧
    ¬ v2 = 0 ∧
    CalI IY d S_X7_status [ar 0 0, ai 5] σ2 (fun r5 σ4 =>
    J IY M_L_law (d + 1) 84 [(0, ar 29 0), (1, ar 0 0), (2, ai v2), (3, ar 62 0), (4, ai v4), (5, ai (r1 + (77 * v4))), (6, ai ((((r1 + (77 * v4)) >>> ((3 : Int32) &&& 31)) &&& 7) - (((r1 + (77 * v4)) >>> ((3 : Int32) &&& 31)) &&& 7) / r3 * r3)), (7, ai ((((r1 + (77 * v4)) >>> ((6 : Int32) &&& 31)) &&& 7) - (((r1 + (77 * v4)) >>> ((6 : Int32) &&& 31)) &&& 7) / v2 * v2)), (8, ai r5), (9, ai 0)] [] σ4 Q)))))) :
  J IY M_L_law (d + 1) 20 [(0, ar 29 0), (1, ar 0 0), (2, ai v2), (3, ar 62 0), (4, ai v4)] [] σ Q := wp_J oki_Y Mok_L_law (cuts := [(17, [0, 1, 2, 3]), (20, [0, 1, 2, 3, 4]), (84, [0, 1, 2, 3, 4, 5, 6, 7, 8, 9]), (93, [0, 1, 2, 3, 4, 5, 6, 7, 8, 9, 10]), (162, [0, 1, 2, 3, 4, 6, 7, 8, 9, 10]), (200, [0, 1, 2, 3, 4, 6, 7, 8, 9, 10, 11, 12]), (249, [0, 1, 2, 3, 4, 6, 7, 8, 9, 10, 11, 12])]) 400 20 _ [] σ h
set_option maxRecDepth 10000 in
theorem r_L_law_84 {d : Nat} {v2 : Int32} {v4 : Int32} {v5 : Int32} {v6 : Int32} {v7 : Int32} {v8 : Int32} {v9 : Int32} {σ : Mem} {Q : Option AV → Mem → Prop} (h :
  ((4 ≤ v9 →
  CalV IY d S_L_acts [ar 0 0, ai v5] σ (fun σ6 =>
    (((v5 &&& 7) < 2 →
    J IY M_L_law (d + 1) 20 [(0, ar 29 0), (1, ar 0 0), (2, ai v2), (3, ar 62 0), (4, ai (v4 + 1))] [] σ6 Q) ∧
    (¬ (v5 &&& 7) < 2 →
    (((v5 &&& 7) ≤ 5 →
      J IY M_L_law (d + 1) 162 [(0, ar 29 0), (1, ar 0 0), (2, ai v2), (3, ar 62 0), (4, ai v4), (6, ai v6), (7, ai v7), (8, ai v8), (9, ai (v5 &&& 7)), (10, ai 0)] [] σ6 Q) ∧
      (¬ (v5 &&& 7) ≤ 5 →
      J IY M_L_law (d + 1) 20 [(0, ar 29 0), (1, ar 0 0), (2, ai v2), (3, ar 62 0), (4, ai (v4 + 1))] [] σ6 Q)))))) ∧
  (¬ 4 ≤ v9 →
  J IY M_L_law (d + 1) 93 [(0, ar 29 0), (1, ar 0 0), (2, ai v2), (3, ar 62 0), (4, ai v4), (5, ai v5), (6, ai v6), (7, ai v7), (8, ai v8), (9, ai v9), (10, ai 0)] [] σ Q))) :
  J IY M_L_law (d + 1) 84 [(0, ar 29 0), (1, ar 0 0), (2, ai v2), (3, ar 62 0), (4, ai v4), (5, ai v5), (6, ai v6), (7, ai v7), (8, ai v8), (9, ai v9)] [] σ Q := wp_J oki_Y Mok_L_law (cuts := [(17, [0, 1, 2, 3]), (20, [0, 1, 2, 3, 4]), (84, [0, 1, 2, 3, 4, 5, 6, 7, 8, 9]), (93, [0, 1, 2, 3, 4, 5, 6, 7, 8, 9, 10]), (162, [0, 1, 2, 3, 4, 6, 7, 8, 9, 10]), (200, [0, 1, 2, 3, 4, 6, 7, 8, 9, 10, 11, 12]), (249, [0, 1, 2, 3, 4, 6, 7, 8, 9, 10, 11, 12])]) 400 84 _ [] σ h
set_option maxRecDepth 10000 in
theorem r_L_law_93 {d : Nat} {v2 : Int32} {v4 : Int32} {v5 : Int32} {v6 : Int32} {v7 : Int32} {v8 : Int32} {v9 : Int32} {v10 : Int32} {σ : Mem} {Q : Option AV → Mem → Prop} (h :
  ((48 ≤ v10 →
  J IY M_L_law (d + 1) 84 [(0, ar 29 0), (1, ar 0 0), (2, ai v2), (3, ar 62 0), (4, ai v4), (5, ai v5), (6, ai v6), (7, ai v7), (8, ai v8), (9, ai (v9 + 1))] [] σ Q) ∧
  (¬ 48 ≤ v10 →
  CalI IY d S_X7_where [ar 0 0, ai v9, ai v10] σ (fun r8 σ7 =>
    vp_in ((48 * v9) + v10) 192 ∧
    J IY M_L_law (d + 1) 93 [(0, ar 29 0), (1, ar 0 0), (2, ai v2), (3, ar 62 0), (4, ai v4), (5, ai v5), (6, ai v6), (7, ai v7), (8, ai v8), (9, ai v9), (10, ai (v10 + 1))] [] (wL σ7 62 0 (Int32.toNatClampNeg ((48 * v9) + v10)) (Int32.toInt64 r8)) Q)))) :
  J IY M_L_law (d + 1) 93 [(0, ar 29 0), (1, ar 0 0), (2, ai v2), (3, ar 62 0), (4, ai v4), (5, ai v5), (6, ai v6), (7, ai v7), (8, ai v8), (9, ai v9), (10, ai v10)] [] σ Q := wp_J oki_Y Mok_L_law (cuts := [(17, [0, 1, 2, 3]), (20, [0, 1, 2, 3, 4]), (84, [0, 1, 2, 3, 4, 5, 6, 7, 8, 9]), (93, [0, 1, 2, 3, 4, 5, 6, 7, 8, 9, 10]), (162, [0, 1, 2, 3, 4, 6, 7, 8, 9, 10]), (200, [0, 1, 2, 3, 4, 6, 7, 8, 9, 10, 11, 12]), (249, [0, 1, 2, 3, 4, 6, 7, 8, 9, 10, 11, 12])]) 400 93 _ [] σ h
set_option maxRecDepth 10000 in
theorem r_L_law_162 {d : Nat} {v2 : Int32} {v4 : Int32} {v6 : Int32} {v7 : Int32} {v8 : Int32} {v9 : Int32} {v10 : Int32} {σ : Mem} {Q : Option AV → Mem → Prop} (h :
  CalI IY d S_X7_status [ar 0 0, ai 2] σ (fun r10 σ9 =>
  ((r10 ≤ v10 →
  J IY M_L_law (d + 1) 20 [(0, ar 29 0), (1, ar 0 0), (2, ai v2), (3, ar 62 0), (4, ai (v4 + 1))] [] σ9 Q) ∧
  (¬ r10 ≤ v10 →
  ((¬ v9 = 4 →
    ((¬ v10 = v6 →
      J IY M_L_law (d + 1) 200 [(0, ar 29 0), (1, ar 0 0), (2, ai v2), (3, ar 62 0), (4, ai v4), (6, ai v6), (7, ai v7), (8, ai v8), (9, ai v9), (10, ai v10), (11, ai 0), (12, ai v8)] [] σ9 Q) ∧
      (v10 = v6 →
      J IY M_L_law (d + 1) 200 [(0, ar 29 0), (1, ar 0 0), (2, ai v2), (3, ar 62 0), (4, ai v4), (6, ai v6), (7, ai v7), (8, ai v8), (9, ai v9), (10, ai v10), (11, ai 1), (12, ai v8)] [] σ9 Q))) ∧
    (v9 = 4 →
    J IY M_L_law (d + 1) 200 [(0, ar 29 0), (1, ar 0 0), (2, ai v2), (3, ar 62 0), (4, ai v4), (6, ai v6), (7, ai v7), (8, ai v8), (9, ai v9), (10, ai v10), (11, ai 0), (12, ai v8)] [] σ9 Q)))))) :
  J IY M_L_law (d + 1) 162 [(0, ar 29 0), (1, ar 0 0), (2, ai v2), (3, ar 62 0), (4, ai v4), (6, ai v6), (7, ai v7), (8, ai v8), (9, ai v9), (10, ai v10)] [] σ Q := wp_J oki_Y Mok_L_law (cuts := [(17, [0, 1, 2, 3]), (20, [0, 1, 2, 3, 4]), (84, [0, 1, 2, 3, 4, 5, 6, 7, 8, 9]), (93, [0, 1, 2, 3, 4, 5, 6, 7, 8, 9, 10]), (162, [0, 1, 2, 3, 4, 6, 7, 8, 9, 10]), (200, [0, 1, 2, 3, 4, 6, 7, 8, 9, 10, 11, 12]), (249, [0, 1, 2, 3, 4, 6, 7, 8, 9, 10, 11, 12])]) 400 162 _ [] σ h
set_option maxRecDepth 10000 in
theorem r_L_law_200 {d : Nat} {v2 : Int32} {v4 : Int32} {v6 : Int32} {v7 : Int32} {v8 : Int32} {v9 : Int32} {v10 : Int32} {v11 : Int32} {v12 : Int32} {σ : Mem} {Q : Option AV → Mem → Prop} (h :
  ((48 ≤ v12 →
  J IY M_L_law (d + 1) 249 [(0, ar 29 0), (1, ar 0 0), (2, ai v2), (3, ar 62 0), (4, ai v4), (6, ai v6), (7, ai v7), (8, ai v8), (9, ai v9), (10, ai v10), (11, ai v11), (12, ai 0)] [] σ Q) ∧
  (¬ 48 ≤ v12 →
  ((¬ v9 = 4 →
    J IY M_L_law (d + 1) 249 [(0, ar 29 0), (1, ar 0 0), (2, ai v2), (3, ar 62 0), (4, ai v4), (6, ai v6), (7, ai v7), (8, ai v8), (9, ai v9), (10, ai v10), (11, ai v11), (12, ai 0)] [] σ Q) ∧
    (v9 = 4 →
    vp_in ((48 * v10) + v12) 192 ∧
      ((¬ (lg_cmp (σ.2 62 0 (Int32.toNatClampNeg ((48 * v10) + v12))) (Int32.toInt64 v7)) = 0 →
      J IY M_L_law (d + 1) 200 [(0, ar 29 0), (1, ar 0 0), (2, ai v2), (3, ar 62 0), (4, ai v4), (6, ai v6), (7, ai v7), (8, ai v8), (9, ai v9), (10, ai v10), (11, ai (v11 ||| 0)), (12, ai (v12 + 1))] [] σ Q) ∧
      ((lg_cmp (σ.2 62 0 (Int32.toNatClampNeg ((48 * v10) + v12))) (Int32.toInt64 v7)) = 0 →
      J IY M_L_law (d + 1) 200 [(0, ar 29 0), (1, ar 0 0), (2, ai v2), (3, ar 62 0), (4, ai v4), (6, ai v6), (7, ai v7), (8, ai v8), (9, ai v9), (10, ai v10), (11, ai (v11 ||| 1)), (12, ai (v12 + 1))] [] σ Q))))))) :
  J IY M_L_law (d + 1) 200 [(0, ar 29 0), (1, ar 0 0), (2, ai v2), (3, ar 62 0), (4, ai v4), (6, ai v6), (7, ai v7), (8, ai v8), (9, ai v9), (10, ai v10), (11, ai v11), (12, ai v12)] [] σ Q := wp_J oki_Y Mok_L_law (cuts := [(17, [0, 1, 2, 3]), (20, [0, 1, 2, 3, 4]), (84, [0, 1, 2, 3, 4, 5, 6, 7, 8, 9]), (93, [0, 1, 2, 3, 4, 5, 6, 7, 8, 9, 10]), (162, [0, 1, 2, 3, 4, 6, 7, 8, 9, 10]), (200, [0, 1, 2, 3, 4, 6, 7, 8, 9, 10, 11, 12]), (249, [0, 1, 2, 3, 4, 6, 7, 8, 9, 10, 11, 12])]) 400 200 _ [] σ h
set_option maxRecDepth 10000 in
theorem r_L_law_249 {d : Nat} {v2 : Int32} {v4 : Int32} {v6 : Int32} {v7 : Int32} {v8 : Int32} {v9 : Int32} {v10 : Int32} {v11 : Int32} {v12 : Int32} {σ : Mem} {Q : Option AV → Mem → Prop} (h :
  ((48 ≤ v12 →
  J IY M_L_law (d + 1) 162 [(0, ar 29 0), (1, ar 0 0), (2, ai v2), (3, ar 62 0), (4, ai v4), (6, ai v6), (7, ai v7), (8, ai v8), (9, ai v9), (10, ai (v10 + 1))] [] σ Q) ∧
  (¬ 48 ≤ v12 →
  vp_in ((48 * v10) + v12) 192 ∧
    CalI IY d S_X7_where [ar 0 0, ai v10, ai v12] σ (fun r12 σ11 =>
    (((lg_cmp (σ.2 62 0 (Int32.toNatClampNeg ((48 * v10) + v12))) (Int32.toInt64 r12)) = 0 →
    J IY M_L_law (d + 1) 249 [(0, ar 29 0), (1, ar 0 0), (2, ai v2), (3, ar 62 0), (4, ai v4), (6, ai v6), (7, ai v7), (8, ai v8), (9, ai v9), (10, ai v10), (11, ai v11), (12, ai (v12 + 1))] [] σ11 Q) ∧
    (¬ (lg_cmp (σ.2 62 0 (Int32.toNatClampNeg ((48 * v10) + v12))) (Int32.toInt64 r12)) = 0 →
    ((v12 < v8 →
      ((0 : Int32) = 0 ∨ (0 : Int32) = 1) ∧ Q (some (ai 0)) σ11) ∧
      (¬ v12 < v8 →
      ((¬ v11 = 0 →
        J IY M_L_law (d + 1) 249 [(0, ar 29 0), (1, ar 0 0), (2, ai v2), (3, ar 62 0), (4, ai v4), (6, ai v6), (7, ai v7), (8, ai v8), (9, ai v9), (10, ai v10), (11, ai v11), (12, ai (v12 + 1))] [] σ11 Q) ∧
        (v11 = 0 →
        ((0 : Int32) = 0 ∨ (0 : Int32) = 1) ∧ Q (some (ai 0)) σ11)))))))))) :
  J IY M_L_law (d + 1) 249 [(0, ar 29 0), (1, ar 0 0), (2, ai v2), (3, ar 62 0), (4, ai v4), (6, ai v6), (7, ai v7), (8, ai v8), (9, ai v9), (10, ai v10), (11, ai v11), (12, ai v12)] [] σ Q := wp_J oki_Y Mok_L_law (cuts := [(17, [0, 1, 2, 3]), (20, [0, 1, 2, 3, 4]), (84, [0, 1, 2, 3, 4, 5, 6, 7, 8, 9]), (93, [0, 1, 2, 3, 4, 5, 6, 7, 8, 9, 10]), (162, [0, 1, 2, 3, 4, 6, 7, 8, 9, 10]), (200, [0, 1, 2, 3, 4, 6, 7, 8, 9, 10, 11, 12]), (249, [0, 1, 2, 3, 4, 6, 7, 8, 9, 10, 11, 12])]) 400 249 _ [] σ h
