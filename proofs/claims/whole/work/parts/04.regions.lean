set_option maxRecDepth 10000 in
theorem r_X3_freeFrom_0 {d : Nat} {o : Nat} {p0 : Int32} {σ : Mem} {Q : Option AV → Mem → Prop} (h :
  ((p0 = 0 →
  Q (some (ai p0)) σ) ∧
  (¬ p0 = 0 →
  vp_in (p0 - 1) 48 ∧
    ((200 ≤ (σ.1 12 o (Int32.toNatClampNeg (p0 - 1))) →
    J IX M_X3_freeFrom (d + 1) 22 [(0, ar 9 o), (1, ai p0), (2, ai p0)] [] σ Q) ∧
    (¬ 200 ≤ (σ.1 12 o (Int32.toNatClampNeg (p0 - 1))) →
    Q (some (ai p0)) σ))))) :
  J IX M_X3_freeFrom (d + 1) 0 (locOf 0 [ar 9 o, ai p0]) [] σ Q := wp_J oki_X Mok_X3_freeFrom (cuts := [(22, [0, 1, 2])]) 400 0 _ [] σ h
set_option maxRecDepth 10000 in
theorem r_X3_freeFrom_22 {d : Nat} {v0 : Nat} {v1 : Int32} {v2 : Int32} {σ : Mem} {Q : Option AV → Mem → Prop} (h :
  ((48 ≤ v2 →
  Q (some (ai 48)) σ) ∧
  (¬ 48 ≤ v2 →
  vp_in v2 48 ∧
    vp_in (v1 - 1) 48 ∧
    (((σ.1 12 v0 (Int32.toNatClampNeg v2)) = (σ.1 12 v0 (Int32.toNatClampNeg (v1 - 1))) →
    J IX M_X3_freeFrom (d + 1) 22 [(0, ar 9 v0), (1, ai v1), (2, ai (v2 + 1))] [] σ Q) ∧
    (¬ (σ.1 12 v0 (Int32.toNatClampNeg v2)) = (σ.1 12 v0 (Int32.toNatClampNeg (v1 - 1))) →
    Q (some (ai v2)) σ))))) :
  J IX M_X3_freeFrom (d + 1) 22 [(0, ar 9 v0), (1, ai v1), (2, ai v2)] [] σ Q := wp_J oki_X Mok_X3_freeFrom (cuts := [(22, [0, 1, 2])]) 400 22 _ [] σ h
set_option maxRecDepth 10000 in
theorem r_X5_asInt_0 {d : Nat} {o : Nat} {p0 : Int32} {σ : Mem} {Q : Option AV → Mem → Prop} (h :
  vp_in p0 60 ∧
  Q (some (ai (Int64.toInt32 (σ.2 8 o (Int32.toNatClampNeg p0))))) σ) :
  J IX M_X5_asInt (d + 1) 0 (locOf 0 [ar 7 o, ai p0]) [] σ Q := wp_J oki_X Mok_X5_asInt (cuts := []) 400 0 _ [] σ h
set_option maxRecDepth 10000 in
theorem r_X6_has_0 {d : Nat} {p0 : Int32} {σ : Mem} {Q : Option AV → Mem → Prop} (h :
  ((p0 < 0 →
  ((0 : Int32) = 0 ∨ (0 : Int32) = 1) ∧ Q (some (ai 0)) σ) ∧
  (¬ p0 < 0 →
  (((σ.1 1 0 5) ≤ p0 →
    ((0 : Int32) = 0 ∨ (0 : Int32) = 1) ∧ Q (some (ai 0)) σ) ∧
    (¬ (σ.1 1 0 5) ≤ p0 →
    ((1 : Int32) = 0 ∨ (1 : Int32) = 1) ∧ Q (some (ai 1)) σ))))) :
  J IX M_X6_has (d + 1) 0 (locOf 0 [ar 1 0, ai p0]) [] σ Q := wp_J oki_X Mok_X6_has (cuts := []) 400 0 _ [] σ h
set_option maxRecDepth 10000 in
theorem r_X6_addPlace_0 {d : Nat} {p0 : Int32} {p1 : Int32} {p2 : Int32} {σ : Mem} {Q : Option AV → Mem → Prop} (h :
  vp_in (σ.1 1 0 5) 12 ∧
  vp_in (σ.1 1 0 5) 12 ∧
  vp_in (σ.1 1 0 5) 12 ∧
  J IX M_X6_addPlace (d + 1) 43 [(0, ar 1 0), (4, ai (σ.1 1 0 5)), (5, ai 0)] [] (wI (wI (wI (wI σ 1 0 5 ((σ.1 1 0 5) + 1)) 2 0 (Int32.toNatClampNeg (σ.1 1 0 5)) p0) 3 0 (Int32.toNatClampNeg (σ.1 1 0 5)) p1) 4 0 (Int32.toNatClampNeg (σ.1 1 0 5)) p2) Q) :
  J IX M_X6_addPlace (d + 1) 0 (locOf 0 [ar 1 0, ai p0, ai p1, ai p2]) [] σ Q := wp_J oki_X Mok_X6_addPlace (cuts := [(43, [0, 4, 5])]) 400 0 _ [] σ h
set_option maxRecDepth 10000 in
theorem r_X6_addPlace_43 {d : Nat} {v4 : Int32} {v5 : Int32} {σ : Mem} {Q : Option AV → Mem → Prop} (h :
  ((v4 < v5 →
  vp_in ((v4 * 12) + v4) 144 ∧
    Q (some (ai v4)) (wI σ 6 0 (Int32.toNatClampNeg ((v4 * 12) + v4)) 0)) ∧
  (¬ v4 < v5 →
  vp_in ((v4 * 12) + v5) 144 ∧
    vp_in ((v5 * 12) + v4) 144 ∧
    J IX M_X6_addPlace (d + 1) 43 [(0, ar 1 0), (4, ai v4), (5, ai (v5 + 1))] [] (wI (wI σ 6 0 (Int32.toNatClampNeg ((v4 * 12) + v5)) (-1)) 6 0 (Int32.toNatClampNeg ((v5 * 12) + v4)) (-1)) Q))) :
  J IX M_X6_addPlace (d + 1) 43 [(0, ar 1 0), (4, ai v4), (5, ai v5)] [] σ Q := wp_J oki_X Mok_X6_addPlace (cuts := [(43, [0, 4, 5])]) 400 43 _ [] σ h
set_option maxRecDepth 10000 in
theorem r_X6_shorten_0 {d : Nat} {p0 : Int32} {p1 : Int32} {p2 : Int32} {p3 : Int32} {p4 : Int32} {σ : Mem} {Q : Option AV → Mem → Prop} (h :
  ((p2 = (-1) →
  Q none σ) ∧
  (¬ p2 = (-1) →
  ((¬ p3 = (-1) →
    vp_in ((p0 * 12) + p1) 144 ∧
      (((σ.1 6 0 (Int32.toNatClampNeg ((p0 * 12) + p1))) = (-1) →
      vp_in ((p0 * 12) + p1) 144 ∧
        Q none (wI σ 6 0 (Int32.toNatClampNeg ((p0 * 12) + p1)) ((p2 + p4) + p3))) ∧
      (¬ (σ.1 6 0 (Int32.toNatClampNeg ((p0 * 12) + p1))) = (-1) →
      (((σ.1 6 0 (Int32.toNatClampNeg ((p0 * 12) + p1))) ≤ ((p2 + p4) + p3) →
        Q none σ) ∧
        (¬ (σ.1 6 0 (Int32.toNatClampNeg ((p0 * 12) + p1))) ≤ ((p2 + p4) + p3) →
        vp_in ((p0 * 12) + p1) 144 ∧
          Q none (wI σ 6 0 (Int32.toNatClampNeg ((p0 * 12) + p1)) ((p2 + p4) + p3))))))) ∧
    (p3 = (-1) →
    Q none σ))))) :
  J IX M_X6_shorten (d + 1) 0 (locOf 0 [ar 1 0, ai p0, ai p1, ai p2, ai p3, ai p4]) [] σ Q := wp_J oki_X Mok_X6_shorten (cuts := []) 400 0 _ [] σ h
set_option maxRecDepth 10000 in
theorem r_X7_refuse_0 {d : Nat} {p0 : Int32} {σ : Mem} {Q : Option AV → Mem → Prop} (h :
  (((-1) < p0 →
  Q (some (ai p0)) σ) ∧
  (¬ (-1) < p0 →
  ((p0 < (-7) →
    Q (some (ai p0)) σ) ∧
    (¬ p0 < (-7) →
    vp_in (-p0) 8 ∧
      vp_in (-p0) 8 ∧
      Q (some (ai p0)) (wI σ 28 0 (Int32.toNatClampNeg (-p0)) ((σ.1 28 0 (Int32.toNatClampNeg (-p0))) + 1))))))) :
  J IX M_X7_refuse (d + 1) 0 (locOf 0 [ar 0 0, ai p0]) [] σ Q := wp_J oki_X Mok_X7_refuse (cuts := []) 400 0 _ [] σ h
set_option maxRecDepth 10000 in
theorem r_X7_isSpan_0 {d : Nat} {p0 : Int32} {p1 : Int32} {σ : Mem} {Q : Option AV → Mem → Prop} (h :
  ((p0 < 0 →
  ((0 : Int32) = 0 ∨ (0 : Int32) = 1) ∧ Q (some (ai 0)) σ) ∧
  (¬ p0 < 0 →
  ((p1 ≤ p0 →
    ((0 : Int32) = 0 ∨ (0 : Int32) = 1) ∧ Q (some (ai 0)) σ) ∧
    (¬ p1 ≤ p0 →
    ((48 < p1 →
      ((0 : Int32) = 0 ∨ (0 : Int32) = 1) ∧ Q (some (ai 0)) σ) ∧
      (¬ 48 < p1 →
      ((1 : Int32) = 0 ∨ (1 : Int32) = 1) ∧ Q (some (ai 1)) σ))))))) :
  J IX M_X7_isSpan (d + 1) 0 (locOf 0 [ai p0, ai p1]) [] σ Q := wp_J oki_X Mok_X7_isSpan (cuts := []) 400 0 _ [] σ h
set_option maxRecDepth 10000 in
theorem r_X7_wasEver_0 {d : Nat} {p0 : Int32} {σ : Mem} {Q : Option AV → Mem → Prop} (h :
  ((p0 < 0 →
  ((0 : Int32) = 0 ∨ (0 : Int32) = 1) ∧ Q (some (ai 0)) σ) ∧
  (¬ p0 < 0 →
  (((σ.1 0 0 9) ≤ p0 →
    ((0 : Int32) = 0 ∨ (0 : Int32) = 1) ∧ Q (some (ai 0)) σ) ∧
    (¬ (σ.1 0 0 9) ≤ p0 →
    ((1 : Int32) = 0 ∨ (1 : Int32) = 1) ∧ Q (some (ai 1)) σ))))) :
  J IX M_X7_wasEver (d + 1) 0 (locOf 0 [ar 0 0, ai p0]) [] σ Q := wp_J oki_X Mok_X7_wasEver (cuts := []) 400 0 _ [] σ h
set_option maxRecDepth 10000 in
theorem r_X8_in_0 {d : Nat} {p0 : Int32} {p1 : Int32} {p2 : Int32} {σ : Mem} {Q : Option AV → Mem → Prop} (h :
  ((p0 < p1 →
  ((0 : Int32) = 0 ∨ (0 : Int32) = 1) ∧ Q (some (ai 0)) σ) ∧
  (¬ p0 < p1 →
  ((p2 < p0 →
    ((0 : Int32) = 0 ∨ (0 : Int32) = 1) ∧ Q (some (ai 0)) σ) ∧
    (¬ p2 < p0 →
    ((1 : Int32) = 0 ∨ (1 : Int32) = 1) ∧ Q (some (ai 1)) σ))))) :
  J IM M_X8_in (d + 1) 0 (locOf 0 [ai p0, ai p1, ai p2]) [] σ Q := wp_J oki_M Mok_X8_in (cuts := []) 400 0 _ [] σ h
set_option maxRecDepth 10000 in
theorem r_X8_refuse_0 {d : Nat} {p0 : Int32} {σ : Mem} {Q : Option AV → Mem → Prop} (h :
  vp_in (-p0) 8 ∧
  vp_in (-p0) 8 ∧
  Q (some (ai p0)) (wI σ 31 0 (Int32.toNatClampNeg (-p0)) ((σ.1 31 0 (Int32.toNatClampNeg (-p0))) + 1))) :
  J IM M_X8_refuse (d + 1) 0 (locOf 0 [ar 30 0, ai p0]) [] σ Q := wp_J oki_M Mok_X8_refuse (cuts := []) 400 0 _ [] σ h
set_option maxRecDepth 10000 in
theorem r_X8_isSpan_0 {d : Nat} {p0 : Int32} {p1 : Int32} {σ : Mem} {Q : Option AV → Mem → Prop} (h :
  ((p0 < 0 →
  ((0 : Int32) = 0 ∨ (0 : Int32) = 1) ∧ Q (some (ai 0)) σ) ∧
  (¬ p0 < 0 →
  ((p1 ≤ p0 →
    ((0 : Int32) = 0 ∨ (0 : Int32) = 1) ∧ Q (some (ai 0)) σ) ∧
    (¬ p1 ≤ p0 →
    ((48 < p1 →
      ((0 : Int32) = 0 ∨ (0 : Int32) = 1) ∧ Q (some (ai 0)) σ) ∧
      (¬ 48 < p1 →
      ((1 : Int32) = 0 ∨ (1 : Int32) = 1) ∧ Q (some (ai 1)) σ))))))) :
  J IM M_X8_isSpan (d + 1) 0 (locOf 0 [ai p0, ai p1]) [] σ Q := wp_J oki_M Mok_X8_isSpan (cuts := []) 400 0 _ [] σ h
set_option maxRecDepth 10000 in
theorem r_X3_takeDuties_0 {d : Nat} {o : Nat} {z : Nat} {σ : Mem} {Q : Option AV → Mem → Prop} (h :
  J IX M_X3_takeDuties (d + 1) 15 [(0, ar 9 o), (1, ar 7 z), (2, ai 0)] [] (wI σ 9 o 6 (if 48 < (σ.1 7 z 3) then 48 else (σ.1 7 z 3))) Q) :
  J IX M_X3_takeDuties (d + 1) 0 (locOf 0 [ar 9 o, ar 7 z]) [] σ Q := wp_J oki_X Mok_X3_takeDuties (cuts := [(15, [0, 1, 2])]) 400 0 _ [] σ h
set_option maxRecDepth 10000 in
theorem r_X3_takeDuties_15 {d : Nat} {v0 : Nat} {v1 : Nat} {v2 : Int32} {σ : Mem} {Q : Option AV → Mem → Prop} (h :
  (((σ.1 9 v0 6) ≤ v2 →
  ¬ 4 = 0 ∧
    Q (some (ai ((σ.1 9 v0 6) / 4))) σ) ∧
  (¬ (σ.1 9 v0 6) ≤ v2 →
  CalI IX d S_X5_asInt [ar 7 v1, ai v2] σ (fun r2 σ1 =>
    vp_in v2 48 ∧
    J IX M_X3_takeDuties (d + 1) 15 [(0, ar 9 v0), (1, ar 7 v1), (2, ai (v2 + 1))] [] (wI σ1 11 v0 (Int32.toNatClampNeg v2) r2) Q)))) :
  J IX M_X3_takeDuties (d + 1) 15 [(0, ar 9 v0), (1, ar 7 v1), (2, ai v2)] [] σ Q := wp_J oki_X Mok_X3_takeDuties (cuts := [(15, [0, 1, 2])]) 400 15 _ [] σ h
set_option maxRecDepth 10000 in
theorem r_X7_place_0 {d : Nat} {p0 : Int32} {p1 : Int32} {p2 : Int32} {σ : Mem} {Q : Option AV → Mem → Prop} (h :
  ((p0 < 1 →
  CalI IX d S_X7_refuse [ar 0 0, ai (-6)] σ (fun r2 σ1 =>
    Q (some (ai r2)) σ1)) ∧
  (¬ p0 < 1 →
  ((9 < p0 →
    CalI IX d S_X7_refuse [ar 0 0, ai (-6)] σ (fun r4 σ3 =>
      Q (some (ai r4)) σ3)) ∧
    (¬ 9 < p0 →
    CalI IX d S_X7_isSpan [ai p1, ai p2] σ (fun r6 σ5 =>
      ((r6 = 0 →
      CalI IX d S_X7_refuse [ar 0 0, ai (-6)] σ5 (fun r8 σ7 =>
        Q (some (ai r8)) σ7)) ∧
      (¬ r6 = 0 →
      (((σ5.1 0 0 16) = 0 →
        (((σ5.1 1 0 5) < 12 →
          CalI IX d S_X6_addPlace [ar 1 0, ai p0, ai p1, ai p2] σ5 (fun r10 σ9 =>
            Q (some (ai r10)) σ9)) ∧
          (¬ (σ5.1 1 0 5) < 12 →
          CalI IX d S_X7_refuse [ar 0 0, ai (-7)] σ5 (fun r12 σ11 =>
            Q (some (ai r12)) σ11)))) ∧
        (¬ (σ5.1 0 0 16) = 0 →
        CalI IX d S_X7_refuse [ar 0 0, ai (-6)] σ5 (fun r14 σ13 =>
          Q (some (ai r14)) σ13))))))))))) :
  J IX M_X7_place (d + 1) 0 (locOf 0 [ar 0 0, ai p0, ai p1, ai p2]) [] σ Q := wp_J oki_X Mok_X7_place (cuts := []) 400 0 _ [] σ h
set_option maxRecDepth 10000 in
theorem r_X7_isHere_0 {d : Nat} {p0 : Int32} {σ : Mem} {Q : Option AV → Mem → Prop} (h :
  CalI IX d S_X7_wasEver [ar 0 0, ai p0] σ (fun r2 σ1 =>
  ((r2 = 0 →
  ((0 : Int32) = 0 ∨ (0 : Int32) = 1) ∧ Q (some (ai 0)) σ1) ∧
  (¬ r2 = 0 →
  vp_in p0 20 ∧
    ((¬ (σ1.1 9 (Int32.toNatClampNeg p0) 13) = 0 →
    ((0 : Int32) = 0 ∨ (0 : Int32) = 1) ∧ Q (some (ai 0)) σ1) ∧
    ((σ1.1 9 (Int32.toNatClampNeg p0) 13) = 0 →
    ((1 : Int32) = 0 ∨ (1 : Int32) = 1) ∧ Q (some (ai 1)) σ1)))))) :
  J IX M_X7_isHere (d + 1) 0 (locOf 0 [ar 0 0, ai p0]) [] σ Q := wp_J oki_X Mok_X7_isHere (cuts := []) 400 0 _ [] σ h
set_option maxRecDepth 10000 in
theorem r_X8_place_0 {d : Nat} {p0 : Int32} {p1 : Int32} {p2 : Int32} {σ : Mem} {Q : Option AV → Mem → Prop} (h :
  CalI IM d S_X8_in [ai p0, ai 1, ai 9] σ (fun r2 σ1 =>
  ((r2 = 0 →
  CalI IM d S_X8_refuse [ar 30 0, ai (-6)] σ1 (fun r4 σ3 =>
    Q (some (ai r4)) σ3)) ∧
  (¬ r2 = 0 →
  CalI IM d S_X8_isSpan [ai p1, ai p2] σ1 (fun r6 σ5 =>
    ((r6 = 0 →
    CalI IM d S_X8_refuse [ar 30 0, ai (-6)] σ5 (fun r8 σ7 =>
      Q (some (ai r8)) σ7)) ∧
    (¬ r6 = 0 →
    (((σ5.1 30 0 1) = 0 →
      ((¬ (σ5.1 30 0 5) = 12 →
        vp_in (σ5.1 30 0 5) 12 ∧
          vp_in ((wI σ5 32 0 (Int32.toNatClampNeg (σ5.1 30 0 5)) p0).1 30 0 5) 12 ∧
          vp_in ((wI (wI σ5 32 0 (Int32.toNatClampNeg (σ5.1 30 0 5)) p0) 33 0 (Int32.toNatClampNeg ((wI σ5 32 0 (Int32.toNatClampNeg (σ5.1 30 0 5)) p0).1 30 0 5)) p1).1 30 0 5) 12 ∧
          Q (some (ai (((wI (wI (wI (wI σ5 32 0 (Int32.toNatClampNeg (σ5.1 30 0 5)) p0) 33 0 (Int32.toNatClampNeg ((wI σ5 32 0 (Int32.toNatClampNeg (σ5.1 30 0 5)) p0).1 30 0 5)) p1) 34 0 (Int32.toNatClampNeg ((wI (wI σ5 32 0 (Int32.toNatClampNeg (σ5.1 30 0 5)) p0) 33 0 (Int32.toNatClampNeg ((wI σ5 32 0 (Int32.toNatClampNeg (σ5.1 30 0 5)) p0).1 30 0 5)) p1).1 30 0 5)) p2) 30 0 5 (((wI (wI (wI σ5 32 0 (Int32.toNatClampNeg (σ5.1 30 0 5)) p0) 33 0 (Int32.toNatClampNeg ((wI σ5 32 0 (Int32.toNatClampNeg (σ5.1 30 0 5)) p0).1 30 0 5)) p1) 34 0 (Int32.toNatClampNeg ((wI (wI σ5 32 0 (Int32.toNatClampNeg (σ5.1 30 0 5)) p0) 33 0 (Int32.toNatClampNeg ((wI σ5 32 0 (Int32.toNatClampNeg (σ5.1 30 0 5)) p0).1 30 0 5)) p1).1 30 0 5)) p2).1 30 0 5) + 1)).1 30 0 5) - 1))) (wI (wI (wI (wI σ5 32 0 (Int32.toNatClampNeg (σ5.1 30 0 5)) p0) 33 0 (Int32.toNatClampNeg ((wI σ5 32 0 (Int32.toNatClampNeg (σ5.1 30 0 5)) p0).1 30 0 5)) p1) 34 0 (Int32.toNatClampNeg ((wI (wI σ5 32 0 (Int32.toNatClampNeg (σ5.1 30 0 5)) p0) 33 0 (Int32.toNatClampNeg ((wI σ5 32 0 (Int32.toNatClampNeg (σ5.1 30 0 5)) p0).1 30 0 5)) p1).1 30 0 5)) p2) 30 0 5 (((wI (wI (wI σ5 32 0 (Int32.toNatClampNeg (σ5.1 30 0 5)) p0) 33 0 (Int32.toNatClampNeg ((wI σ5 32 0 (Int32.toNatClampNeg (σ5.1 30 0 5)) p0).1 30 0 5)) p1) 34 0 (Int32.toNatClampNeg ((wI (wI σ5 32 0 (Int32.toNatClampNeg (σ5.1 30 0 5)) p0) 33 0 (Int32.toNatClampNeg ((wI σ5 32 0 (Int32.toNatClampNeg (σ5.1 30 0 5)) p0).1 30 0 5)) p1).1 30 0 5)) p2).1 30 0 5) + 1))) ∧
        ((σ5.1 30 0 5) = 12 →
        CalI IM d S_X8_refuse [ar 30 0, ai (-7)] σ5 (fun r10 σ9 =>
          Q (some (ai r10)) σ9)))) ∧
      (¬ (σ5.1 30 0 1) = 0 →
      CalI IM d S_X8_refuse [ar 30 0, ai (-6)] σ5 (fun r12 σ11 =>
        Q (some (ai r12)) σ11)))))))))) :
  J IM M_X8_place (d + 1) 0 (locOf 0 [ar 30 0, ai p0, ai p1, ai p2]) [] σ Q := wp_J oki_M Mok_X8_place (cuts := []) 400 0 _ [] σ h
