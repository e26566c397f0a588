set_option maxRecDepth 10000 in
theorem r_X1_arrange_0 {d : Nat} {o : Nat} {p0 : Int32} {p1 : Int32} {p2 : Int32} {p3 : Int32} {p4 : Int32} {σ : Mem} {Q : Option AV → Mem → Prop} (h :
  Q none (wI (wI (wI (wI (wI σ 14 o 0 p0) 14 o 1 p1) 14 o 2 p2) 14 o 3 p3) 14 o 4 p4)) :
  Cal IX (d + 1) S_X1_arrange [ar 14 o, ai p0, ai p1, ai p2, ai p3, ai p4] σ Q := Cal_of (M := M_X1_arrange) Sok_X1_arrange (by decide +kernel) rfl (wp_J oki_X Mok_X1_arrange (cuts := []) 400 0 _ [] σ h)
set_option maxRecDepth 10000 in
theorem r_X1_isOf_0 {d : Nat} {o : Nat} {p0 : Int32} {σ : Mem} {Q : Option AV → Mem → Prop} (h :
  ((((((σ.1 14 o 0).toUInt32 >>> (Int32.toUInt32 p0 &&& Int32.toUInt32 31)).toInt32) &&& 1) = 0 →
  ((0 : Int32) = 0 ∨ (0 : Int32) = 1) ∧ Q (some (ai 0)) σ) ∧
  (¬ ((((σ.1 14 o 0).toUInt32 >>> (Int32.toUInt32 p0 &&& Int32.toUInt32 31)).toInt32) &&& 1) = 0 →
  ((1 : Int32) = 0 ∨ (1 : Int32) = 1) ∧ Q (some (ai 1)) σ))) :
  Cal IX (d + 1) S_X1_isOf [ar 14 o, ai p0] σ Q := Cal_of (M := M_X1_isOf) Sok_X1_isOf (by decide +kernel) rfl (wp_J oki_X Mok_X1_isOf (cuts := []) 400 0 _ [] σ h)
set_option maxRecDepth 10000 in
theorem r_X1_beginDay_0 {d : Nat} {o : Nat} {σ : Mem} {Q : Option AV → Mem → Prop} (h :
  Q none (wI (wI σ 14 o 5 0) 14 o 7 0)) :
  Cal IX (d + 1) S_X1_beginDay [ar 14 o] σ Q := Cal_of (M := M_X1_beginDay) Sok_X1_beginDay (by decide +kernel) rfl (wp_J oki_X Mok_X1_beginDay (cuts := []) 400 0 _ [] σ h)
set_option maxRecDepth 10000 in
theorem r_X2_claim_0 {d : Nat} {p0 : Int32} {p1 : Int32} {p2 : Int32} {p3 : Int32} {σ : Mem} {Q : Option AV → Mem → Prop} (h :
  J IX M_X2_claim (d + 1) 3 [(0, ar 17 0), (1, ai p0), (3, ai p2), (4, ai p3), (5, ai p1)] [] σ Q) :
  Cal IX (d + 1) S_X2_claim [ar 17 0, ai p0, ai p1, ai p2, ai p3] σ Q := Cal_of (M := M_X2_claim) Sok_X2_claim (by decide +kernel) rfl (wp_J oki_X Mok_X2_claim (cuts := [(3, [0, 1, 3, 4, 5])]) 400 0 _ [] σ h)
set_option maxRecDepth 10000 in
theorem r_X2_claim_3 {d : Nat} {v1 : Int32} {v3 : Int32} {v4 : Int32} {v5 : Int32} {σ : Mem} {Q : Option AV → Mem → Prop} (h :
  ((v3 ≤ v5 →
  Q none σ) ∧
  (¬ v3 ≤ v5 →
  vp_in v5 48 ∧
    vp_in v5 48 ∧
    vp_in ((v1 * 48) + v5) 576 ∧
    vp_in ((v1 * 48) + v5) 576 ∧
    J IX M_X2_claim (d + 1) 3 [(0, ar 17 0), (1, ai v1), (3, ai v3), (4, ai v4), (5, ai (v5 + 1))] [] (wI (wI σ 18 0 (Int32.toNatClampNeg v5) ((σ.1 18 0 (Int32.toNatClampNeg v5)) + v4)) 19 0 (Int32.toNatClampNeg ((v1 * 48) + v5)) (((wI σ 18 0 (Int32.toNatClampNeg v5) ((σ.1 18 0 (Int32.toNatClampNeg v5)) + v4)).1 19 0 (Int32.toNatClampNeg ((v1 * 48) + v5))) + v4)) Q))) :
  J IX M_X2_claim (d + 1) 3 [(0, ar 17 0), (1, ai v1), (3, ai v3), (4, ai v4), (5, ai v5)] [] σ Q := wp_J oki_X Mok_X2_claim (cuts := [(3, [0, 1, 3, 4, 5])]) 400 3 _ [] σ h
set_option maxRecDepth 10000 in
theorem r_X2_stay_0 {d : Nat} {f : Nat} {p1 : Int32} {p2 : Int32} {p3 : Int32} {σ : Mem} {Q : Option AV → Mem → Prop} (h :
  vp_in (((p2 + 1) * 12) + p1) 588 ∧
  vp_in p2 48 ∧
  ((¬ p2 = 47 →
  vp_in p1 12 ∧
    vp_in ((p1 * 48) + p2) 576 ∧
    ((p3 = 0 →
    vp_in ((p2 * 12) + p1) 588 ∧
      ((p3 = 0 →
      vp_in ((p2 * 12) + p1) 576 ∧
        Q none (wI (wI σ 21 0 (Int32.toNatClampNeg ((p2 * 12) + p1)) ((((σ.1 21 0 (Int32.toNatClampNeg (((p2 + 1) * 12) + p1))) + (σ.1 18 0 (Int32.toNatClampNeg p2))) + 0) + 20)) 22 0 (Int32.toNatClampNeg ((p2 * 12) + p1)) (100 + p1))) ∧
      (¬ p3 = 0 →
      vp_in ((p2 * 12) + p1) 576 ∧
        Q none (wI (wI σ 21 0 (Int32.toNatClampNeg ((p2 * 12) + p1)) ((((σ.1 21 0 (Int32.toNatClampNeg (((p2 + 1) * 12) + p1))) + (σ.1 18 0 (Int32.toNatClampNeg p2))) + 0) + 20)) 22 0 (Int32.toNatClampNeg ((p2 * 12) + p1)) p1)))) ∧
    (¬ p3 = 0 →
    vp_in ((p2 * 12) + p1) 588 ∧
      ((p3 = 0 →
      vp_in ((p2 * 12) + p1) 576 ∧
        Q none (wI (wI σ 21 0 (Int32.toNatClampNeg ((p2 * 12) + p1)) ((((σ.1 21 0 (Int32.toNatClampNeg (((p2 + 1) * 12) + p1))) + (σ.1 18 0 (Int32.toNatClampNeg p2))) + 0) + ((9 - (σ.1 10 f (Int32.toNatClampNeg p1))) - (σ.1 19 0 (Int32.toNatClampNeg ((p1 * 48) + p2)))))) 22 0 (Int32.toNatClampNeg ((p2 * 12) + p1)) (100 + p1))) ∧
      (¬ p3 = 0 →
      vp_in ((p2 * 12) + p1) 576 ∧
        Q none (wI (wI σ 21 0 (Int32.toNatClampNeg ((p2 * 12) + p1)) ((((σ.1 21 0 (Int32.toNatClampNeg (((p2 + 1) * 12) + p1))) + (σ.1 18 0 (Int32.toNatClampNeg p2))) + 0) + ((9 - (σ.1 10 f (Int32.toNatClampNeg p1))) - (σ.1 19 0 (Int32.toNatClampNeg ((p1 * 48) + p2)))))) 22 0 (Int32.toNatClampNeg ((p2 * 12) + p1)) p1)))))) ∧
  (p2 = 47 →
  ((p1 = (σ.1 9 f 4) →
    vp_in p1 12 ∧
      vp_in ((p1 * 48) + p2) 576 ∧
      ((p3 = 0 →
      vp_in ((p2 * 12) + p1) 588 ∧
        ((p3 = 0 →
        vp_in ((p2 * 12) + p1) 576 ∧
          Q none (wI (wI σ 21 0 (Int32.toNatClampNeg ((p2 * 12) + p1)) ((((σ.1 21 0 (Int32.toNatClampNeg (((p2 + 1) * 12) + p1))) + (σ.1 18 0 (Int32.toNatClampNeg p2))) + 0) + 20)) 22 0 (Int32.toNatClampNeg ((p2 * 12) + p1)) (100 + p1))) ∧
        (¬ p3 = 0 →
        vp_in ((p2 * 12) + p1) 576 ∧
          Q none (wI (wI σ 21 0 (Int32.toNatClampNeg ((p2 * 12) + p1)) ((((σ.1 21 0 (Int32.toNatClampNeg (((p2 + 1) * 12) + p1))) + (σ.1 18 0 (Int32.toNatClampNeg p2))) + 0) + 20)) 22 0 (Int32.toNatClampNeg ((p2 * 12) + p1)) p1)))) ∧
      (¬ p3 = 0 →
      vp_in ((p2 * 12) + p1) 588 ∧
        ((p3 = 0 →
        vp_in ((p2 * 12) + p1) 576 ∧
          Q none (wI (wI σ 21 0 (Int32.toNatClampNeg ((p2 * 12) + p1)) ((((σ.1 21 0 (Int32.toNatClampNeg (((p2 + 1) * 12) + p1))) + (σ.1 18 0 (Int32.toNatClampNeg p2))) + 0) + ((9 - (σ.1 10 f (Int32.toNatClampNeg p1))) - (σ.1 19 0 (Int32.toNatClampNeg ((p1 * 48) + p2)))))) 22 0 (Int32.toNatClampNeg ((p2 * 12) + p1)) (100 + p1))) ∧
        (¬ p3 = 0 →
        vp_in ((p2 * 12) + p1) 576 ∧
          Q none (wI (wI σ 21 0 (Int32.toNatClampNeg ((p2 * 12) + p1)) ((((σ.1 21 0 (Int32.toNatClampNeg (((p2 + 1) * 12) + p1))) + (σ.1 18 0 (Int32.toNatClampNeg p2))) + 0) + ((9 - (σ.1 10 f (Int32.toNatClampNeg p1))) - (σ.1 19 0 (Int32.toNatClampNeg ((p1 * 48) + p2)))))) 22 0 (Int32.toNatClampNeg ((p2 * 12) + p1)) p1)))))) ∧
    (¬ p1 = (σ.1 9 f 4) →
    vp_in p1 12 ∧
      vp_in ((p1 * 48) + p2) 576 ∧
      ((p3 = 0 →
      vp_in ((p2 * 12) + p1) 588 ∧
        ((p3 = 0 →
        vp_in ((p2 * 12) + p1) 576 ∧
          Q none (wI (wI σ 21 0 (Int32.toNatClampNeg ((p2 * 12) + p1)) ((((σ.1 21 0 (Int32.toNatClampNeg (((p2 + 1) * 12) + p1))) + (σ.1 18 0 (Int32.toNatClampNeg p2))) + 300) + 20)) 22 0 (Int32.toNatClampNeg ((p2 * 12) + p1)) (100 + p1))) ∧
        (¬ p3 = 0 →
        vp_in ((p2 * 12) + p1) 576 ∧
          Q none (wI (wI σ 21 0 (Int32.toNatClampNeg ((p2 * 12) + p1)) ((((σ.1 21 0 (Int32.toNatClampNeg (((p2 + 1) * 12) + p1))) + (σ.1 18 0 (Int32.toNatClampNeg p2))) + 300) + 20)) 22 0 (Int32.toNatClampNeg ((p2 * 12) + p1)) p1)))) ∧
      (¬ p3 = 0 →
      vp_in ((p2 * 12) + p1) 588 ∧
        ((p3 = 0 →
        vp_in ((p2 * 12) + p1) 576 ∧
          Q none (wI (wI σ 21 0 (Int32.toNatClampNeg ((p2 * 12) + p1)) ((((σ.1 21 0 (Int32.toNatClampNeg (((p2 + 1) * 12) + p1))) + (σ.1 18 0 (Int32.toNatClampNeg p2))) + 300) + ((9 - (σ.1 10 f (Int32.toNatClampNeg p1))) - (σ.1 19 0 (Int32.toNatClampNeg ((p1 * 48) + p2)))))) 22 0 (Int32.toNatClampNeg ((p2 * 12) + p1)) (100 + p1))) ∧
        (¬ p3 = 0 →
        vp_in ((p2 * 12) + p1) 576 ∧
          Q none (wI (wI σ 21 0 (Int32.toNatClampNeg ((p2 * 12) + p1)) ((((σ.1 21 0 (Int32.toNatClampNeg (((p2 + 1) * 12) + p1))) + (σ.1 18 0 (Int32.toNatClampNeg p2))) + 300) + ((9 - (σ.1 10 f (Int32.toNatClampNeg p1))) - (σ.1 19 0 (Int32.toNatClampNeg ((p1 * 48) + p2)))))) 22 0 (Int32.toNatClampNeg ((p2 * 12) + p1)) p1)))))))))) :
  Cal IX (d + 1) S_X2_stay [ar 17 0, ar 9 f, ai p1, ai p2, ai p3] σ Q := Cal_of (M := M_X2_stay) Sok_X2_stay (by decide +kernel) rfl (wp_J oki_X Mok_X2_stay (cuts := []) 400 0 _ [] σ h)
set_option maxRecDepth 10000 in
theorem r_X2_costOfWay_0 {d : Nat} {p0 : Int32} {p1 : Int32} {p2 : Int32} {σ : Mem} {Q : Option AV → Mem → Prop} (h :
  ((p1 < 48 →
  vp_in p1 49 ∧
    vp_in p0 49 ∧
    vp_in ((p1 * 12) + p2) 588 ∧
    Q (some (ai (((σ.1 20 0 (Int32.toNatClampNeg p1)) - (σ.1 20 0 (Int32.toNatClampNeg p0))) + (σ.1 21 0 (Int32.toNatClampNeg ((p1 * 12) + p2)))))) σ) ∧
  (¬ p1 < 48 →
  vp_in 48 49 ∧
    vp_in p0 49 ∧
    Q (some (ai (((σ.1 20 0 (Int32.toNatClampNeg 48)) - (σ.1 20 0 (Int32.toNatClampNeg p0))) + 300))) σ))) :
  Cal IX (d + 1) S_X2_costOfWay [ar 17 0, ai p0, ai p1, ai p2] σ Q := Cal_of (M := M_X2_costOfWay) Sok_X2_costOfWay (by decide +kernel) rfl (wp_J oki_X Mok_X2_costOfWay (cuts := []) 400 0 _ [] σ h)
set_option maxRecDepth 10000 in
theorem r_X3_hasKey_0 {d : Nat} {o : Nat} {p0 : Int32} {σ : Mem} {Q : Option AV → Mem → Prop} (h :
  ((((((σ.1 9 o 5).toUInt32 >>> (Int32.toUInt32 p0 &&& Int32.toUInt32 31)).toInt32) &&& 1) = 0 →
  ((0 : Int32) = 0 ∨ (0 : Int32) = 1) ∧ Q (some (ai 0)) σ) ∧
  (¬ ((((σ.1 9 o 5).toUInt32 >>> (Int32.toUInt32 p0 &&& Int32.toUInt32 31)).toInt32) &&& 1) = 0 →
  ((1 : Int32) = 0 ∨ (1 : Int32) = 1) ∧ Q (some (ai 1)) σ))) :
  Cal IX (d + 1) S_X3_hasKey [ar 9 o, ai p0] σ Q := Cal_of (M := M_X3_hasKey) Sok_X3_hasKey (by decide +kernel) rfl (wp_J oki_X Mok_X3_hasKey (cuts := []) 400 0 _ [] σ h)
set_option maxRecDepth 10000 in
theorem r_X3_takeBend_0 {d : Nat} {o : Nat} {p0 : Int32} {p1 : Int32} {p2 : Int32} {σ : Mem} {Q : Option AV → Mem → Prop} (h :
  ((1 : Int32) = 0 ∨ (1 : Int32) = 1) ∧
  Q none (wI (wI (wI (wI σ 9 o 12 1) 9 o 7 p0) 9 o 8 p1) 9 o 9 p2)) :
  Cal IX (d + 1) S_X3_takeBend [ar 9 o, ai p0, ai p1, ai p2] σ Q := Cal_of (M := M_X3_takeBend) Sok_X3_takeBend (by decide +kernel) rfl (wp_J oki_X Mok_X3_takeBend (cuts := []) 400 0 _ [] σ h)
set_option maxRecDepth 10000 in
theorem r_X3_leave_0 {d : Nat} {o : Nat} {p0 : Int32} {σ : Mem} {Q : Option AV → Mem → Prop} (h :
  ((1 : Int32) = 0 ∨ (1 : Int32) = 1) ∧
  ((0 : Int32) = 0 ∨ (0 : Int32) = 1) ∧
  J IX M_X3_leave (d + 1) 12 [(0, ar 9 o), (2, ai p0)] [] (wI (wI σ 9 o 13 1) 9 o 12 0) Q) :
  Cal IX (d + 1) S_X3_leave [ar 9 o, ai p0] σ Q := Cal_of (M := M_X3_leave) Sok_X3_leave (by decide +kernel) rfl (wp_J oki_X Mok_X3_leave (cuts := [(12, [0, 2])]) 400 0 _ [] σ h)
set_option maxRecDepth 10000 in
theorem r_X3_leave_12 {d : Nat} {v0 : Nat} {v2 : Int32} {σ : Mem} {Q : Option AV → Mem → Prop} (h :
  ((48 ≤ v2 →
  Q none σ) ∧
  (¬ 48 ≤ v2 →
  vp_in v2 48 ∧
    J IX M_X3_leave (d + 1) 12 [(0, ar 9 v0), (2, ai (v2 + 1))] [] (wI σ 12 v0 (Int32.toNatClampNeg v2) (-1)) Q))) :
  J IX M_X3_leave (d + 1) 12 [(0, ar 9 v0), (2, ai v2)] [] σ Q := wp_J oki_X Mok_X3_leave (cuts := [(12, [0, 2])]) 400 12 _ [] σ h
set_option maxRecDepth 10000 in
theorem r_X3_isDueIn_0 {d : Nat} {o : Nat} {p0 : Int32} {p1 : Int32} {σ : Mem} {Q : Option AV → Mem → Prop} (h :
  J IX M_X3_isDueIn (d + 1) 2 [(0, ar 9 o), (1, ai p0), (3, ai p1)] [] σ Q) :
  Cal IX (d + 1) S_X3_isDueIn [ar 9 o, ai p0, ai p1] σ Q := Cal_of (M := M_X3_isDueIn) Sok_X3_isDueIn (by decide +kernel) rfl (wp_J oki_X Mok_X3_isDueIn (cuts := [(2, [0, 1, 3])]) 400 0 _ [] σ h)
set_option maxRecDepth 10000 in
theorem r_X3_isDueIn_2 {d : Nat} {v0 : Nat} {v1 : Int32} {v3 : Int32} {σ : Mem} {Q : Option AV → Mem → Prop} (h :
  ((48 ≤ v3 →
  ((0 : Int32) = 0 ∨ (0 : Int32) = 1) ∧ Q (some (ai 0)) σ) ∧
  (¬ 48 ≤ v3 →
  vp_in v3 48 ∧
    ((¬ (σ.1 12 v0 (Int32.toNatClampNeg v3)) = v1 →
    J IX M_X3_isDueIn (d + 1) 2 [(0, ar 9 v0), (1, ai v1), (3, ai (v3 + 1))] [] σ Q) ∧
    ((σ.1 12 v0 (Int32.toNatClampNeg v3)) = v1 →
    ((1 : Int32) = 0 ∨ (1 : Int32) = 1) ∧ Q (some (ai 1)) σ))))) :
  J IX M_X3_isDueIn (d + 1) 2 [(0, ar 9 v0), (1, ai v1), (3, ai v3)] [] σ Q := wp_J oki_X Mok_X3_isDueIn (cuts := [(2, [0, 1, 3])]) 400 2 _ [] σ h
set_option maxRecDepth 10000 in
theorem r_X3_freeFrom_0 {d : Nat} {o : Nat} {p0 : Int32} {σ : Mem} {Q : Option AV → Mem → Prop} (h :
  ((p0 = 0 →
  Q (some (ai p0)) σ) ∧
  (¬ p0 = 0 →
  vp_in (p0 - 1) 48 ∧
    ((200 ≤ (σ.1 12 o (Int32.toNatClampNeg (p0 - 1))) →
    J IX M_X3_freeFrom (d + 1) 22 [(0, ar 9 o), (1, ai p0), (2, ai p0)] [] σ Q) ∧
    (¬ 200 ≤ (σ.1 12 o (Int32.toNatClampNeg (p0 - 1))) →
    Q (some (ai p0)) σ))))) :
  Cal IX (d + 1) S_X3_freeFrom [ar 9 o, ai p0] σ Q := Cal_of (M := M_X3_freeFrom) Sok_X3_freeFrom (by decide +kernel) rfl (wp_J oki_X Mok_X3_freeFrom (cuts := [(22, [0, 1, 2])]) 400 0 _ [] σ h)
set_option maxRecDepth 10000 in
theorem r_X3_freeFrom_22 {d : Nat} {v0 : Nat} {v1 : Int32} {v2 : Int32} {σ : Mem} {Q : Option AV → Mem → Prop} (h :
  ((48 ≤ v2 →
  Q (some (ai 48)) σ) ∧
  (¬ 48 ≤ v2 →
  vp_in v2 48 ∧
    vp_in (v1 - 1) 48 ∧
    (((σ.1 12 v0 (Int32.toNatClampNeg v2)) = (σ.1 12 v0 (Int32.toNatClampNeg (v1 - 1))) →
    J IX M_X3_freeFrom (d + 1) 22 [(0, ar 9 v0), (1, ai v1), (2, ai (v2 + 1))] [] σ Q) ∧
    (¬ (σ.1 12 v0 (Int32.toNatClampNeg v2)) = (σ.1 12 v0 (Int32.toNatClampNeg (v1 - 1))) →
    Q (some (ai v2)) σ))))) :
  J IX M_X3_freeFrom (d + 1) 22 [(0, ar 9 v0), (1, ai v1), (2, ai v2)] [] σ Q := wp_J oki_X Mok_X3_freeFrom (cuts := [(22, [0, 1, 2])]) 400 22 _ [] σ h
set_option maxRecDepth 10000 in
theorem r_X3_standsAt_0 {d : Nat} {o : Nat} {p0 : Int32} {σ : Mem} {Q : Option AV → Mem → Prop} (h :
  ((¬ p0 = 0 →
  vp_in (p0 - 1) 48 ∧
    (((σ.1 12 o (Int32.toNatClampNeg (p0 - 1))) < 200 →
    (((σ.1 12 o (Int32.toNatClampNeg (p0 - 1))) < 100 →
      Q (some (ai (σ.1 12 o (Int32.toNatClampNeg (p0 - 1))))) σ) ∧
      (¬ (σ.1 12 o (Int32.toNatClampNeg (p0 - 1))) < 100 →
      Q (some (ai ((σ.1 12 o (Int32.toNatClampNeg (p0 - 1))) - 100))) σ))) ∧
    (¬ (σ.1 12 o (Int32.toNatClampNeg (p0 - 1))) < 200 →
    ¬ (12 : Int32) = 0 ∧
      Q (some (ai (((σ.1 12 o (Int32.toNatClampNeg (p0 - 1))) - 200) - ((σ.1 12 o (Int32.toNatClampNeg (p0 - 1))) - 200) / 12 * 12))) σ))) ∧
  (p0 = 0 →
  (((σ.1 9 o 4) < 200 →
    (((σ.1 9 o 4) < 100 →
      Q (some (ai (σ.1 9 o 4))) σ) ∧
      (¬ (σ.1 9 o 4) < 100 →
      Q (some (ai ((σ.1 9 o 4) - 100))) σ))) ∧
    (¬ (σ.1 9 o 4) < 200 →
    ¬ (12 : Int32) = 0 ∧
      Q (some (ai (((σ.1 9 o 4) - 200) - ((σ.1 9 o 4) - 200) / 12 * 12))) σ))))) :
  Cal IX (d + 1) S_X3_standsAt [ar 9 o, ai p0] σ Q := Cal_of (M := M_X3_standsAt) Sok_X3_standsAt (by decide +kernel) rfl (wp_J oki_X Mok_X3_standsAt (cuts := []) 400 0 _ [] σ h)
set_option maxRecDepth 10000 in
theorem r_X3_learn_0 {d : Nat} {o : Nat} {p0 : Int32} {p1 : Int32} {σ : Mem} {Q : Option AV → Mem → Prop} (h :
  J IX M_X3_learn (d + 1) 2 [(0, ar 9 o), (1, ai p0), (2, ai p1), (3, ai 0)] [] σ Q) :
  Cal IX (d + 1) S_X3_learn [ar 9 o, ai p0, ai p1] σ Q := Cal_of (M := M_X3_learn) Sok_X3_learn (by decide +kernel) rfl (wp_J oki_X Mok_X3_learn (cuts := [(2, [0, 1, 2, 3])]) 400 0 _ [] σ h)
set_option maxRecDepth 10000 in
theorem r_X3_learn_2 {d : Nat} {v0 : Nat} {v1 : Int32} {v2 : Int32} {v3 : Int32} {σ : Mem} {Q : Option AV → Mem → Prop} (h :
  ((12 ≤ v3 →
  Q none (wI σ 9 v0 11 ((σ.1 9 v0 11) ||| v1))) ∧
  (¬ 12 ≤ v3 →
  (((((v1.toUInt32 >>> (Int32.toUInt32 v3 &&& Int32.toUInt32 31)).toInt32) &&& 1) = 0 →
    J IX M_X3_learn (d + 1) 2 [(0, ar 9 v0), (1, ai v1), (2, ai v2), (3, ai (v3 + 1))] [] σ Q) ∧
    (¬ (((v1.toUInt32 >>> (Int32.toUInt32 v3 &&& Int32.toUInt32 31)).toInt32) &&& 1) = 0 →
    ((¬ ((((σ.1 9 v0 11).toUInt32 >>> (Int32.toUInt32 v3 &&& Int32.toUInt32 31)).toInt32) &&& 1) = 0 →
      J IX M_X3_learn (d + 1) 2 [(0, ar 9 v0), (1, ai v1), (2, ai v2), (3, ai (v3 + 1))] [] σ Q) ∧
      (((((σ.1 9 v0 11).toUInt32 >>> (Int32.toUInt32 v3 &&& Int32.toUInt32 31)).toInt32) &&& 1) = 0 →
      vp_in v3 12 ∧
        J IX M_X3_learn (d + 1) 2 [(0, ar 9 v0), (1, ai v1), (2, ai v2), (3, ai (v3 + 1))] [] (wI σ 13 v0 (Int32.toNatClampNeg v3) v2) Q))))))) :
  J IX M_X3_learn (d + 1) 2 [(0, ar 9 v0), (1, ai v1), (2, ai v2), (3, ai v3)] [] σ Q := wp_J oki_X Mok_X3_learn (cuts := [(2, [0, 1, 2, 3])]) 400 2 _ [] σ h
set_option maxRecDepth 10000 in
theorem r_X4_taken_0 {d : Nat} {p0 : Int32} {p1 : Int32} {σ : Mem} {Q : Option AV → Mem → Prop} (h :
  vp_in ((p0 * 48) + p1) 576 ∧
  Q (some (ai (σ.1 16 0 (Int32.toNatClampNeg ((p0 * 48) + p1))))) σ) :
  Cal IX (d + 1) S_X4_taken [ar 15 0, ai p0, ai p1] σ Q := Cal_of (M := M_X4_taken) Sok_X4_taken (by decide +kernel) rfl (wp_J oki_X Mok_X4_taken (cuts := []) 400 0 _ [] σ h)
set_option maxRecDepth 10000 in
theorem r_X5_isRow_0 {d : Nat} {o : Nat} {σ : Mem} {Q : Option AV → Mem → Prop} (h :
  (((σ.1 7 o 2) = (-1) →
  ((0 : Int32) = 0 ∨ (0 : Int32) = 1) ∧ Q (some (ai 0)) σ) ∧
  (¬ (σ.1 7 o 2) = (-1) →
  ((1 : Int32) = 0 ∨ (1 : Int32) = 1) ∧ Q (some (ai 1)) σ))) :
  Cal IX (d + 1) S_X5_isRow [ar 7 o] σ Q := Cal_of (M := M_X5_isRow) Sok_X5_isRow (by decide +kernel) rfl (wp_J oki_X Mok_X5_isRow (cuts := []) 400 0 _ [] σ h)
set_option maxRecDepth 10000 in
theorem r_X5_isPerson_0 {d : Nat} {o : Nat} {σ : Mem} {Q : Option AV → Mem → Prop} (h :
  (((σ.1 7 o 1) = (-1) →
  ((0 : Int32) = 0 ∨ (0 : Int32) = 1) ∧ Q (some (ai 0)) σ) ∧
  (¬ (σ.1 7 o 1) = (-1) →
  ((1 : Int32) = 0 ∨ (1 : Int32) = 1) ∧ Q (some (ai 1)) σ))) :
  Cal IX (d + 1) S_X5_isPerson [ar 7 o] σ Q := Cal_of (M := M_X5_isPerson) Sok_X5_isPerson (by decide +kernel) rfl (wp_J oki_X Mok_X5_isPerson (cuts := []) 400 0 _ [] σ h)
set_option maxRecDepth 10000 in
theorem r_X5_clear_0 {d : Nat} {o : Nat} {σ : Mem} {Q : Option AV → Mem → Prop} (h :
  Q none (wI (wI (wI σ 7 o 1 (-1)) 7 o 2 (-1)) 7 o 3 0)) :
  Cal IX (d + 1) S_X5_clear [ar 7 o] σ Q := Cal_of (M := M_X5_clear) Sok_X5_clear (by decide +kernel) rfl (wp_J oki_X Mok_X5_clear (cuts := []) 400 0 _ [] σ h)
set_option maxRecDepth 10000 in
theorem r_X5_write_0 {d : Nat} {o : Nat} {p0 : Int32} {p1 : Int64} {σ : Mem} {Q : Option AV → Mem → Prop} (h :
  ((Int32.toInt (σ.1 7 o 2) < 0 ∨ 2 < Int32.toInt (σ.1 7 o 2) →
  vp_in p0 60 ∧
    Q none (wL σ 8 o (Int32.toNatClampNeg p0) p1)) ∧
  (Int32.toInt (σ.1 7 o 2) = 0 →
  vp_in p0 60 ∧
    Q none (wL σ 8 o (Int32.toNatClampNeg p0) (Int32.toInt64 (Int32.toInt8 (Int64.toInt32 p1)).toInt32))) ∧
  (Int32.toInt (σ.1 7 o 2) = 1 →
  vp_in p0 60 ∧
    Q none (wL σ 8 o (Int32.toNatClampNeg p0) (Int32.toInt64 (Int32.toInt16 (Int64.toInt32 p1)).toInt32))) ∧
  (Int32.toInt (σ.1 7 o 2) = 2 →
  vp_in p0 60 ∧
    Q none (wL σ 8 o (Int32.toNatClampNeg p0) (Int32.toInt64 (Int64.toInt32 p1)))) ∧ True)) :
  Cal IX (d + 1) S_X5_write [ar 7 o, ai p0, al p1] σ Q := Cal_of (M := M_X5_write) Sok_X5_write (by decide +kernel) rfl (wp_J oki_X Mok_X5_write (cuts := []) 400 0 _ [] σ h)
set_option maxRecDepth 10000 in
theorem r_X5_asInt_0 {d : Nat} {o : Nat} {p0 : Int32} {σ : Mem} {Q : Option AV → Mem → Prop} (h :
  vp_in p0 60 ∧
  Q (some (ai (Int64.toInt32 (σ.2 8 o (Int32.toNatClampNeg p0))))) σ) :
  Cal IX (d + 1) S_X5_asInt [ar 7 o, ai p0] σ Q := Cal_of (M := M_X5_asInt) Sok_X5_asInt (by decide +kernel) rfl (wp_J oki_X Mok_X5_asInt (cuts := []) 400 0 _ [] σ h)
set_option maxRecDepth 10000 in
theorem r_X6_has_0 {d : Nat} {p0 : Int32} {σ : Mem} {Q : Option AV → Mem → Prop} (h :
  ((p0 < 0 →
  ((0 : Int32) = 0 ∨ (0 : Int32) = 1) ∧ Q (some (ai 0)) σ) ∧
  (¬ p0 < 0 →
  (((σ.1 1 0 5) ≤ p0 →
    ((0 : Int32) = 0 ∨ (0 : Int32) = 1) ∧ Q (some (ai 0)) σ) ∧
    (¬ (σ.1 1 0 5) ≤ p0 →
    ((1 : Int32) = 0 ∨ (1 : Int32) = 1) ∧ Q (some (ai 1)) σ))))) :
  Cal IX (d + 1) S_X6_has [ar 1 0, ai p0] σ Q := Cal_of (M := M_X6_has) Sok_X6_has (by decide +kernel) rfl (wp_J oki_X Mok_X6_has (cuts := []) 400 0 _ [] σ h)
set_option maxRecDepth 10000 in
theorem r_X6_addPlace_0 {d : Nat} {p0 : Int32} {p1 : Int32} {p2 : Int32} {σ : Mem} {Q : Option AV → Mem → Prop} (h :
  vp_in (σ.1 1 0 5) 12 ∧
  vp_in (σ.1 1 0 5) 12 ∧
  vp_in (σ.1 1 0 5) 12 ∧
  J IX M_X6_addPlace (d + 1) 43 [(0, ar 1 0), (4, ai (σ.1 1 0 5)), (5, ai 0)] [] (wI (wI (wI (wI σ 1 0 5 ((σ.1 1 0 5) + 1)) 2 0 (Int32.toNatClampNeg (σ.1 1 0 5)) p0) 3 0 (Int32.toNatClampNeg (σ.1 1 0 5)) p1) 4 0 (Int32.toNatClampNeg (σ.1 1 0 5)) p2) Q) :
  Cal IX (d + 1) S_X6_addPlace [ar 1 0, ai p0, ai p1, ai p2] σ Q := Cal_of (M := M_X6_addPlace) Sok_X6_addPlace (by decide +kernel) rfl (wp_J oki_X Mok_X6_addPlace (cuts := [(43, [0, 4, 5])]) 400 0 _ [] σ h)
set_option maxRecDepth 10000 in
theorem r_X6_addPlace_43 {d : Nat} {v4 : Int32} {v5 : Int32} {σ : Mem} {Q : Option AV → Mem → Prop} (h :
  ((v4 < v5 →
  vp_in ((v4 * 12) + v4) 144 ∧
    Q (some (ai v4)) (wI σ 6 0 (Int32.toNatClampNeg ((v4 * 12) + v4)) 0)) ∧
  (¬ v4 < v5 →
  vp_in ((v4 * 12) + v5) 144 ∧
    vp_in ((v5 * 12) + v4) 144 ∧
    J IX M_X6_addPlace (d + 1) 43 [(0, ar 1 0), (4, ai v4), (5, ai (v5 + 1))] [] (wI (wI σ 6 0 (Int32.toNatClampNeg ((v4 * 12) + v5)) (-1)) 6 0 (Int32.toNatClampNeg ((v5 * 12) + v4)) (-1)) Q))) :
  J IX M_X6_addPlace (d + 1) 43 [(0, ar 1 0), (4, ai v4), (5, ai v5)] [] σ Q := wp_J oki_X Mok_X6_addPlace (cuts := [(43, [0, 4, 5])]) 400 43 _ [] σ h
set_option maxRecDepth 10000 in
theorem r_X6_shorten_0 {d : Nat} {p0 : Int32} {p1 : Int32} {p2 : Int32} {p3 : Int32} {p4 : Int32} {σ : Mem} {Q : Option AV → Mem → Prop} (h :
  ((p2 = (-1) →
  Q none σ) ∧
  (¬ p2 = (-1) →
  ((¬ p3 = (-1) →
    vp_in ((p0 * 12) + p1) 144 ∧
      (((σ.1 6 0 (Int32.toNatClampNeg ((p0 * 12) + p1))) = (-1) →
      vp_in ((p0 * 12) + p1) 144 ∧
        Q none (wI σ 6 0 (Int32.toNatClampNeg ((p0 * 12) + p1)) ((p2 + p4) + p3))) ∧
      (¬ (σ.1 6 0 (Int32.toNatClampNeg ((p0 * 12) + p1))) = (-1) →
      (((σ.1 6 0 (Int32.toNatClampNeg ((p0 * 12) + p1))) ≤ ((p2 + p4) + p3) →
        Q none σ) ∧
        (¬ (σ.1 6 0 (Int32.toNatClampNeg ((p0 * 12) + p1))) ≤ ((p2 + p4) + p3) →
        vp_in ((p0 * 12) + p1) 144 ∧
          Q none (wI σ 6 0 (Int32.toNatClampNeg ((p0 * 12) + p1)) ((p2 + p4) + p3))))))) ∧
    (p3 = (-1) →
    Q none σ))))) :
  Cal IX (d + 1) S_X6_shorten [ar 1 0, ai p0, ai p1, ai p2, ai p3, ai p4] σ Q := Cal_of (M := M_X6_shorten) Sok_X6_shorten (by decide +kernel) rfl (wp_J oki_X Mok_X6_shorten (cuts := []) 400 0 _ [] σ h)
set_option maxRecDepth 10000 in
theorem r_X6_apart_0 {d : Nat} {p0 : Int32} {p1 : Int32} {σ : Mem} {Q : Option AV → Mem → Prop} (h :
  vp_in ((p0 * 12) + p1) 144 ∧
  Q (some (ai (σ.1 6 0 (Int32.toNatClampNeg ((p0 * 12) + p1))))) σ) :
  Cal IX (d + 1) S_X6_apart [ar 1 0, ai p0, ai p1] σ Q := Cal_of (M := M_X6_apart) Sok_X6_apart (by decide +kernel) rfl (wp_J oki_X Mok_X6_apart (cuts := []) 400 0 _ [] σ h)
set_option maxRecDepth 10000 in
theorem r_X6_wayTicks_0 {d : Nat} {p0 : Int32} {p1 : Int32} {σ : Mem} {Q : Option AV → Mem → Prop} (h :
  vp_in ((p0 * 12) + p1) 144 ∧
  Q (some (ai (σ.1 5 0 (Int32.toNatClampNeg ((p0 * 12) + p1))))) σ) :
  Cal IX (d + 1) S_X6_wayTicks [ar 1 0, ai p0, ai p1] σ Q := Cal_of (M := M_X6_wayTicks) Sok_X6_wayTicks (by decide +kernel) rfl (wp_J oki_X Mok_X6_wayTicks (cuts := []) 400 0 _ [] σ h)
set_option maxRecDepth 10000 in
theorem r_X6_isOpen_0 {d : Nat} {p0 : Int32} {p1 : Int32} {σ : Mem} {Q : Option AV → Mem → Prop} (h :
  vp_in p0 12 ∧
  ((p1 < (σ.1 3 0 (Int32.toNatClampNeg p0)) →
  ((0 : Int32) = 0 ∨ (0 : Int32) = 1) ∧ Q (some (ai 0)) σ) ∧
  (¬ p1 < (σ.1 3 0 (Int32.toNatClampNeg p0)) →
  vp_in p0 12 ∧
    (((σ.1 4 0 (Int32.toNatClampNeg p0)) ≤ p1 →
    ((0 : Int32) = 0 ∨ (0 : Int32) = 1) ∧ Q (some (ai 0)) σ) ∧
    (¬ (σ.1 4 0 (Int32.toNatClampNeg p0)) ≤ p1 →
    ((1 : Int32) = 0 ∨ (1 : Int32) = 1) ∧ Q (some (ai 1)) σ))))) :
  Cal IX (d + 1) S_X6_isOpen [ar 1 0, ai p0, ai p1] σ Q := Cal_of (M := M_X6_isOpen) Sok_X6_isOpen (by decide +kernel) rfl (wp_J oki_X Mok_X6_isOpen (cuts := []) 400 0 _ [] σ h)
set_option maxRecDepth 10000 in
theorem r_X7_refuse_0 {d : Nat} {p0 : Int32} {σ : Mem} {Q : Option AV → Mem → Prop} (h :
  (((-1) < p0 →
  Q (some (ai p0)) σ) ∧
  (¬ (-1) < p0 →
  ((p0 < (-7) →
    Q (some (ai p0)) σ) ∧
    (¬ p0 < (-7) →
    vp_in (-p0) 8 ∧
      vp_in (-p0) 8 ∧
      Q (some (ai p0)) (wI σ 28 0 (Int32.toNatClampNeg (-p0)) ((σ.1 28 0 (Int32.toNatClampNeg (-p0))) + 1))))))) :
  Cal IX (d + 1) S_X7_refuse [ar 0 0, ai p0] σ Q := Cal_of (M := M_X7_refuse) Sok_X7_refuse (by decide +kernel) rfl (wp_J oki_X Mok_X7_refuse (cuts := []) 400 0 _ [] σ h)
set_option maxRecDepth 10000 in
theorem r_X7_refusalsOf_0 {d : Nat} {p0 : Int32} {σ : Mem} {Q : Option AV → Mem → Prop} (h :
  (((-1) < p0 →
  Q (some (ai (-1))) σ) ∧
  (¬ (-1) < p0 →
  ((p0 < (-7) →
    Q (some (ai (-1))) σ) ∧
    (¬ p0 < (-7) →
    vp_in (-p0) 8 ∧
      Q (some (ai (σ.1 28 0 (Int32.toNatClampNeg (-p0))))) σ))))) :
  Cal IX (d + 1) S_X7_refusalsOf [ar 0 0, ai p0] σ Q := Cal_of (M := M_X7_refusalsOf) Sok_X7_refusalsOf (by decide +kernel) rfl (wp_J oki_X Mok_X7_refusalsOf (cuts := []) 400 0 _ [] σ h)
set_option maxRecDepth 10000 in
theorem r_X7_isShelf_0 {d : Nat} {p0 : Int32} {σ : Mem} {Q : Option AV → Mem → Prop} (h :
  ((p0 < 0 →
  ((0 : Int32) = 0 ∨ (0 : Int32) = 1) ∧ Q (some (ai 0)) σ) ∧
  (¬ p0 < 0 →
  ((8 ≤ p0 →
    ((0 : Int32) = 0 ∨ (0 : Int32) = 1) ∧ Q (some (ai 0)) σ) ∧
    (¬ 8 ≤ p0 →
    ((1 : Int32) = 0 ∨ (1 : Int32) = 1) ∧ Q (some (ai 1)) σ))))) :
  Cal IX (d + 1) S_X7_isShelf [ai p0] σ Q := Cal_of (M := M_X7_isShelf) Sok_X7_isShelf (by decide +kernel) rfl (wp_J oki_X Mok_X7_isShelf (cuts := []) 400 0 _ [] σ h)
set_option maxRecDepth 10000 in
theorem r_X7_isSpan_0 {d : Nat} {p0 : Int32} {p1 : Int32} {σ : Mem} {Q : Option AV → Mem → Prop} (h :
  ((p0 < 0 →
  ((0 : Int32) = 0 ∨ (0 : Int32) = 1) ∧ Q (some (ai 0)) σ) ∧
  (¬ p0 < 0 →
  ((p1 ≤ p0 →
    ((0 : Int32) = 0 ∨ (0 : Int32) = 1) ∧ Q (some (ai 0)) σ) ∧
    (¬ p1 ≤ p0 →
    ((48 < p1 →
      ((0 : Int32) = 0 ∨ (0 : Int32) = 1) ∧ Q (some (ai 0)) σ) ∧
      (¬ 48 < p1 →
      ((1 : Int32) = 0 ∨ (1 : Int32) = 1) ∧ Q (some (ai 1)) σ))))))) :
  Cal IX (d + 1) S_X7_isSpan [ai p0, ai p1] σ Q := Cal_of (M := M_X7_isSpan) Sok_X7_isSpan (by decide +kernel) rfl (wp_J oki_X Mok_X7_isSpan (cuts := []) 400 0 _ [] σ h)
set_option maxRecDepth 10000 in
theorem r_X7_isTick_0 {d : Nat} {p0 : Int32} {σ : Mem} {Q : Option AV → Mem → Prop} (h :
  ((p0 < 0 →
  ((0 : Int32) = 0 ∨ (0 : Int32) = 1) ∧ Q (some (ai 0)) σ) ∧
  (¬ p0 < 0 →
  ((48 ≤ p0 →
    ((0 : Int32) = 0 ∨ (0 : Int32) = 1) ∧ Q (some (ai 0)) σ) ∧
    (¬ 48 ≤ p0 →
    ((1 : Int32) = 0 ∨ (1 : Int32) = 1) ∧ Q (some (ai 1)) σ))))) :
  Cal IX (d + 1) S_X7_isTick [ai p0] σ Q := Cal_of (M := M_X7_isTick) Sok_X7_isTick (by decide +kernel) rfl (wp_J oki_X Mok_X7_isTick (cuts := []) 400 0 _ [] σ h)
set_option maxRecDepth 10000 in
theorem r_X7_isWeight_0 {d : Nat} {p0 : Int32} {σ : Mem} {Q : Option AV → Mem → Prop} (h :
  ((p0 < 1 →
  ((0 : Int32) = 0 ∨ (0 : Int32) = 1) ∧ Q (some (ai 0)) σ) ∧
  (¬ p0 < 1 →
  ((100 < p0 →
    ((0 : Int32) = 0 ∨ (0 : Int32) = 1) ∧ Q (some (ai 0)) σ) ∧
    (¬ 100 < p0 →
    ((1 : Int32) = 0 ∨ (1 : Int32) = 1) ∧ Q (some (ai 1)) σ))))) :
  Cal IX (d + 1) S_X7_isWeight [ai p0] σ Q := Cal_of (M := M_X7_isWeight) Sok_X7_isWeight (by decide +kernel) rfl (wp_J oki_X Mok_X7_isWeight (cuts := []) 400 0 _ [] σ h)
set_option maxRecDepth 10000 in
theorem r_X7_wasEver_0 {d : Nat} {p0 : Int32} {σ : Mem} {Q : Option AV → Mem → Prop} (h :
  ((p0 < 0 →
  ((0 : Int32) = 0 ∨ (0 : Int32) = 1) ∧ Q (some (ai 0)) σ) ∧
  (¬ p0 < 0 →
  (((σ.1 0 0 9) ≤ p0 →
    ((0 : Int32) = 0 ∨ (0 : Int32) = 1) ∧ Q (some (ai 0)) σ) ∧
    (¬ (σ.1 0 0 9) ≤ p0 →
    ((1 : Int32) = 0 ∨ (1 : Int32) = 1) ∧ Q (some (ai 1)) σ))))) :
  Cal IX (d + 1) S_X7_wasEver [ar 0 0, ai p0] σ Q := Cal_of (M := M_X7_wasEver) Sok_X7_wasEver (by decide +kernel) rfl (wp_J oki_X Mok_X7_wasEver (cuts := []) 400 0 _ [] σ h)
set_option maxRecDepth 10000 in
theorem r_X7_countHere_0 {d : Nat}  {σ : Mem} {Q : Option AV → Mem → Prop} (h :
  J IX M_X7_countHere (d + 1) 4 [(0, ar 0 0), (1, ai 0), (2, ai 0)] [] σ Q) :
  Cal IX (d + 1) S_X7_countHere [ar 0 0] σ Q := Cal_of (M := M_X7_countHere) Sok_X7_countHere (by decide +kernel) rfl (wp_J oki_X Mok_X7_countHere (cuts := [(4, [0, 1, 2])]) 400 0 _ [] σ h)
set_option maxRecDepth 10000 in
theorem r_X7_countHere_4 {d : Nat} {v1 : Int32} {v2 : Int32} {σ : Mem} {Q : Option AV → Mem → Prop} (h :
  (((σ.1 0 0 9) ≤ v2 →
  Q (some (ai v1)) σ) ∧
  (¬ (σ.1 0 0 9) ≤ v2 →
  vp_in v2 20 ∧
    (((σ.1 9 (Int32.toNatClampNeg v2) 13) = 0 →
    J IX M_X7_countHere (d + 1) 4 [(0, ar 0 0), (1, ai (v1 + 1)), (2, ai (v2 + 1))] [] σ Q) ∧
    (¬ (σ.1 9 (Int32.toNatClampNeg v2) 13) = 0 →
    J IX M_X7_countHere (d + 1) 4 [(0, ar 0 0), (1, ai (v1 + 0)), (2, ai (v2 + 1))] [] σ Q))))) :
  J IX M_X7_countHere (d + 1) 4 [(0, ar 0 0), (1, ai v1), (2, ai v2)] [] σ Q := wp_J oki_X Mok_X7_countHere (cuts := [(4, [0, 1, 2])]) 400 4 _ [] σ h
set_option maxRecDepth 10000 in
theorem r_X7_countBent_0 {d : Nat}  {σ : Mem} {Q : Option AV → Mem → Prop} (h :
  J IX M_X7_countBent (d + 1) 4 [(0, ar 0 0), (1, ai 0), (2, ai 0)] [] σ Q) :
  Cal IX (d + 1) S_X7_countBent [ar 0 0] σ Q := Cal_of (M := M_X7_countBent) Sok_X7_countBent (by decide +kernel) rfl (wp_J oki_X Mok_X7_countBent (cuts := [(4, [0, 1, 2])]) 400 0 _ [] σ h)
set_option maxRecDepth 10000 in
theorem r_X7_countBent_4 {d : Nat} {v1 : Int32} {v2 : Int32} {σ : Mem} {Q : Option AV → Mem → Prop} (h :
  (((σ.1 0 0 9) ≤ v2 →
  Q (some (ai v1)) σ) ∧
  (¬ (σ.1 0 0 9) ≤ v2 →
  vp_in v2 20 ∧
    (((σ.1 9 (Int32.toNatClampNeg v2) 12) = 0 →
    J IX M_X7_countBent (d + 1) 4 [(0, ar 0 0), (1, ai (v1 + 0)), (2, ai (v2 + 1))] [] σ Q) ∧
    (¬ (σ.1 9 (Int32.toNatClampNeg v2) 12) = 0 →
    J IX M_X7_countBent (d + 1) 4 [(0, ar 0 0), (1, ai (v1 + 1)), (2, ai (v2 + 1))] [] σ Q))))) :
  J IX M_X7_countBent (d + 1) 4 [(0, ar 0 0), (1, ai v1), (2, ai v2)] [] σ Q := wp_J oki_X Mok_X7_countBent (cuts := [(4, [0, 1, 2])]) 400 4 _ [] σ h
set_option maxRecDepth 10000 in
theorem r_X7_moment_0 {d : Nat}  {σ : Mem} {Q : Option AV → Mem → Prop} (h :
  Q (some (ai (((σ.1 0 0 15) * 48) + (σ.1 0 0 14)))) σ) :
  Cal IX (d + 1) S_X7_moment [ar 0 0] σ Q := Cal_of (M := M_X7_moment) Sok_X7_moment (by decide +kernel) rfl (wp_J oki_X Mok_X7_moment (cuts := []) 400 0 _ [] σ h)
set_option maxRecDepth 10000 in
theorem r_X7_isIn_0 {d : Nat} {p0 : Int32} {σ : Mem} {Q : Option AV → Mem → Prop} (h :
  ((p0 < 0 →
  ((0 : Int32) = 0 ∨ (0 : Int32) = 1) ∧ Q (some (ai 0)) σ) ∧
  (¬ p0 < 0 →
  ((12 ≤ p0 →
    ((0 : Int32) = 0 ∨ (0 : Int32) = 1) ∧ Q (some (ai 0)) σ) ∧
    (¬ 12 ≤ p0 →
    ((1 : Int32) = 0 ∨ (1 : Int32) = 1) ∧ Q (some (ai 1)) σ))))) :
  Cal IX (d + 1) S_X7_isIn [ai p0] σ Q := Cal_of (M := M_X7_isIn) Sok_X7_isIn (by decide +kernel) rfl (wp_J oki_X Mok_X7_isIn (cuts := []) 400 0 _ [] σ h)
set_option maxRecDepth 10000 in
theorem r_X8_in_0 {d : Nat} {p0 : Int32} {p1 : Int32} {p2 : Int32} {σ : Mem} {Q : Option AV → Mem → Prop} (h :
  ((p0 < p1 →
  ((0 : Int32) = 0 ∨ (0 : Int32) = 1) ∧ Q (some (ai 0)) σ) ∧
  (¬ p0 < p1 →
  ((p2 < p0 →
    ((0 : Int32) = 0 ∨ (0 : Int32) = 1) ∧ Q (some (ai 0)) σ) ∧
    (¬ p2 < p0 →
    ((1 : Int32) = 0 ∨ (1 : Int32) = 1) ∧ Q (some (ai 1)) σ))))) :
  Cal IM (d + 1) S_X8_in [ai p0, ai p1, ai p2] σ Q := fun z => absurd offM z
set_option maxRecDepth 10000 in
theorem r_X8_refuse_0 {d : Nat} {p0 : Int32} {σ : Mem} {Q : Option AV → Mem → Prop} (h :
  vp_in (-p0) 8 ∧
  vp_in (-p0) 8 ∧
  Q (some (ai p0)) (wI σ 31 0 (Int32.toNatClampNeg (-p0)) ((σ.1 31 0 (Int32.toNatClampNeg (-p0))) + 1))) :
  Cal IM (d + 1) S_X8_refuse [ar 30 0, ai p0] σ Q := fun z => absurd offM z
set_option maxRecDepth 10000 in
theorem r_X8_isSpan_0 {d : Nat} {p0 : Int32} {p1 : Int32} {σ : Mem} {Q : Option AV → Mem → Prop} (h :
  ((p0 < 0 →
  ((0 : Int32) = 0 ∨ (0 : Int32) = 1) ∧ Q (some (ai 0)) σ) ∧
  (¬ p0 < 0 →
  ((p1 ≤ p0 →
    ((0 : Int32) = 0 ∨ (0 : Int32) = 1) ∧ Q (some (ai 0)) σ) ∧
    (¬ p1 ≤ p0 →
    ((48 < p1 →
      ((0 : Int32) = 0 ∨ (0 : Int32) = 1) ∧ Q (some (ai 0)) σ) ∧
      (¬ 48 < p1 →
      ((1 : Int32) = 0 ∨ (1 : Int32) = 1) ∧ Q (some (ai 1)) σ))))))) :
  Cal IM (d + 1) S_X8_isSpan [ai p0, ai p1] σ Q := fun z => absurd offM z
set_option maxRecDepth 10000 in
theorem r_X8_many_0 {d : Nat} {p0 : Int32} {σ : Mem} {Q : Option AV → Mem → Prop} (h :
  J IM M_X8_many (d + 1) 4 [(0, ai p0), (1, ai 0), (2, ai 0)] [] σ Q) :
  Cal IM (d + 1) S_X8_many [ai p0] σ Q := fun z => absurd offM z
set_option maxRecDepth 10000 in
theorem r_X8_many_4 {d : Nat} {v0 : Int32} {v1 : Int32} {v2 : Int32} {σ : Mem} {Q : Option AV → Mem → Prop} (h :
  ((32 ≤ v2 →
  Q (some (ai v1)) σ) ∧
  (¬ 32 ≤ v2 →
  J IM M_X8_many (d + 1) 4 [(0, ai v0), (1, ai (v1 + (((v0.toUInt32 >>> (Int32.toUInt32 v2 &&& Int32.toUInt32 31)).toInt32) &&& 1))), (2, ai (v2 + 1))] [] σ Q))) :
  J IM M_X8_many (d + 1) 4 [(0, ai v0), (1, ai v1), (2, ai v2)] [] σ Q := fun z => absurd offM z
set_option maxRecDepth 10000 in
theorem r_X8_isRow_0 {d : Nat} {p0 : Int32} {σ : Mem} {Q : Option AV → Mem → Prop} (h :
  vp_in p0 8 ∧
  (((σ.1 57 0 (Int32.toNatClampNeg p0)) < 100 →
  ((0 : Int32) = 0 ∨ (0 : Int32) = 1) ∧ Q (some (ai 0)) σ) ∧
  (¬ (σ.1 57 0 (Int32.toNatClampNeg p0)) < 100 →
  ((1 : Int32) = 0 ∨ (1 : Int32) = 1) ∧ Q (some (ai 1)) σ))) :
  Cal IM (d + 1) S_X8_isRow [ar 30 0, ai p0] σ Q := fun z => absurd offM z
set_option maxRecDepth 10000 in
theorem r_X8_lowest_0 {d : Nat} {p0 : Int32} {p1 : Int64} {σ : Mem} {Q : Option AV → Mem → Prop} (h :
  ((¬ p0 = 0 →
  ((¬ p0 = 1 →
    ((¬ p0 = 2 →
      Q (some (al p1)) σ) ∧
      (p0 = 2 →
      Q (some (al (Int32.toInt64 (Int64.toInt32 p1)))) σ))) ∧
    (p0 = 1 →
    Q (some (al (Int32.toInt64 (Int32.toInt16 (Int64.toInt32 p1)).toInt32))) σ))) ∧
  (p0 = 0 →
  Q (some (al (Int32.toInt64 (Int32.toInt8 (Int64.toInt32 p1)).toInt32))) σ))) :
  Cal IM (d + 1) S_X8_lowest [ai p0, al p1] σ Q := fun z => absurd offM z
set_option maxRecDepth 10000 in
theorem r_X8_cell_0 {d : Nat} {p0 : Int32} {p1 : Int32} {σ : Mem} {Q : Option AV → Mem → Prop} (h :
  vp_in ((60 * p0) + p1) 480 ∧
  Q (some (ai (Int64.toInt32 (σ.2 59 0 (Int32.toNatClampNeg ((60 * p0) + p1)))))) σ) :
  Cal IM (d + 1) S_X8_cell [ar 30 0, ai p0, ai p1] σ Q := fun z => absurd offM z
set_option maxRecDepth 10000 in
theorem r_X8_isTooFar_0 {d : Nat} {p0 : Int32} {p1 : Int32} {p2 : Int32} {σ : Mem} {Q : Option AV → Mem → Prop} (h :
  vp_in ((12 * p0) + p1) 144 ∧
  (((σ.1 37 0 (Int32.toNatClampNeg ((12 * p0) + p1))) ≤ p2 →
  ((0 : Int32) = 0 ∨ (0 : Int32) = 1) ∧ Q (some (ai 0)) σ) ∧
  (¬ (σ.1 37 0 (Int32.toNatClampNeg ((12 * p0) + p1))) ≤ p2 →
  ((1 : Int32) = 0 ∨ (1 : Int32) = 1) ∧ Q (some (ai 1)) σ))) :
  Cal IM (d + 1) S_X8_isTooFar [ar 30 0, ai p0, ai p1, ai p2] σ Q := fun z => absurd offM z
set_option maxRecDepth 10000 in
theorem r_X8_fault_0 {d : Nat} {p0 : Int32} {σ : Mem} {Q : Option AV → Mem → Prop} (h :
  ((¬ p0 = 0 →
  ((¬ p0 = 1 →
    Q (some (ai (-1))) σ) ∧
    (p0 = 1 →
    Q (some (ai (σ.1 30 0 40))) σ))) ∧
  (p0 = 0 →
  Q (some (ai (σ.1 30 0 39))) σ))) :
  Cal IM (d + 1) S_X8_fault [ar 30 0, ai p0] σ Q := fun z => absurd offM z
set_option maxRecDepth 10000 in
theorem r_X8_claim_0 {d : Nat} {p0 : Int32} {p1 : Int32} {p2 : Int32} {p3 : Int32} {σ : Mem} {Q : Option AV → Mem → Prop} (h :
  J IM M_X8_claim (d + 1) 3 [(0, ar 30 0), (1, ai p0), (3, ai p2), (4, ai p3), (5, ai p1)] [] σ Q) :
  Cal IM (d + 1) S_X8_claim [ar 30 0, ai p0, ai p1, ai p2, ai p3] σ Q := fun z => absurd offM z
set_option maxRecDepth 10000 in
theorem r_X8_claim_3 {d : Nat} {v1 : Int32} {v3 : Int32} {v4 : Int32} {v5 : Int32} {σ : Mem} {Q : Option AV → Mem → Prop} (h :
  ((v3 ≤ v5 →
  Q none σ) ∧
  (¬ v3 ≤ v5 →
  vp_in v5 48 ∧
    vp_in v5 48 ∧
    vp_in ((12 * v5) + v1) 576 ∧
    vp_in ((12 * v5) + v1) 576 ∧
    J IM M_X8_claim (d + 1) 3 [(0, ar 30 0), (1, ai v1), (3, ai v3), (4, ai v4), (5, ai (v5 + 1))] [] (wI (wI σ 61 0 (Int32.toNatClampNeg v5) ((σ.1 61 0 (Int32.toNatClampNeg v5)) + v4)) 62 0 (Int32.toNatClampNeg ((12 * v5) + v1)) (((wI σ 61 0 (Int32.toNatClampNeg v5) ((σ.1 61 0 (Int32.toNatClampNeg v5)) + v4)).1 62 0 (Int32.toNatClampNeg ((12 * v5) + v1))) + v4)) Q))) :
  J IM M_X8_claim (d + 1) 3 [(0, ar 30 0), (1, ai v1), (3, ai v3), (4, ai v4), (5, ai v5)] [] σ Q := fun z => absurd offM z
set_option maxRecDepth 10000 in
theorem r_X8_late_0 {d : Nat} {p0 : Int32} {p1 : Int32} {σ : Mem} {Q : Option AV → Mem → Prop} (h :
  ((p0 = 0 →
  Q (some (ai 0)) σ) ∧
  (¬ p0 = 0 →
  ((¬ p1 = 47 →
    Q (some (ai 0)) σ) ∧
    (p1 = 47 →
    Q (some (ai 300)) σ))))) :
  Cal IM (d + 1) S_X8_late [ai p0, ai p1] σ Q := fun z => absurd offM z
set_option maxRecDepth 10000 in
theorem r_X8_walks_0 {d : Nat} {p0 : Int32} {p1 : Int32} {p2 : Int32} {σ : Mem} {Q : Option AV → Mem → Prop} (h :
  J IM M_X8_walks (d + 1) 6 [(0, ar 30 0), (1, ai p0), (4, ai p1), (5, ai p2)] [] σ Q) :
  Cal IM (d + 1) S_X8_walks [ar 30 0, ai p0, ai p1, ai p2] σ Q := fun z => absurd offM z
set_option maxRecDepth 10000 in
theorem r_X8_walks_6 {d : Nat} {v1 : Int32} {v4 : Int32} {v5 : Int32} {σ : Mem} {Q : Option AV → Mem → Prop} (h :
  ((48 ≤ v4 →
  Q none σ) ∧
  (¬ 48 ≤ v4 →
  vp_in ((12 * v4) + v5) 576 ∧
    ((2 ≤ (σ.1 64 0 (Int32.toNatClampNeg ((12 * v4) + v5))) →
    vp_in ((12 * v5) + ((σ.1 64 0 (Int32.toNatClampNeg ((12 * v4) + v5))) - 2)) 144 ∧
      J IM M_X8_walks (d + 1) 113 [(0, ar 30 0), (1, ai v1), (4, ai v4), (5, ai v5), (7, ai ((σ.1 64 0 (Int32.toNatClampNeg ((12 * v4) + v5))) - 2)), (8, ai (v4 + (σ.1 36 0 (Int32.toNatClampNeg ((12 * v5) + ((σ.1 64 0 (Int32.toNatClampNeg ((12 * v4) + v5))) - 2))))))] [] σ Q) ∧
    (¬ 2 ≤ (σ.1 64 0 (Int32.toNatClampNeg ((12 * v4) + v5))) →
    ((¬ (σ.1 64 0 (Int32.toNatClampNeg ((12 * v4) + v5))) = 0 →
      vp_in ((48 * v1) + v4) 960 ∧
        ((¬ (σ.1 64 0 (Int32.toNatClampNeg ((12 * v4) + v5))) = 0 →
        J IM M_X8_walks (d + 1) 6 [(0, ar 30 0), (1, ai v1), (4, ai (v4 + 1)), (5, ai v5)] [] (wI σ 46 0 (Int32.toNatClampNeg ((48 * v1) + v4)) (100 + v5)) Q) ∧
        ((σ.1 64 0 (Int32.toNatClampNeg ((12 * v4) + v5))) = 0 →
        vp_in ((48 * v5) + v4) 576 ∧
          vp_in ((48 * v5) + v4) 576 ∧
          J IM M_X8_walks (d + 1) 6 [(0, ar 30 0), (1, ai v1), (4, ai (v4 + 1)), (5, ai v5)] [] (wI (wI σ 46 0 (Int32.toNatClampNeg ((48 * v1) + v4)) (100 + v5)) 48 0 (Int32.toNatClampNeg ((48 * v5) + v4)) (((wI σ 46 0 (Int32.toNatClampNeg ((48 * v1) + v4)) (100 + v5)).1 48 0 (Int32.toNatClampNeg ((48 * v5) + v4))) + 1)) Q))) ∧
      ((σ.1 64 0 (Int32.toNatClampNeg ((12 * v4) + v5))) = 0 →
      vp_in ((48 * v1) + v4) 960 ∧
        ((¬ (σ.1 64 0 (Int32.toNatClampNeg ((12 * v4) + v5))) = 0 →
        J IM M_X8_walks (d + 1) 6 [(0, ar 30 0), (1, ai v1), (4, ai (v4 + 1)), (5, ai v5)] [] (wI σ 46 0 (Int32.toNatClampNeg ((48 * v1) + v4)) v5) Q) ∧
        ((σ.1 64 0 (Int32.toNatClampNeg ((12 * v4) + v5))) = 0 →
        vp_in ((48 * v5) + v4) 576 ∧
          vp_in ((48 * v5) + v4) 576 ∧
          J IM M_X8_walks (d + 1) 6 [(0, ar 30 0), (1, ai v1), (4, ai (v4 + 1)), (5, ai v5)] [] (wI (wI σ 46 0 (Int32.toNatClampNeg ((48 * v1) + v4)) v5) 48 0 (Int32.toNatClampNeg ((48 * v5) + v4)) (((wI σ 46 0 (Int32.toNatClampNeg ((48 * v1) + v4)) v5).1 48 0 (Int32.toNatClampNeg ((48 * v5) + v4))) + 1)) Q))))))))) :
  J IM M_X8_walks (d + 1) 6 [(0, ar 30 0), (1, ai v1), (4, ai v4), (5, ai v5)] [] σ Q := fun z => absurd offM z
set_option maxRecDepth 10000 in
theorem r_X8_walks_113 {d : Nat} {v1 : Int32} {v4 : Int32} {v5 : Int32} {v7 : Int32} {v8 : Int32} {σ : Mem} {Q : Option AV → Mem → Prop} (h :
  ((v8 ≤ v4 →
  J IM M_X8_walks (d + 1) 6 [(0, ar 30 0), (1, ai v1), (4, ai v4), (5, ai v7)] [] σ Q) ∧
  (¬ v8 ≤ v4 →
  ((48 ≤ v4 →
    J IM M_X8_walks (d + 1) 6 [(0, ar 30 0), (1, ai v1), (4, ai v4), (5, ai v7)] [] σ Q) ∧
    (¬ 48 ≤ v4 →
    vp_in ((48 * v1) + v4) 960 ∧
      J IM M_X8_walks (d + 1) 113 [(0, ar 30 0), (1, ai v1), (4, ai (v4 + 1)), (5, ai v5), (7, ai v7), (8, ai v8)] [] (wI σ 46 0 (Int32.toNatClampNeg ((48 * v1) + v4)) ((200 + (12 * v5)) + v7)) Q))))) :
  J IM M_X8_walks (d + 1) 113 [(0, ar 30 0), (1, ai v1), (4, ai v4), (5, ai v5), (7, ai v7), (8, ai v8)] [] σ Q := fun z => absurd offM z
set_option maxRecDepth 10000 in
theorem r_X8_still_0 {d : Nat}  {σ : Mem} {Q : Option AV → Mem → Prop} (h :
  J IM M_X8_still (d + 1) 4 [(0, ar 30 0), (1, ai 0), (2, ai 0)] [] σ Q) :
  Cal IM (d + 1) S_X8_still [ar 30 0] σ Q := fun z => absurd offM z
set_option maxRecDepth 10000 in
theorem r_X8_still_4 {d : Nat} {v1 : Int32} {v2 : Int32} {σ : Mem} {Q : Option AV → Mem → Prop} (h :
  (((σ.1 30 0 13) ≤ v2 →
  Q (some (ai v1)) σ) ∧
  (¬ (σ.1 30 0 13) ≤ v2 →
  vp_in v2 20 ∧
    (((σ.1 43 0 (Int32.toNatClampNeg v2)) = 0 →
    J IM M_X8_still (d + 1) 4 [(0, ar 30 0), (1, ai (v1 + 1)), (2, ai (v2 + 1))] [] σ Q) ∧
    (¬ (σ.1 43 0 (Int32.toNatClampNeg v2)) = 0 →
    J IM M_X8_still (d + 1) 4 [(0, ar 30 0), (1, ai (v1 + 0)), (2, ai (v2 + 1))] [] σ Q))))) :
  J IM M_X8_still (d + 1) 4 [(0, ar 30 0), (1, ai v1), (2, ai v2)] [] σ Q := fun z => absurd offM z
set_option maxRecDepth 10000 in
theorem r_X8_willBeIn_0 {d : Nat} {p0 : Int32} {p1 : Int32} {σ : Mem} {Q : Option AV → Mem → Prop} (h :
  J IM M_X8_willBeIn (d + 1) 5 [(0, ar 30 0), (1, ai p0), (2, ai p1), (3, ai (σ.1 30 0 2))] [] σ Q) :
  Cal IM (d + 1) S_X8_willBeIn [ar 30 0, ai p0, ai p1] σ Q := fun z => absurd offM z
set_option maxRecDepth 10000 in
theorem r_X8_willBeIn_5 {d : Nat} {v1 : Int32} {v2 : Int32} {v3 : Int32} {σ : Mem} {Q : Option AV → Mem → Prop} (h :
  ((48 ≤ v3 →
  ((0 : Int32) = 0 ∨ (0 : Int32) = 1) ∧ Q (some (ai 0)) σ) ∧
  (¬ 48 ≤ v3 →
  vp_in ((48 * v1) + v3) 960 ∧
    ((¬ (σ.1 46 0 (Int32.toNatClampNeg ((48 * v1) + v3))) = v2 →
    J IM M_X8_willBeIn (d + 1) 5 [(0, ar 30 0), (1, ai v1), (2, ai v2), (3, ai (v3 + 1))] [] σ Q) ∧
    ((σ.1 46 0 (Int32.toNatClampNeg ((48 * v1) + v3))) = v2 →
    ((1 : Int32) = 0 ∨ (1 : Int32) = 1) ∧ Q (some (ai 1)) σ))))) :
  J IM M_X8_willBeIn (d + 1) 5 [(0, ar 30 0), (1, ai v1), (2, ai v2), (3, ai v3)] [] σ Q := fun z => absurd offM z
set_option maxRecDepth 10000 in
theorem r_X8_bent_0 {d : Nat}  {σ : Mem} {Q : Option AV → Mem → Prop} (h :
  J IM M_X8_bent (d + 1) 4 [(0, ar 30 0), (1, ai 0), (2, ai 0)] [] σ Q) :
  Cal IM (d + 1) S_X8_bent [ar 30 0] σ Q := fun z => absurd offM z
set_option maxRecDepth 10000 in
theorem r_X8_bent_4 {d : Nat} {v1 : Int32} {v2 : Int32} {σ : Mem} {Q : Option AV → Mem → Prop} (h :
  (((σ.1 30 0 13) ≤ v2 →
  Q (some (ai v1)) σ) ∧
  (¬ (σ.1 30 0 13) ≤ v2 →
  vp_in v2 20 ∧
    (((σ.1 44 0 (Int32.toNatClampNeg v2)) = 0 →
    J IM M_X8_bent (d + 1) 4 [(0, ar 30 0), (1, ai (v1 + 0)), (2, ai (v2 + 1))] [] σ Q) ∧
    (¬ (σ.1 44 0 (Int32.toNatClampNeg v2)) = 0 →
    J IM M_X8_bent (d + 1) 4 [(0, ar 30 0), (1, ai (v1 + 1)), (2, ai (v2 + 1))] [] σ Q))))) :
  J IM M_X8_bent (d + 1) 4 [(0, ar 30 0), (1, ai v1), (2, ai v2)] [] σ Q := fun z => absurd offM z
set_option maxRecDepth 10000 in
theorem r_X8_locked_0 {d : Nat}  {σ : Mem} {Q : Option AV → Mem → Prop} (h :
  J IM M_X8_locked (d + 1) 4 [(0, ar 30 0), (1, ai 0), (2, ai 0)] [] σ Q) :
  Cal IM (d + 1) S_X8_locked [ar 30 0] σ Q := fun z => absurd offM z
set_option maxRecDepth 10000 in
theorem r_X8_locked_4 {d : Nat} {v1 : Int32} {v2 : Int32} {σ : Mem} {Q : Option AV → Mem → Prop} (h :
  (((σ.1 30 0 5) ≤ v2 →
  Q (some (ai v1)) σ) ∧
  (¬ (σ.1 30 0 5) ≤ v2 →
  vp_in v2 12 ∧
    (((σ.1 35 0 (Int32.toNatClampNeg v2)) = 0 →
    J IM M_X8_locked (d + 1) 4 [(0, ar 30 0), (1, ai (v1 + 0)), (2, ai (v2 + 1))] [] σ Q) ∧
    (¬ (σ.1 35 0 (Int32.toNatClampNeg v2)) = 0 →
    J IM M_X8_locked (d + 1) 4 [(0, ar 30 0), (1, ai (v1 + 1)), (2, ai (v2 + 1))] [] σ Q))))) :
  J IM M_X8_locked (d + 1) 4 [(0, ar 30 0), (1, ai v1), (2, ai v2)] [] σ Q := fun z => absurd offM z
set_option maxRecDepth 10000 in
theorem r_J6_bitCount_0f7a4_0 {d : Nat} {p0 : Int32} {σ : Mem} {Q : Option AV → Mem → Prop} (h :
  Q (some (ai ((((((((p0 - (((p0.toUInt32 >>> (Int32.toUInt32 1 &&& Int32.toUInt32 31)).toInt32) &&& 1431655765)) &&& 858993459) + ((((p0 - (((p0.toUInt32 >>> (Int32.toUInt32 1 &&& Int32.toUInt32 31)).toInt32) &&& 1431655765)).toUInt32 >>> (Int32.toUInt32 2 &&& Int32.toUInt32 31)).toInt32) &&& 858993459)) + (((((p0 - (((p0.toUInt32 >>> (Int32.toUInt32 1 &&& Int32.toUInt32 31)).toInt32) &&& 1431655765)) &&& 858993459) + ((((p0 - (((p0.toUInt32 >>> (Int32.toUInt32 1 &&& Int32.toUInt32 31)).toInt32) &&& 1431655765)).toUInt32 >>> (Int32.toUInt32 2 &&& Int32.toUInt32 31)).toInt32) &&& 858993459)).toUInt32 >>> (Int32.toUInt32 4 &&& Int32.toUInt32 31)).toInt32)) &&& 252645135) + (((((((p0 - (((p0.toUInt32 >>> (Int32.toUInt32 1 &&& Int32.toUInt32 31)).toInt32) &&& 1431655765)) &&& 858993459) + ((((p0 - (((p0.toUInt32 >>> (Int32.toUInt32 1 &&& Int32.toUInt32 31)).toInt32) &&& 1431655765)).toUInt32 >>> (Int32.toUInt32 2 &&& Int32.toUInt32 31)).toInt32) &&& 858993459)) + (((((p0 - (((p0.toUInt32 >>> (Int32.toUInt32 1 &&& Int32.toUInt32 31)).toInt32) &&& 1431655765)) &&& 858993459) + ((((p0 - (((p0.toUInt32 >>> (Int32.toUInt32 1 &&& Int32.toUInt32 31)).toInt32) &&& 1431655765)).toUInt32 >>> (Int32.toUInt32 2 &&& Int32.toUInt32 31)).toInt32) &&& 858993459)).toUInt32 >>> (Int32.toUInt32 4 &&& Int32.toUInt32 31)).toInt32)) &&& 252645135).toUInt32 >>> (Int32.toUInt32 8 &&& Int32.toUInt32 31)).toInt32)) + ((((((((p0 - (((p0.toUInt32 >>> (Int32.toUInt32 1 &&& Int32.toUInt32 31)).toInt32) &&& 1431655765)) &&& 858993459) + ((((p0 - (((p0.toUInt32 >>> (Int32.toUInt32 1 &&& Int32.toUInt32 31)).toInt32) &&& 1431655765)).toUInt32 >>> (Int32.toUInt32 2 &&& Int32.toUInt32 31)).toInt32) &&& 858993459)) + (((((p0 - (((p0.toUInt32 >>> (Int32.toUInt32 1 &&& Int32.toUInt32 31)).toInt32) &&& 1431655765)) &&& 858993459) + ((((p0 - (((p0.toUInt32 >>> (Int32.toUInt32 1 &&& Int32.toUInt32 31)).toInt32) &&& 1431655765)).toUInt32 >>> (Int32.toUInt32 2 &&& Int32.toUInt32 31)).toInt32) &&& 858993459)).toUInt32 >>> (Int32.toUInt32 4 &&& Int32.toUInt32 31)).toInt32)) &&& 252645135) + (((((((p0 - (((p0.toUInt32 >>> (Int32.toUInt32 1 &&& Int32.toUInt32 31)).toInt32) &&& 1431655765)) &&& 858993459) + ((((p0 - (((p0.toUInt32 >>> (Int32.toUInt32 1 &&& Int32.toUInt32 31)).toInt32) &&& 1431655765)).toUInt32 >>> (Int32.toUInt32 2 &&& Int32.toUInt32 31)).toInt32) &&& 858993459)) + (((((p0 - (((p0.toUInt32 >>> (Int32.toUInt32 1 &&& Int32.toUInt32 31)).toInt32) &&& 1431655765)) &&& 858993459) + ((((p0 - (((p0.toUInt32 >>> (Int32.toUInt32 1 &&& Int32.toUInt32 31)).toInt32) &&& 1431655765)).toUInt32 >>> (Int32.toUInt32 2 &&& Int32.toUInt32 31)).toInt32) &&& 858993459)).toUInt32 >>> (Int32.toUInt32 4 &&& Int32.toUInt32 31)).toInt32)) &&& 252645135).toUInt32 >>> (Int32.toUInt32 8 &&& Int32.toUInt32 31)).toInt32)).toUInt32 >>> (Int32.toUInt32 16 &&& Int32.toUInt32 31)).toInt32)) &&& 63))) σ) :
  Cal IX (d + 1) S_J6_bitCount_0f7a4 [ai p0] σ Q := Cal_of (M := M_J6_bitCount_0f7a4) Sok_J6_bitCount_0f7a4 (by decide +kernel) rfl (wp_J oki_X Mok_J6_bitCount_0f7a4 (cuts := []) 400 0 _ [] σ h)
set_option maxRecDepth 10000 in
theorem r_J7_fill_d0a16_0 {d : Nat} {z : Nat} {p1 : Int64} {σ : Mem} {Q : Option AV → Mem → Prop} (h :
  J IX M_J7_fill_d0a16 (d + 1) 6 [(0, ar 8 z), (1, al p1), (3, ai 0), (4, ai 60)] [] σ Q) :
  Cal IX (d + 1) S_J7_fill_d0a16 [ar 8 z, al p1] σ Q := Cal_of (M := M_J7_fill_d0a16) Sok_J7_fill_d0a16 (by decide +kernel) rfl (wp_J oki_X Mok_J7_fill_d0a16 (cuts := [(6, [0, 1, 3, 4])]) 400 0 _ [] σ h)
set_option maxRecDepth 10000 in
theorem r_J7_fill_d0a16_6 {d : Nat} {v0 : Nat} {v1 : Int64} {v3 : Int32} {v4 : Int32} {σ : Mem} {Q : Option AV → Mem → Prop} (h :
  ((v4 ≤ v3 →
  Q none σ) ∧
  (¬ v4 ≤ v3 →
  vp_in v3 60 ∧
    J IX M_J7_fill_d0a16 (d + 1) 6 [(0, ar 8 v0), (1, al v1), (3, ai (v3 + 1)), (4, ai v4)] [] (wL σ 8 v0 (Int32.toNatClampNeg v3) v1) Q))) :
  J IX M_J7_fill_d0a16 (d + 1) 6 [(0, ar 8 v0), (1, al v1), (3, ai v3), (4, ai v4)] [] σ Q := wp_J oki_X Mok_J7_fill_d0a16 (cuts := [(6, [0, 1, 3, 4])]) 400 6 _ [] σ h
set_option maxRecDepth 10000 in
theorem r_X0_placeOf_0 {d : Nat} {z : Nat} {p1 : Int32} {σ : Mem} {Q : Option AV → Mem → Prop} (h :
  CalI IX d S_X5_asInt [ar 7 z, ai (p1 * 4)] σ (fun r2 σ1 =>
  Q (some (ai r2)) σ1)) :
  Cal IX (d + 1) S_X0_placeOf [ar 7 z, ai p1] σ Q := Cal_of (M := M_X0_placeOf) Sok_X0_placeOf (by decide +kernel) rfl (wp_J oki_X Mok_X0_placeOf (cuts := []) 400 0 _ [] σ h)
set_option maxRecDepth 10000 in
theorem r_X0_startOf_0 {d : Nat} {z : Nat} {p1 : Int32} {σ : Mem} {Q : Option AV → Mem → Prop} (h :
  CalI IX d S_X5_asInt [ar 7 z, ai ((p1 * 4) + 1)] σ (fun r2 σ1 =>
  Q (some (ai r2)) σ1)) :
  Cal IX (d + 1) S_X0_startOf [ar 7 z, ai p1] σ Q := Cal_of (M := M_X0_startOf) Sok_X0_startOf (by decide +kernel) rfl (wp_J oki_X Mok_X0_startOf (cuts := []) 400 0 _ [] σ h)
set_option maxRecDepth 10000 in
theorem r_X0_endOf_0 {d : Nat} {z : Nat} {p1 : Int32} {σ : Mem} {Q : Option AV → Mem → Prop} (h :
  CalI IX d S_X5_asInt [ar 7 z, ai ((p1 * 4) + 2)] σ (fun r2 σ1 =>
  Q (some (ai r2)) σ1)) :
  Cal IX (d + 1) S_X0_endOf [ar 7 z, ai p1] σ Q := Cal_of (M := M_X0_endOf) Sok_X0_endOf (by decide +kernel) rfl (wp_J oki_X Mok_X0_endOf (cuts := []) 400 0 _ [] σ h)
set_option maxRecDepth 10000 in
theorem r_X1_live_0 {d : Nat} {o : Nat} {p1 : Int32} {σ : Mem} {Q : Option AV → Mem → Prop} (h :
  ((p1 < (σ.1 14 o 2) →
  Q none σ) ∧
  (¬ p1 < (σ.1 14 o 2) →
  ((p1 < (σ.1 14 o 3) →
    J IX M_X1_live (d + 1) 22 [(0, ar 14 o), (1, ar 25 0), (2, ai p1), (3, ai 0), (4, ai 0)] [] σ Q) ∧
    (¬ p1 < (σ.1 14 o 3) →
    Q none σ))))) :
  Cal IX (d + 1) S_X1_live [ar 14 o, ar 25 0, ai p1] σ Q := Cal_of (M := M_X1_live) Sok_X1_live (by decide +kernel) rfl (wp_J oki_X Mok_X1_live (cuts := [(22, [0, 1, 2, 3, 4])]) 400 0 _ [] σ h)
set_option maxRecDepth 10000 in
theorem r_X1_live_22 {d : Nat} {v0 : Nat} {v2 : Int32} {v3 : Int32} {v4 : Int32} {σ : Mem} {Q : Option AV → Mem → Prop} (h :
  ((20 ≤ v4 →
  ((¬ v3 = ((wI σ 14 v0 7 ((σ.1 14 v0 7) ||| v3)).1 14 v0 0) →
    Q none (wI σ 14 v0 7 ((σ.1 14 v0 7) ||| v3))) ∧
    (v3 = ((wI σ 14 v0 7 ((σ.1 14 v0 7) ||| v3)).1 14 v0 0) →
    Q none (wI (wI (wI σ 14 v0 7 ((σ.1 14 v0 7) ||| v3)) 14 v0 5 (((wI σ 14 v0 7 ((σ.1 14 v0 7) ||| v3)).1 14 v0 5) + 1)) 14 v0 6 (((wI (wI σ 14 v0 7 ((σ.1 14 v0 7) ||| v3)) 14 v0 5 (((wI σ 14 v0 7 ((σ.1 14 v0 7) ||| v3)).1 14 v0 5) + 1)).1 14 v0 6) + 1))))) ∧
  (¬ 20 ≤ v4 →
  CalI IX d S_X1_isOf [ar 14 v0, ai v4] σ (fun r2 σ1 =>
    ((r2 = 0 →
    J IX M_X1_live (d + 1) 22 [(0, ar 14 v0), (1, ar 25 0), (2, ai v2), (3, ai v3), (4, ai (v4 + 1))] [] σ1 Q) ∧
    (¬ r2 = 0 →
    vp_in v4 20 ∧
      vp_in v2 48 ∧
      ((¬ (σ1.1 12 (Int32.toNatClampNeg v4) (Int32.toNatClampNeg v2)) = (σ1.1 14 v0 1) →
      J IX M_X1_live (d + 1) 22 [(0, ar 14 v0), (1, ar 25 0), (2, ai v2), (3, ai v3), (4, ai (v4 + 1))] [] σ1 Q) ∧
      ((σ1.1 12 (Int32.toNatClampNeg v4) (Int32.toNatClampNeg v2)) = (σ1.1 14 v0 1) →
      J IX M_X1_live (d + 1) 22 [(0, ar 14 v0), (1, ar 25 0), (2, ai v2), (3, ai (v3 ||| (1 <<< (v4 &&& 31)))), (4, ai (v4 + 1))] [] σ1 Q)))))))) :
  J IX M_X1_live (d + 1) 22 [(0, ar 14 v0), (1, ar 25 0), (2, ai v2), (3, ai v3), (4, ai v4)] [] σ Q := wp_J oki_X Mok_X1_live (cuts := [(22, [0, 1, 2, 3, 4])]) 400 22 _ [] σ h
set_option maxRecDepth 10000 in
theorem r_X2_weigh_0 {d : Nat} {f : Nat} {σ : Mem} {Q : Option AV → Mem → Prop} (h :
  CalV IX d S_J7_fill_53178 [ar 18 0, ai 0] σ (fun σ1 =>
  CalV IX d S_J7_fill_53178 [ar 19 0, ai 0] σ1 (fun σ2 =>
  J IX M_X2_weigh (d + 1) 18 [(0, ar 17 0), (1, ar 9 f), (2, ai 0)] [] σ2 Q))) :
  Cal IX (d + 1) S_X2_weigh [ar 17 0, ar 9 f] σ Q := Cal_of (M := M_X2_weigh) Sok_X2_weigh (by decide +kernel) rfl (wp_J oki_X Mok_X2_weigh (cuts := [(18, [0, 1, 2])]) 400 0 _ [] σ h)
set_option maxRecDepth 10000 in
theorem r_X2_weigh_18 {d : Nat} {v1 : Nat} {v2 : Int32} {σ : Mem} {Q : Option AV → Mem → Prop} (h :
  (((σ.1 9 v1 6) < (v2 + 4) →
  (((σ.1 9 v1 12) = 0 →
    Q none σ) ∧
    (¬ (σ.1 9 v1 12) = 0 →
    CalV IX d S_X2_claim [ar 17 0, ai (σ.1 9 v1 7), ai (σ.1 9 v1 8), ai (σ.1 9 v1 9), ai 200] σ (fun σ3 =>
      Q none σ3)))) ∧
  (¬ (σ.1 9 v1 6) < (v2 + 4) →
  vp_in v2 48 ∧
    vp_in (v2 + 1) 48 ∧
    vp_in (v2 + 2) 48 ∧
    vp_in (v2 + 3) 48 ∧
    CalV IX d S_X2_claim [ar 17 0, ai (σ.1 11 v1 (Int32.toNatClampNeg v2)), ai (σ.1 11 v1 (Int32.toNatClampNeg (v2 + 1))), ai (σ.1 11 v1 (Int32.toNatClampNeg (v2 + 2))), ai (σ.1 11 v1 (Int32.toNatClampNeg (v2 + 3)))] σ (fun σ4 =>
    J IX M_X2_weigh (d + 1) 18 [(0, ar 17 0), (1, ar 9 v1), (2, ai (v2 + 4))] [] σ4 Q)))) :
  J IX M_X2_weigh (d + 1) 18 [(0, ar 17 0), (1, ar 9 v1), (2, ai v2)] [] σ Q := wp_J oki_X Mok_X2_weigh (cuts := [(18, [0, 1, 2])]) 400 18 _ [] σ h
set_option maxRecDepth 10000 in
theorem r_X2_mayBeIn_0 {d : Nat} {f : Nat} {p1 : Int32} {p2 : Int32} {p5 : Int32} {σ : Mem} {Q : Option AV → Mem → Prop} (h :
  CalI IX d S_X6_isOpen [ar 1 0, ai p1, ai p2] σ (fun r2 σ1 =>
  ((¬ r2 = 0 →
  ((¬ (((p5.toUInt32 >>> (Int32.toUInt32 p1 &&& Int32.toUInt32 31)).toInt32) &&& 1) = 0 →
    ((0 : Int32) = 0 ∨ (0 : Int32) = 1) ∧ Q (some (ai 0)) σ1) ∧
    ((((p5.toUInt32 >>> (Int32.toUInt32 p1 &&& Int32.toUInt32 31)).toInt32) &&& 1) = 0 →
    CalI IX d S_X4_taken [ar 15 0, ai p1, ai p2] σ1 (fun r4 σ3 =>
      vp_in p1 12 ∧
      (((σ3.1 2 0 (Int32.toNatClampNeg p1)) ≤ r4 →
      ((0 : Int32) = 0 ∨ (0 : Int32) = 1) ∧ Q (some (ai 0)) σ3) ∧
      (¬ (σ3.1 2 0 (Int32.toNatClampNeg p1)) ≤ r4 →
      ((1 : Int32) = 0 ∨ (1 : Int32) = 1) ∧ Q (some (ai 1)) σ3)))))) ∧
  (r2 = 0 →
  CalI IX d S_X3_hasKey [ar 9 f, ai p1] σ1 (fun r6 σ5 =>
    ((r6 = 0 →
    ((0 : Int32) = 0 ∨ (0 : Int32) = 1) ∧ Q (some (ai 0)) σ5) ∧
    (¬ r6 = 0 →
    ((¬ (((p5.toUInt32 >>> (Int32.toUInt32 p1 &&& Int32.toUInt32 31)).toInt32) &&& 1) = 0 →
      ((0 : Int32) = 0 ∨ (0 : Int32) = 1) ∧ Q (some (ai 0)) σ5) ∧
      ((((p5.toUInt32 >>> (Int32.toUInt32 p1 &&& Int32.toUInt32 31)).toInt32) &&& 1) = 0 →
      CalI IX d S_X4_taken [ar 15 0, ai p1, ai p2] σ5 (fun r8 σ7 =>
        vp_in p1 12 ∧
        (((σ7.1 2 0 (Int32.toNatClampNeg p1)) ≤ r8 →
        ((0 : Int32) = 0 ∨ (0 : Int32) = 1) ∧ Q (some (ai 0)) σ7) ∧
        (¬ (σ7.1 2 0 (Int32.toNatClampNeg p1)) ≤ r8 →
        ((1 : Int32) = 0 ∨ (1 : Int32) = 1) ∧ Q (some (ai 1)) σ7)))))))))))) :
  Cal IX (d + 1) S_X2_mayBeIn [ar 9 f, ai p1, ai p2, ar 1 0, ar 15 0, ai p5] σ Q := Cal_of (M := M_X2_mayBeIn) Sok_X2_mayBeIn (by decide +kernel) rfl (wp_J oki_X Mok_X2_mayBeIn (cuts := []) 400 0 _ [] σ h)
set_option maxRecDepth 10000 in
theorem r_X2_goOn_0 {d : Nat} {p1 : Int32} {p2 : Int32} {σ : Mem} {Q : Option AV → Mem → Prop} (h :
  J IX M_X2_goOn (d + 1) 3 [(0, ar 17 0), (1, ar 1 0), (2, ai p1), (3, ai p2), (4, ai 0)] [] σ Q) :
  Cal IX (d + 1) S_X2_goOn [ar 17 0, ar 1 0, ai p1, ai p2] σ Q := Cal_of (M := M_X2_goOn) Sok_X2_goOn (by decide +kernel) rfl (wp_J oki_X Mok_X2_goOn (cuts := [(3, [0, 1, 2, 3, 4])]) 400 0 _ [] σ h)
set_option maxRecDepth 10000 in
theorem r_X2_goOn_3 {d : Nat} {v2 : Int32} {v3 : Int32} {v4 : Int32} {σ : Mem} {Q : Option AV → Mem → Prop} (h :
  (((σ.1 1 0 5) ≤ v4 →
  Q none σ) ∧
  (¬ (σ.1 1 0 5) ≤ v4 →
  CalI IX d S_X6_wayTicks [ar 1 0, ai v2, ai v4] σ (fun r2 σ1 =>
    ((¬ r2 = 0 →
    CalI IX d S_X2_costOfWay [ar 17 0, ai v3, ai (v3 + r2), ai v4] σ1 (fun r4 σ3 =>
      vp_in ((v3 * 12) + v2) 588 ∧
      (((σ3.1 21 0 (Int32.toNatClampNeg ((v3 * 12) + v2))) ≤ r4 →
      J IX M_X2_goOn (d + 1) 3 [(0, ar 17 0), (1, ar 1 0), (2, ai v2), (3, ai v3), (4, ai (v4 + 1))] [] σ3 Q) ∧
      (¬ (σ3.1 21 0 (Int32.toNatClampNeg ((v3 * 12) + v2))) ≤ r4 →
      vp_in ((v3 * 12) + v2) 588 ∧
        vp_in ((v3 * 12) + v2) 576 ∧
        J IX M_X2_goOn (d + 1) 3 [(0, ar 17 0), (1, ar 1 0), (2, ai v2), (3, ai v3), (4, ai (v4 + 1))] [] (wI (wI σ3 21 0 (Int32.toNatClampNeg ((v3 * 12) + v2)) r4) 22 0 (Int32.toNatClampNeg ((v3 * 12) + v2)) ((200 + (12 * v2)) + v4)) Q)))) ∧
    (r2 = 0 →
    J IX M_X2_goOn (d + 1) 3 [(0, ar 17 0), (1, ar 1 0), (2, ai v2), (3, ai v3), (4, ai (v4 + 1))] [] σ1 Q)))))) :
  J IX M_X2_goOn (d + 1) 3 [(0, ar 17 0), (1, ar 1 0), (2, ai v2), (3, ai v3), (4, ai v4)] [] σ Q := wp_J oki_X Mok_X2_goOn (cuts := [(3, [0, 1, 2, 3, 4])]) 400 3 _ [] σ h
set_option maxRecDepth 10000 in
theorem r_X2_write_0 {d : Nat} {f : Nat} {p2 : Int32} {p3 : Int32} {p4 : Int32} {σ : Mem} {Q : Option AV → Mem → Prop} (h :
  ((p3 ≤ p2 →
  vp_in ((p3 * 12) + p4) 588 ∧
    J IX M_X2_write (d + 1) 48 [(0, ar 17 0), (1, ar 9 f), (2, ar 1 0), (6, ai (σ.1 21 0 (Int32.toNatClampNeg ((p3 * 12) + p4)))), (7, ai p4), (8, ai (-1)), (9, ai p3), (10, ai p3)] [] σ Q) ∧
  (¬ p3 ≤ p2 →
  CalI IX d S_X2_costOfWay [ar 17 0, ai p2, ai p3, ai p4] σ (fun r2 σ1 =>
    J IX M_X2_write (d + 1) 48 [(0, ar 17 0), (1, ar 9 f), (2, ar 1 0), (6, ai r2), (7, ai p4), (8, ai (-1)), (9, ai p3), (10, ai p3)] [] σ1 Q)))) :
  Cal IX (d + 1) S_X2_write [ar 17 0, ar 9 f, ar 1 0, ai p2, ai p3, ai p4] σ Q := Cal_of (M := M_X2_write) Sok_X2_write (by decide +kernel) rfl (wp_J oki_X Mok_X2_write (cuts := [(48, [0, 1, 2, 6, 7, 8, 9, 10])]) 400 0 _ [] σ h)
set_option maxRecDepth 10000 in
theorem r_X2_write_48 {d : Nat} {v1 : Nat} {v6 : Int32} {v7 : Int32} {v8 : Int32} {v9 : Int32} {v10 : Int32} {σ : Mem} {Q : Option AV → Mem → Prop} (h :
  ((48 ≤ v10 →
  Q (some (ai v6)) σ) ∧
  (¬ 48 ≤ v10 →
  ((v10 < v9 →
    vp_in v10 48 ∧
      J IX M_X2_write (d + 1) 48 [(0, ar 17 0), (1, ar 9 v1), (2, ar 1 0), (6, ai v6), (7, ai v7), (8, ai v8), (9, ai v9), (10, ai (v10 + 1))] [] (wI σ 12 v1 (Int32.toNatClampNeg v10) v8) Q) ∧
    (¬ v10 < v9 →
    vp_in ((v10 * 12) + v7) 576 ∧
      (((σ.1 22 0 (Int32.toNatClampNeg ((v10 * 12) + v7))) < 200 →
      vp_in v10 48 ∧
        J IX M_X2_write (d + 1) 48 [(0, ar 17 0), (1, ar 9 v1), (2, ar 1 0), (6, ai v6), (7, ai v7), (8, ai (σ.1 22 0 (Int32.toNatClampNeg ((v10 * 12) + v7)))), (9, ai (v10 + 1)), (10, ai (v10 + 1))] [] (wI σ 12 v1 (Int32.toNatClampNeg v10) (σ.1 22 0 (Int32.toNatClampNeg ((v10 * 12) + v7)))) Q) ∧
      (¬ (σ.1 22 0 (Int32.toNatClampNeg ((v10 * 12) + v7))) < 200 →
      ¬ (12 : Int32) = 0 ∧
        CalI IX d S_X6_wayTicks [ar 1 0, ai v7, ai (((σ.1 22 0 (Int32.toNatClampNeg ((v10 * 12) + v7))) - 200) - ((σ.1 22 0 (Int32.toNatClampNeg ((v10 * 12) + v7))) - 200) / 12 * 12)] σ (fun r4 σ3 =>
        vp_in v10 48 ∧
        J IX M_X2_write (d + 1) 48 [(0, ar 17 0), (1, ar 9 v1), (2, ar 1 0), (6, ai v6), (7, ai (((σ.1 22 0 (Int32.toNatClampNeg ((v10 * 12) + v7))) - 200) - ((σ.1 22 0 (Int32.toNatClampNeg ((v10 * 12) + v7))) - 200) / 12 * 12)), (8, ai (σ.1 22 0 (Int32.toNatClampNeg ((v10 * 12) + v7)))), (9, ai (v10 + r4)), (10, ai (v10 + 1))] [] (wI σ3 12 v1 (Int32.toNatClampNeg v10) (σ.1 22 0 (Int32.toNatClampNeg ((v10 * 12) + v7)))) Q)))))))) :
  J IX M_X2_write (d + 1) 48 [(0, ar 17 0), (1, ar 9 v1), (2, ar 1 0), (6, ai v6), (7, ai v7), (8, ai v8), (9, ai v9), (10, ai v10)] [] σ Q := wp_J oki_X Mok_X2_write (cuts := [(48, [0, 1, 2, 6, 7, 8, 9, 10])]) 400 48 _ [] σ h
set_option maxRecDepth 10000 in
theorem r_X3_takeDuties_0 {d : Nat} {o : Nat} {z : Nat} {σ : Mem} {Q : Option AV → Mem → Prop} (h :
  J IX M_X3_takeDuties (d + 1) 15 [(0, ar 9 o), (1, ar 7 z), (2, ai 0)] [] (wI σ 9 o 6 (if 48 < (σ.1 7 z 3) then 48 else (σ.1 7 z 3))) Q) :
  Cal IX (d + 1) S_X3_takeDuties [ar 9 o, ar 7 z] σ Q := Cal_of (M := M_X3_takeDuties) Sok_X3_takeDuties (by decide +kernel) rfl (wp_J oki_X Mok_X3_takeDuties (cuts := [(15, [0, 1, 2])]) 400 0 _ [] σ h)
set_option maxRecDepth 10000 in
theorem r_X3_takeDuties_15 {d : Nat} {v0 : Nat} {v1 : Nat} {v2 : Int32} {σ : Mem} {Q : Option AV → Mem → Prop} (h :
  (((σ.1 9 v0 6) ≤ v2 →
  ¬ (4 : Int32) = 0 ∧
    Q (some (ai ((σ.1 9 v0 6) / 4))) σ) ∧
  (¬ (σ.1 9 v0 6) ≤ v2 →
  CalI IX d S_X5_asInt [ar 7 v1, ai v2] σ (fun r2 σ1 =>
    vp_in v2 48 ∧
    J IX M_X3_takeDuties (d + 1) 15 [(0, ar 9 v0), (1, ar 7 v1), (2, ai (v2 + 1))] [] (wI σ1 11 v0 (Int32.toNatClampNeg v2) r2) Q)))) :
  J IX M_X3_takeDuties (d + 1) 15 [(0, ar 9 v0), (1, ar 7 v1), (2, ai v2)] [] σ Q := wp_J oki_X Mok_X3_takeDuties (cuts := [(15, [0, 1, 2])]) 400 15 _ [] σ h
set_option maxRecDepth 10000 in
theorem r_X3_beginDay_0 {d : Nat} {o : Nat} {σ : Mem} {Q : Option AV → Mem → Prop} (h :
  ((0 : Int32) = 0 ∨ (0 : Int32) = 1) ∧
  CalV IX d S_J7_fill_53178 [ar 12 o, ai (-1)] (wI σ 9 o 12 0) (fun σ1 =>
  Q none σ1)) :
  Cal IX (d + 1) S_X3_beginDay [ar 9 o] σ Q := Cal_of (M := M_X3_beginDay) Sok_X3_beginDay (by decide +kernel) rfl (wp_J oki_X Mok_X3_beginDay (cuts := []) 400 0 _ [] σ h)
set_option maxRecDepth 10000 in
theorem r_X4_clear_0 {d : Nat}  {σ : Mem} {Q : Option AV → Mem → Prop} (h :
  CalV IX d S_J7_fill_53178 [ar 16 0, ai 0] σ (fun σ1 =>
  Q none σ1)) :
  Cal IX (d + 1) S_X4_clear [ar 15 0] σ Q := Cal_of (M := M_X4_clear) Sok_X4_clear (by decide +kernel) rfl (wp_J oki_X Mok_X4_clear (cuts := []) 400 0 _ [] σ h)
set_option maxRecDepth 10000 in
theorem r_X4_add_0 {d : Nat} {f : Nat} {p1 : Int32} {p2 : Int32} {σ : Mem} {Q : Option AV → Mem → Prop} (h :
  J IX M_X4_add (d + 1) 3 [(0, ar 15 0), (1, ar 12 f), (3, ai p2), (4, ai p1)] [] σ Q) :
  Cal IX (d + 1) S_X4_add [ar 15 0, ar 12 f, ai p1, ai p2] σ Q := Cal_of (M := M_X4_add) Sok_X4_add (by decide +kernel) rfl (wp_J oki_X Mok_X4_add (cuts := [(3, [0, 1, 3, 4])]) 400 0 _ [] σ h)
set_option maxRecDepth 10000 in
theorem r_X4_add_3 {d : Nat} {v1 : Nat} {v3 : Int32} {v4 : Int32} {σ : Mem} {Q : Option AV → Mem → Prop} (h :
  ((48 ≤ v4 →
  Q none σ) ∧
  (¬ 48 ≤ v4 →
  vp_in v4 48 ∧
    CalI IX d S_X7_isIn [ai (σ.1 12 v1 (Int32.toNatClampNeg v4))] σ (fun r2 σ1 =>
    ((r2 = 0 →
    J IX M_X4_add (d + 1) 3 [(0, ar 15 0), (1, ar 12 v1), (3, ai v3), (4, ai (v4 + 1))] [] σ1 Q) ∧
    (¬ r2 = 0 →
    vp_in v4 48 ∧
      vp_in (((σ1.1 12 v1 (Int32.toNatClampNeg v4)) * 48) + v4) 576 ∧
      vp_in (((σ1.1 12 v1 (Int32.toNatClampNeg v4)) * 48) + v4) 576 ∧
      J IX M_X4_add (d + 1) 3 [(0, ar 15 0), (1, ar 12 v1), (3, ai v3), (4, ai (v4 + 1))] [] (wI σ1 16 0 (Int32.toNatClampNeg (((σ1.1 12 v1 (Int32.toNatClampNeg v4)) * 48) + v4)) ((σ1.1 16 0 (Int32.toNatClampNeg (((σ1.1 12 v1 (Int32.toNatClampNeg v4)) * 48) + v4))) + v3)) Q)))))) :
  J IX M_X4_add (d + 1) 3 [(0, ar 15 0), (1, ar 12 v1), (3, ai v3), (4, ai v4)] [] σ Q := wp_J oki_X Mok_X4_add (cuts := [(3, [0, 1, 3, 4])]) 400 3 _ [] σ h
set_option maxRecDepth 10000 in
theorem r_X5_putRow_0 {d : Nat} {o : Nat} {p0 : Int32} {p1 : Int32} {σ : Mem} {Q : Option AV → Mem → Prop} (h :
  CalV IX d S_X5_clear [ar 7 o] σ (fun σ1 =>
  CalV IX d S_J7_fill_d0a16 [ar 8 o, al 0] (wI (wI σ1 7 o 2 p0) 7 o 3 p1) (fun σ2 =>
  Q none σ2))) :
  Cal IX (d + 1) S_X5_putRow [ar 7 o, ai p0, ai p1] σ Q := Cal_of (M := M_X5_putRow) Sok_X5_putRow (by decide +kernel) rfl (wp_J oki_X Mok_X5_putRow (cuts := []) 400 0 _ [] σ h)
set_option maxRecDepth 10000 in
theorem r_X6_addWay_0 {d : Nat} {p0 : Int32} {p1 : Int32} {p2 : Int32} {σ : Mem} {Q : Option AV → Mem → Prop} (h :
  vp_in ((p0 * 12) + p1) 144 ∧
  ((((wI σ 1 0 6 ((σ.1 1 0 6) + 1)).1 5 0 (Int32.toNatClampNeg ((p0 * 12) + p1))) = 0 →
  vp_in ((p0 * 12) + p1) 144 ∧
    vp_in ((p1 * 12) + p0) 144 ∧
    J IX M_X6_addWay (d + 1) 62 [(0, ar 1 0), (1, ai p0), (2, ai p1), (3, ai p2), (5, ai 0)] [] (wI (wI (wI σ 1 0 6 ((σ.1 1 0 6) + 1)) 5 0 (Int32.toNatClampNeg ((p0 * 12) + p1)) p2) 5 0 (Int32.toNatClampNeg ((p1 * 12) + p0)) p2) Q) ∧
  (¬ ((wI σ 1 0 6 ((σ.1 1 0 6) + 1)).1 5 0 (Int32.toNatClampNeg ((p0 * 12) + p1))) = 0 →
  ((p2 < ((wI σ 1 0 6 ((σ.1 1 0 6) + 1)).1 5 0 (Int32.toNatClampNeg ((p0 * 12) + p1))) →
    vp_in ((p0 * 12) + p1) 144 ∧
      vp_in ((p1 * 12) + p0) 144 ∧
      J IX M_X6_addWay (d + 1) 62 [(0, ar 1 0), (1, ai p0), (2, ai p1), (3, ai p2), (5, ai 0)] [] (wI (wI (wI σ 1 0 6 ((σ.1 1 0 6) + 1)) 5 0 (Int32.toNatClampNeg ((p0 * 12) + p1)) p2) 5 0 (Int32.toNatClampNeg ((p1 * 12) + p0)) p2) Q) ∧
    (¬ p2 < ((wI σ 1 0 6 ((σ.1 1 0 6) + 1)).1 5 0 (Int32.toNatClampNeg ((p0 * 12) + p1))) →
    Q none (wI σ 1 0 6 ((σ.1 1 0 6) + 1))))))) :
  Cal IX (d + 1) S_X6_addWay [ar 1 0, ai p0, ai p1, ai p2] σ Q := Cal_of (M := M_X6_addWay) Sok_X6_addWay (by decide +kernel) rfl (wp_J oki_X Mok_X6_addWay (cuts := [(62, [0, 1, 2, 3, 5]), (74, [0, 1, 2, 3, 5, 6])]) 400 0 _ [] σ h)
set_option maxRecDepth 10000 in
theorem r_X6_addWay_62 {d : Nat} {v1 : Int32} {v2 : Int32} {v3 : Int32} {v5 : Int32} {σ : Mem} {Q : Option AV → Mem → Prop} (h :
  (((σ.1 1 0 5) ≤ v5 →
  Q none σ) ∧
  (¬ (σ.1 1 0 5) ≤ v5 →
  J IX M_X6_addWay (d + 1) 74 [(0, ar 1 0), (1, ai v1), (2, ai v2), (3, ai v3), (5, ai v5), (6, ai 0)] [] σ Q))) :
  J IX M_X6_addWay (d + 1) 62 [(0, ar 1 0), (1, ai v1), (2, ai v2), (3, ai v3), (5, ai v5)] [] σ Q := wp_J oki_X Mok_X6_addWay (cuts := [(62, [0, 1, 2, 3, 5]), (74, [0, 1, 2, 3, 5, 6])]) 400 62 _ [] σ h
set_option maxRecDepth 10000 in
theorem r_X6_addWay_74 {d : Nat} {v1 : Int32} {v2 : Int32} {v3 : Int32} {v5 : Int32} {v6 : Int32} {σ : Mem} {Q : Option AV → Mem → Prop} (h :
  (((σ.1 1 0 5) ≤ v6 →
  J IX M_X6_addWay (d + 1) 62 [(0, ar 1 0), (1, ai v1), (2, ai v2), (3, ai v3), (5, ai (v5 + 1))] [] σ Q) ∧
  (¬ (σ.1 1 0 5) ≤ v6 →
  CalI IX d S_X6_apart [ar 1 0, ai v5, ai v1] σ (fun r2 σ1 =>
    CalI IX d S_X6_apart [ar 1 0, ai v2, ai v6] σ1 (fun r4 σ3 =>
    CalV IX d S_X6_shorten [ar 1 0, ai v5, ai v6, ai r2, ai r4, ai v3] σ3 (fun σ5 =>
    CalI IX d S_X6_apart [ar 1 0, ai v5, ai v2] σ5 (fun r7 σ6 =>
    CalI IX d S_X6_apart [ar 1 0, ai v1, ai v6] σ6 (fun r9 σ8 =>
    CalV IX d S_X6_shorten [ar 1 0, ai v5, ai v6, ai r7, ai r9, ai v3] σ8 (fun σ10 =>
    J IX M_X6_addWay (d + 1) 74 [(0, ar 1 0), (1, ai v1), (2, ai v2), (3, ai v3), (5, ai v5), (6, ai (v6 + 1))] [] σ10 Q))))))))) :
  J IX M_X6_addWay (d + 1) 74 [(0, ar 1 0), (1, ai v1), (2, ai v2), (3, ai v3), (5, ai v5), (6, ai v6)] [] σ Q := wp_J oki_X Mok_X6_addWay (cuts := [(62, [0, 1, 2, 3, 5]), (74, [0, 1, 2, 3, 5, 6])]) 400 74 _ [] σ h
set_option maxRecDepth 10000 in
theorem r_X6_isReached_0 {d : Nat} {p0 : Int32} {p1 : Int32} {p2 : Int32} {σ : Mem} {Q : Option AV → Mem → Prop} (h :
  CalI IX d S_X6_apart [ar 1 0, ai p0, ai p1] σ (fun r2 σ1 =>
  ((r2 = (-1) →
  ((0 : Int32) = 0 ∨ (0 : Int32) = 1) ∧ Q (some (ai 0)) σ1) ∧
  (¬ r2 = (-1) →
  ((p2 < r2 →
    ((0 : Int32) = 0 ∨ (0 : Int32) = 1) ∧ Q (some (ai 0)) σ1) ∧
    (¬ p2 < r2 →
    ((1 : Int32) = 0 ∨ (1 : Int32) = 1) ∧ Q (some (ai 1)) σ1)))))) :
  Cal IX (d + 1) S_X6_isReached [ar 1 0, ai p0, ai p1, ai p2] σ Q := Cal_of (M := M_X6_isReached) Sok_X6_isReached (by decide +kernel) rfl (wp_J oki_X Mok_X6_isReached (cuts := []) 400 0 _ [] σ h)
set_option maxRecDepth 10000 in
theorem r_X7_place_0 {d : Nat} {p0 : Int32} {p1 : Int32} {p2 : Int32} {σ : Mem} {Q : Option AV → Mem → Prop} (h :
  ((p0 < 1 →
  CalI IX d S_X7_refuse [ar 0 0, ai (-6)] σ (fun r2 σ1 =>
    Q (some (ai r2)) σ1)) ∧
  (¬ p0 < 1 →
  ((9 < p0 →
    CalI IX d S_X7_refuse [ar 0 0, ai (-6)] σ (fun r4 σ3 =>
      Q (some (ai r4)) σ3)) ∧
    (¬ 9 < p0 →
    CalI IX d S_X7_isSpan [ai p1, ai p2] σ (fun r6 σ5 =>
      ((r6 = 0 →
      CalI IX d S_X7_refuse [ar 0 0, ai (-6)] σ5 (fun r8 σ7 =>
        Q (some (ai r8)) σ7)) ∧
      (¬ r6 = 0 →
      (((σ5.1 0 0 16) = 0 →
        (((σ5.1 1 0 5) < 12 →
          CalI IX d S_X6_addPlace [ar 1 0, ai p0, ai p1, ai p2] σ5 (fun r10 σ9 =>
            Q (some (ai r10)) σ9)) ∧
          (¬ (σ5.1 1 0 5) < 12 →
          CalI IX d S_X7_refuse [ar 0 0, ai (-7)] σ5 (fun r12 σ11 =>
            Q (some (ai r12)) σ11)))) ∧
        (¬ (σ5.1 0 0 16) = 0 →
        CalI IX d S_X7_refuse [ar 0 0, ai (-6)] σ5 (fun r14 σ13 =>
          Q (some (ai r14)) σ13))))))))))) :
  Cal IX (d + 1) S_X7_place [ar 0 0, ai p0, ai p1, ai p2] σ Q := Cal_of (M := M_X7_place) Sok_X7_place (by decide +kernel) rfl (wp_J oki_X Mok_X7_place (cuts := []) 400 0 _ [] σ h)
set_option maxRecDepth 10000 in
theorem r_X7_folk_0 {d : Nat} {p0 : Int32} {σ : Mem} {Q : Option AV → Mem → Prop} (h :
  CalI IX d S_X6_has [ar 1 0, ai p0] σ (fun r2 σ1 =>
  ((¬ r2 = 0 →
  (((σ1.1 0 0 16) = 0 →
    (((σ1.1 0 0 9) < 20 →
      vp_in (σ1.1 0 0 9) 20 ∧
        Q (some (ai (((wI (wI σ1 9 (Int32.toNatClampNeg (σ1.1 0 0 9)) 4 p0) 0 0 9 (((wI σ1 9 (Int32.toNatClampNeg (σ1.1 0 0 9)) 4 p0).1 0 0 9) + 1)).1 0 0 9) - 1))) (wI (wI σ1 9 (Int32.toNatClampNeg (σ1.1 0 0 9)) 4 p0) 0 0 9 (((wI σ1 9 (Int32.toNatClampNeg (σ1.1 0 0 9)) 4 p0).1 0 0 9) + 1))) ∧
      (¬ (σ1.1 0 0 9) < 20 →
      CalI IX d S_X7_refuse [ar 0 0, ai (-7)] σ1 (fun r4 σ3 =>
        Q (some (ai r4)) σ3)))) ∧
    (¬ (σ1.1 0 0 16) = 0 →
    CalI IX d S_X7_refuse [ar 0 0, ai (-6)] σ1 (fun r6 σ5 =>
      Q (some (ai r6)) σ5)))) ∧
  (r2 = 0 →
  CalI IX d S_X7_refuse [ar 0 0, ai (-1)] σ1 (fun r8 σ7 =>
    Q (some (ai r8)) σ7))))) :
  Cal IX (d + 1) S_X7_folk [ar 0 0, ai p0] σ Q := Cal_of (M := M_X7_folk) Sok_X7_folk (by decide +kernel) rfl (wp_J oki_X Mok_X7_folk (cuts := []) 400 0 _ [] σ h)
set_option maxRecDepth 10000 in
theorem r_X7_happen_0 {d : Nat} {p0 : Int32} {σ : Mem} {Q : Option AV → Mem → Prop} (h :
  CalI IX d S_X6_has [ar 1 0, ai p0] σ (fun r2 σ1 =>
  ((¬ r2 = 0 →
  ((¬ (σ1.1 0 0 16) = 0 →
    (((σ1.1 0 0 11) < 12 →
      J IX M_X7_happen (d + 1) 64 [(0, ar 0 0), (1, ai p0), (2, ai (σ1.1 0 0 11)), (3, ai 0)] [] (wI σ1 0 0 11 ((σ1.1 0 0 11) + 1)) Q) ∧
      (¬ (σ1.1 0 0 11) < 12 →
      CalI IX d S_X7_refuse [ar 0 0, ai (-7)] σ1 (fun r4 σ3 =>
        Q (some (ai r4)) σ3)))) ∧
    ((σ1.1 0 0 16) = 0 →
    CalI IX d S_X7_refuse [ar 0 0, ai (-6)] σ1 (fun r6 σ5 =>
      Q (some (ai r6)) σ5)))) ∧
  (r2 = 0 →
  CalI IX d S_X7_refuse [ar 0 0, ai (-1)] σ1 (fun r8 σ7 =>
    Q (some (ai r8)) σ7))))) :
  Cal IX (d + 1) S_X7_happen [ar 0 0, ai p0] σ Q := Cal_of (M := M_X7_happen) Sok_X7_happen (by decide +kernel) rfl (wp_J oki_X Mok_X7_happen (cuts := [(64, [0, 1, 2, 3])]) 400 0 _ [] σ h)
set_option maxRecDepth 10000 in
theorem r_X7_happen_64 {d : Nat} {v1 : Int32} {v2 : Int32} {v3 : Int32} {σ : Mem} {Q : Option AV → Mem → Prop} (h :
  (((σ.1 0 0 9) ≤ v3 →
  Q (some (ai v2)) σ) ∧
  (¬ (σ.1 0 0 9) ≤ v3 →
  vp_in v3 20 ∧
    vp_in (σ.1 0 0 14) 48 ∧
    (((σ.1 12 (Int32.toNatClampNeg v3) (Int32.toNatClampNeg (σ.1 0 0 14))) = v1 →
    vp_in v3 20 ∧
      CalI IX d S_X7_moment [ar 0 0] σ (fun r10 σ9 =>
      CalV IX d S_X3_learn [ar 9 (Int32.toNatClampNeg v3), ai (1 <<< (v2 &&& 31)), ai r10] σ9 (fun σ11 =>
      J IX M_X7_happen (d + 1) 64 [(0, ar 0 0), (1, ai v1), (2, ai v2), (3, ai (v3 + 1))] [] σ11 Q))) ∧
    (¬ (σ.1 12 (Int32.toNatClampNeg v3) (Int32.toNatClampNeg (σ.1 0 0 14))) = v1 →
    ((¬ (σ.1 12 (Int32.toNatClampNeg v3) (Int32.toNatClampNeg (σ.1 0 0 14))) = (100 + v1) →
      J IX M_X7_happen (d + 1) 64 [(0, ar 0 0), (1, ai v1), (2, ai v2), (3, ai (v3 + 1))] [] σ Q) ∧
      ((σ.1 12 (Int32.toNatClampNeg v3) (Int32.toNatClampNeg (σ.1 0 0 14))) = (100 + v1) →
      vp_in v3 20 ∧
        CalI IX d S_X7_moment [ar 0 0] σ (fun r13 σ12 =>
        CalV IX d S_X3_learn [ar 9 (Int32.toNatClampNeg v3), ai (1 <<< (v2 &&& 31)), ai r13] σ12 (fun σ14 =>
        J IX M_X7_happen (d + 1) 64 [(0, ar 0 0), (1, ai v1), (2, ai v2), (3, ai (v3 + 1))] [] σ14 Q))))))))) :
  J IX M_X7_happen (d + 1) 64 [(0, ar 0 0), (1, ai v1), (2, ai v2), (3, ai v3)] [] σ Q := wp_J oki_X Mok_X7_happen (cuts := [(64, [0, 1, 2, 3])]) 400 64 _ [] σ h
set_option maxRecDepth 10000 in
theorem r_X7_where_0 {d : Nat} {p0 : Int32} {p1 : Int32} {σ : Mem} {Q : Option AV → Mem → Prop} (h :
  CalI IX d S_X7_wasEver [ar 0 0, ai p0] σ (fun r2 σ1 =>
  ((r2 = 0 →
  Q (some (ai (-1))) σ1) ∧
  (¬ r2 = 0 →
  CalI IX d S_X7_isTick [ai p1] σ1 (fun r4 σ3 =>
    ((r4 = 0 →
    Q (some (ai (-1))) σ3) ∧
    (¬ r4 = 0 →
    vp_in p0 20 ∧
      vp_in p1 48 ∧
      Q (some (ai (σ3.1 12 (Int32.toNatClampNeg p0) (Int32.toNatClampNeg p1)))) σ3))))))) :
  Cal IX (d + 1) S_X7_where [ar 0 0, ai p0, ai p1] σ Q := Cal_of (M := M_X7_where) Sok_X7_where (by decide +kernel) rfl (wp_J oki_X Mok_X7_where (cuts := []) 400 0 _ [] σ h)
set_option maxRecDepth 10000 in
theorem r_X7_status_0 {d : Nat} {p0 : Int32} {σ : Mem} {Q : Option AV → Mem → Prop} (h :
  ((Int32.toInt p0 < 0 ∨ 10 < Int32.toInt p0 →
  CalI IX d S_X7_refusalsOf [ar 0 0, ai (10 - p0)] σ (fun r2 σ1 =>
    Q (some (ai r2)) σ1)) ∧
  (Int32.toInt p0 = 0 →
  Q (some (ai (σ.1 1 0 5))) σ) ∧
  (Int32.toInt p0 = 1 →
  Q (some (ai (σ.1 1 0 6))) σ) ∧
  (Int32.toInt p0 = 2 →
  Q (some (ai (σ.1 0 0 9))) σ) ∧
  (Int32.toInt p0 = 3 →
  CalI IX d S_X7_countHere [ar 0 0] σ (fun r4 σ3 =>
    Q (some (ai r4)) σ3)) ∧
  (Int32.toInt p0 = 4 →
  Q (some (ai (σ.1 0 0 10))) σ) ∧
  (Int32.toInt p0 = 5 →
  Q (some (ai (σ.1 0 0 14))) σ) ∧
  (Int32.toInt p0 = 6 →
  Q (some (ai (σ.1 0 0 15))) σ) ∧
  (Int32.toInt p0 = 7 →
  Q (some (ai (σ.1 0 0 11))) σ) ∧
  (Int32.toInt p0 = 8 →
  CalI IX d S_X7_countBent [ar 0 0] σ (fun r6 σ5 =>
    Q (some (ai r6)) σ5)) ∧
  (Int32.toInt p0 = 9 →
  CalI IX d S_J6_bitCount_0f7a4 [ai (σ.1 0 0 13)] σ (fun r8 σ7 =>
    Q (some (ai r8)) σ7)) ∧
  (Int32.toInt p0 = 10 →
  Q (some (ai (σ.1 0 0 12))) σ) ∧ True)) :
  Cal IX (d + 1) S_X7_status [ar 0 0, ai p0] σ Q := Cal_of (M := M_X7_status) Sok_X7_status (by decide +kernel) rfl (wp_J oki_X Mok_X7_status (cuts := []) 400 0 _ [] σ h)
set_option maxRecDepth 10000 in
theorem r_X7_refusalOfRow_0 {d : Nat} {p0 : Int32} {σ : Mem} {Q : Option AV → Mem → Prop} (h :
  CalI IX d S_X7_isShelf [ai p0] σ (fun r2 σ1 =>
  ((¬ r2 = 0 →
  vp_in p0 8 ∧
    CalI IX d S_X5_isPerson [ar 7 (Int32.toNatClampNeg p0)] σ1 (fun r4 σ3 =>
    ((r4 = 0 →
    vp_in p0 8 ∧
      CalI IX d S_X5_isRow [ar 7 (Int32.toNatClampNeg p0)] σ3 (fun r6 σ5 =>
      ((r6 = 0 →
      Q (some (ai (-3))) σ5) ∧
      (¬ r6 = 0 →
      Q (some (ai 0)) σ5)))) ∧
    (¬ r4 = 0 →
    Q (some (ai (-2))) σ3)))) ∧
  (r2 = 0 →
  Q (some (ai (-1))) σ1)))) :
  Cal IX (d + 1) S_X7_refusalOfRow [ar 0 0, ai p0] σ Q := Cal_of (M := M_X7_refusalOfRow) Sok_X7_refusalOfRow (by decide +kernel) rfl (wp_J oki_X Mok_X7_refusalOfRow (cuts := []) 400 0 _ [] σ h)
set_option maxRecDepth 10000 in
theorem r_X7_isHere_0 {d : Nat} {p0 : Int32} {σ : Mem} {Q : Option AV → Mem → Prop} (h :
  CalI IX d S_X7_wasEver [ar 0 0, ai p0] σ (fun r2 σ1 =>
  ((r2 = 0 →
  ((0 : Int32) = 0 ∨ (0 : Int32) = 1) ∧ Q (some (ai 0)) σ1) ∧
  (¬ r2 = 0 →
  vp_in p0 20 ∧
    ((¬ (σ1.1 9 (Int32.toNatClampNeg p0) 13) = 0 →
    ((0 : Int32) = 0 ∨ (0 : Int32) = 1) ∧ Q (some (ai 0)) σ1) ∧
    ((σ1.1 9 (Int32.toNatClampNeg p0) 13) = 0 →
    ((1 : Int32) = 0 ∨ (1 : Int32) = 1) ∧ Q (some (ai 1)) σ1)))))) :
  Cal IX (d + 1) S_X7_isHere [ar 0 0, ai p0] σ Q := Cal_of (M := M_X7_isHere) Sok_X7_isHere (by decide +kernel) rfl (wp_J oki_X Mok_X7_isHere (cuts := []) 400 0 _ [] σ h)
set_option maxRecDepth 10000 in
theorem r_X7_tellFacts_0 {d : Nat}  {σ : Mem} {Q : Option AV → Mem → Prop} (h :
  CalV IX d S_J7_fill_53178 [ar 27 0, ai 0] σ (fun σ1 =>
  J IX M_X7_tellFacts (d + 1) 10 [(0, ar 0 0), (1, ai 0)] [] σ1 Q)) :
  Cal IX (d + 1) S_X7_tellFacts [ar 0 0] σ Q := Cal_of (M := M_X7_tellFacts) Sok_X7_tellFacts (by decide +kernel) rfl (wp_J oki_X Mok_X7_tellFacts (cuts := [(10, [0, 1]), (66, [0, 1])]) 400 0 _ [] σ h)
set_option maxRecDepth 10000 in
theorem r_X7_tellFacts_10 {d : Nat} {v1 : Int32} {σ : Mem} {Q : Option AV → Mem → Prop} (h :
  (((σ.1 0 0 9) ≤ v1 →
  J IX M_X7_tellFacts (d + 1) 66 [(0, ar 0 0), (1, ai 0)] [] σ Q) ∧
  (¬ (σ.1 0 0 9) ≤ v1 →
  vp_in v1 20 ∧
    vp_in (σ.1 0 0 14) 48 ∧
    CalI IX d S_X7_isIn [ai (σ.1 12 (Int32.toNatClampNeg v1) (Int32.toNatClampNeg (σ.1 0 0 14)))] σ (fun r3 σ2 =>
    ((r3 = 0 →
    J IX M_X7_tellFacts (d + 1) 10 [(0, ar 0 0), (1, ai (v1 + 1))] [] σ2 Q) ∧
    (¬ r3 = 0 →
    vp_in (σ.1 12 (Int32.toNatClampNeg v1) (Int32.toNatClampNeg (σ.1 0 0 14))) 12 ∧
      vp_in v1 20 ∧
      vp_in (σ.1 12 (Int32.toNatClampNeg v1) (Int32.toNatClampNeg (σ.1 0 0 14))) 12 ∧
      J IX M_X7_tellFacts (d + 1) 10 [(0, ar 0 0), (1, ai (v1 + 1))] [] (wI σ2 27 0 (Int32.toNatClampNeg (σ.1 12 (Int32.toNatClampNeg v1) (Int32.toNatClampNeg (σ.1 0 0 14)))) ((σ2.1 27 0 (Int32.toNatClampNeg (σ.1 12 (Int32.toNatClampNeg v1) (Int32.toNatClampNeg (σ.1 0 0 14))))) ||| (σ2.1 9 (Int32.toNatClampNeg v1) 11))) Q)))))) :
  J IX M_X7_tellFacts (d + 1) 10 [(0, ar 0 0), (1, ai v1)] [] σ Q := wp_J oki_X Mok_X7_tellFacts (cuts := [(10, [0, 1]), (66, [0, 1])]) 400 10 _ [] σ h
set_option maxRecDepth 10000 in
theorem r_X7_tellFacts_66 {d : Nat} {v1 : Int32} {σ : Mem} {Q : Option AV → Mem → Prop} (h :
  (((σ.1 0 0 9) ≤ v1 →
  Q none σ) ∧
  (¬ (σ.1 0 0 9) ≤ v1 →
  vp_in v1 20 ∧
    vp_in (σ.1 0 0 14) 48 ∧
    CalI IX d S_X7_isIn [ai (σ.1 12 (Int32.toNatClampNeg v1) (Int32.toNatClampNeg (σ.1 0 0 14)))] σ (fun r5 σ4 =>
    ((r5 = 0 →
    J IX M_X7_tellFacts (d + 1) 66 [(0, ar 0 0), (1, ai (v1 + 1))] [] σ4 Q) ∧
    (¬ r5 = 0 →
    vp_in v1 20 ∧
      vp_in (σ.1 12 (Int32.toNatClampNeg v1) (Int32.toNatClampNeg (σ.1 0 0 14))) 12 ∧
      CalI IX d S_X7_moment [ar 0 0] σ4 (fun r7 σ6 =>
      CalV IX d S_X3_learn [ar 9 (Int32.toNatClampNeg v1), ai (σ4.1 27 0 (Int32.toNatClampNeg (σ.1 12 (Int32.toNatClampNeg v1) (Int32.toNatClampNeg (σ.1 0 0 14))))), ai r7] σ6 (fun σ8 =>
      J IX M_X7_tellFacts (d + 1) 66 [(0, ar 0 0), (1, ai (v1 + 1))] [] σ8 Q)))))))) :
  J IX M_X7_tellFacts (d + 1) 66 [(0, ar 0 0), (1, ai v1)] [] σ Q := wp_J oki_X Mok_X7_tellFacts (cuts := [(10, [0, 1]), (66, [0, 1])]) 400 66 _ [] σ h
set_option maxRecDepth 10000 in
theorem r_X8_isPlace_0 {d : Nat} {p0 : Int32} {σ : Mem} {Q : Option AV → Mem → Prop} (h :
  CalI IM d S_X8_in [ai p0, ai 0, ai ((σ.1 30 0 5) - 1)] σ (fun r2 σ1 =>
  ((r2 : Int32) = 0 ∨ (r2 : Int32) = 1) ∧ Q (some (ai r2)) σ1)) :
  Cal IM (d + 1) S_X8_isPlace [ar 30 0, ai p0] σ Q := fun z => absurd offM z
set_option maxRecDepth 10000 in
theorem r_X8_isFolk_0 {d : Nat} {p0 : Int32} {σ : Mem} {Q : Option AV → Mem → Prop} (h :
  CalI IM d S_X8_in [ai p0, ai 0, ai ((σ.1 30 0 13) - 1)] σ (fun r2 σ1 =>
  ((r2 = 0 →
  ((0 : Int32) = 0 ∨ (0 : Int32) = 1) ∧ Q (some (ai 0)) σ1) ∧
  (¬ r2 = 0 →
  vp_in p0 20 ∧
    ((¬ (σ1.1 43 0 (Int32.toNatClampNeg p0)) = 0 →
    ((0 : Int32) = 0 ∨ (0 : Int32) = 1) ∧ Q (some (ai 0)) σ1) ∧
    ((σ1.1 43 0 (Int32.toNatClampNeg p0)) = 0 →
    ((1 : Int32) = 0 ∨ (1 : Int32) = 1) ∧ Q (some (ai 1)) σ1)))))) :
  Cal IM (d + 1) S_X8_isFolk [ar 30 0, ai p0] σ Q := fun z => absurd offM z
set_option maxRecDepth 10000 in
theorem r_X8_place_0 {d : Nat} {p0 : Int32} {p1 : Int32} {p2 : Int32} {σ : Mem} {Q : Option AV → Mem → Prop} (h :
  CalI IM d S_X8_in [ai p0, ai 1, ai 9] σ (fun r2 σ1 =>
  ((r2 = 0 →
  CalI IM d S_X8_refuse [ar 30 0, ai (-6)] σ1 (fun r4 σ3 =>
    Q (some (ai r4)) σ3)) ∧
  (¬ r2 = 0 →
  CalI IM d S_X8_isSpan [ai p1, ai p2] σ1 (fun r6 σ5 =>
    ((r6 = 0 →
    CalI IM d S_X8_refuse [ar 30 0, ai (-6)] σ5 (fun r8 σ7 =>
      Q (some (ai r8)) σ7)) ∧
    (¬ r6 = 0 →
    (((σ5.1 30 0 1) = 0 →
      ((¬ (σ5.1 30 0 5) = 12 →
        vp_in (σ5.1 30 0 5) 12 ∧
          vp_in ((wI σ5 32 0 (Int32.toNatClampNeg (σ5.1 30 0 5)) p0).1 30 0 5) 12 ∧
          vp_in ((wI (wI σ5 32 0 (Int32.toNatClampNeg (σ5.1 30 0 5)) p0) 33 0 (Int32.toNatClampNeg ((wI σ5 32 0 (Int32.toNatClampNeg (σ5.1 30 0 5)) p0).1 30 0 5)) p1).1 30 0 5) 12 ∧
          Q (some (ai (((wI (wI (wI (wI σ5 32 0 (Int32.toNatClampNeg (σ5.1 30 0 5)) p0) 33 0 (Int32.toNatClampNeg ((wI σ5 32 0 (Int32.toNatClampNeg (σ5.1 30 0 5)) p0).1 30 0 5)) p1) 34 0 (Int32.toNatClampNeg ((wI (wI σ5 32 0 (Int32.toNatClampNeg (σ5.1 30 0 5)) p0) 33 0 (Int32.toNatClampNeg ((wI σ5 32 0 (Int32.toNatClampNeg (σ5.1 30 0 5)) p0).1 30 0 5)) p1).1 30 0 5)) p2) 30 0 5 (((wI (wI (wI σ5 32 0 (Int32.toNatClampNeg (σ5.1 30 0 5)) p0) 33 0 (Int32.toNatClampNeg ((wI σ5 32 0 (Int32.toNatClampNeg (σ5.1 30 0 5)) p0).1 30 0 5)) p1) 34 0 (Int32.toNatClampNeg ((wI (wI σ5 32 0 (Int32.toNatClampNeg (σ5.1 30 0 5)) p0) 33 0 (Int32.toNatClampNeg ((wI σ5 32 0 (Int32.toNatClampNeg (σ5.1 30 0 5)) p0).1 30 0 5)) p1).1 30 0 5)) p2).1 30 0 5) + 1)).1 30 0 5) - 1))) (wI (wI (wI (wI σ5 32 0 (Int32.toNatClampNeg (σ5.1 30 0 5)) p0) 33 0 (Int32.toNatClampNeg ((wI σ5 32 0 (Int32.toNatClampNeg (σ5.1 30 0 5)) p0).1 30 0 5)) p1) 34 0 (Int32.toNatClampNeg ((wI (wI σ5 32 0 (Int32.toNatClampNeg (σ5.1 30 0 5)) p0) 33 0 (Int32.toNatClampNeg ((wI σ5 32 0 (Int32.toNatClampNeg (σ5.1 30 0 5)) p0).1 30 0 5)) p1).1 30 0 5)) p2) 30 0 5 (((wI (wI (wI σ5 32 0 (Int32.toNatClampNeg (σ5.1 30 0 5)) p0) 33 0 (Int32.toNatClampNeg ((wI σ5 32 0 (Int32.toNatClampNeg (σ5.1 30 0 5)) p0).1 30 0 5)) p1) 34 0 (Int32.toNatClampNeg ((wI (wI σ5 32 0 (Int32.toNatClampNeg (σ5.1 30 0 5)) p0) 33 0 (Int32.toNatClampNeg ((wI σ5 32 0 (Int32.toNatClampNeg (σ5.1 30 0 5)) p0).1 30 0 5)) p1).1 30 0 5)) p2).1 30 0 5) + 1))) ∧
        ((σ5.1 30 0 5) = 12 →
        CalI IM d S_X8_refuse [ar 30 0, ai (-7)] σ5 (fun r10 σ9 =>
          Q (some (ai r10)) σ9)))) ∧
      (¬ (σ5.1 30 0 1) = 0 →
      CalI IM d S_X8_refuse [ar 30 0, ai (-6)] σ5 (fun r12 σ11 =>
        Q (some (ai r12)) σ11)))))))))) :
  Cal IM (d + 1) S_X8_place [ar 30 0, ai p0, ai p1, ai p2] σ Q := fun z => absurd offM z
set_option maxRecDepth 10000 in
theorem r_X8_isShelf_0 {d : Nat} {p0 : Int32} {σ : Mem} {Q : Option AV → Mem → Prop} (h :
  CalI IM d S_X8_in [ai p0, ai 0, ai 7] σ (fun r2 σ1 =>
  ((r2 : Int32) = 0 ∨ (r2 : Int32) = 1) ∧ Q (some (ai r2)) σ1)) :
  Cal IM (d + 1) S_X8_isShelf [ai p0] σ Q := fun z => absurd offM z
set_option maxRecDepth 10000 in
theorem r_X8_holdsFolk_0 {d : Nat} {p0 : Int32} {σ : Mem} {Q : Option AV → Mem → Prop} (h :
  vp_in p0 8 ∧
  CalI IM d S_X8_in [ai (σ.1 57 0 (Int32.toNatClampNeg p0)), ai 0, ai 99] σ (fun r2 σ1 =>
  ((r2 : Int32) = 0 ∨ (r2 : Int32) = 1) ∧ Q (some (ai r2)) σ1)) :
  Cal IM (d + 1) S_X8_holdsFolk [ar 30 0, ai p0] σ Q := fun z => absurd offM z
set_option maxRecDepth 10000 in
theorem r_X8_findClaims_0 {d : Nat} {p0 : Int32} {σ : Mem} {Q : Option AV → Mem → Prop} (h :
  J IM M_X8_findClaims (d + 1) 2 [(0, ar 30 0), (1, ai p0), (2, ai 0)] [] σ Q) :
  Cal IM (d + 1) S_X8_findClaims [ar 30 0, ai p0] σ Q := fun z => absurd offM z
set_option maxRecDepth 10000 in
theorem r_X8_findClaims_2 {d : Nat} {v1 : Int32} {v2 : Int32} {σ : Mem} {Q : Option AV → Mem → Prop} (h :
  ((576 ≤ v2 →
  J IM M_X8_findClaims (d + 1) 37 [(0, ar 30 0), (1, ai v1), (2, ai (48 * v1))] [] σ Q) ∧
  (¬ 576 ≤ v2 →
  vp_in v2 576 ∧
    ¬ (12 : Int32) = 0 ∧
    vp_in (v2 / 12) 48 ∧
    J IM M_X8_findClaims (d + 1) 2 [(0, ar 30 0), (1, ai v1), (2, ai (v2 + 1))] [] (wI (wI σ 62 0 (Int32.toNatClampNeg v2) 0) 61 0 (Int32.toNatClampNeg (v2 / 12)) 0) Q))) :
  J IM M_X8_findClaims (d + 1) 2 [(0, ar 30 0), (1, ai v1), (2, ai v2)] [] σ Q := fun z => absurd offM z
set_option maxRecDepth 10000 in
theorem r_X8_findClaims_37 {d : Nat} {v1 : Int32} {v2 : Int32} {σ : Mem} {Q : Option AV → Mem → Prop} (h :
  vp_in v1 20 ∧
  ((((48 * v1) + (4 * (σ.1 41 0 (Int32.toNatClampNeg v1)))) ≤ v2 →
  J IM M_X8_findClaims (d + 1) 96 [(0, ar 30 0), (1, ai v1), (2, ai 0)] [] σ Q) ∧
  (¬ ((48 * v1) + (4 * (σ.1 41 0 (Int32.toNatClampNeg v1)))) ≤ v2 →
  vp_in v2 960 ∧
    vp_in (v2 + 1) 960 ∧
    vp_in (v2 + 2) 960 ∧
    vp_in (v2 + 3) 960 ∧
    CalV IM d S_X8_claim [ar 30 0, ai (σ.1 42 0 (Int32.toNatClampNeg v2)), ai (σ.1 42 0 (Int32.toNatClampNeg (v2 + 1))), ai (σ.1 42 0 (Int32.toNatClampNeg (v2 + 2))), ai (σ.1 42 0 (Int32.toNatClampNeg (v2 + 3)))] σ (fun σ1 =>
    J IM M_X8_findClaims (d + 1) 37 [(0, ar 30 0), (1, ai v1), (2, ai (v2 + 4))] [] σ1 Q)))) :
  J IM M_X8_findClaims (d + 1) 37 [(0, ar 30 0), (1, ai v1), (2, ai v2)] [] σ Q := fun z => absurd offM z
set_option maxRecDepth 10000 in
theorem r_X8_findClaims_96 {d : Nat} {v1 : Int32} {v2 : Int32} {σ : Mem} {Q : Option AV → Mem → Prop} (h :
  (((σ.1 30 0 25) ≤ v2 →
  vp_in v1 20 ∧
    (((σ.1 44 0 (Int32.toNatClampNeg v1)) = 0 →
    Q none σ) ∧
    (¬ (σ.1 44 0 (Int32.toNatClampNeg v1)) = 0 →
    vp_in (3 * v1) 60 ∧
      vp_in ((3 * v1) + 1) 60 ∧
      vp_in ((3 * v1) + 2) 60 ∧
      CalV IM d S_X8_claim [ar 30 0, ai (σ.1 45 0 (Int32.toNatClampNeg (3 * v1))), ai (σ.1 45 0 (Int32.toNatClampNeg ((3 * v1) + 1))), ai (σ.1 45 0 (Int32.toNatClampNeg ((3 * v1) + 2))), ai 200] σ (fun σ2 =>
      Q none σ2)))) ∧
  (¬ (σ.1 30 0 25) ≤ v2 →
  vp_in v2 10 ∧
    ((¬ (((σ.1 49 0 (Int32.toNatClampNeg v2)) >>> (v1 &&& 31)) &&& 1) = 1 →
    J IM M_X8_findClaims (d + 1) 96 [(0, ar 30 0), (1, ai v1), (2, ai (v2 + 1))] [] σ Q) ∧
    ((((σ.1 49 0 (Int32.toNatClampNeg v2)) >>> (v1 &&& 31)) &&& 1) = 1 →
    vp_in (4 * v2) 40 ∧
      vp_in ((4 * v2) + 1) 40 ∧
      vp_in ((4 * v2) + 2) 40 ∧
      vp_in ((4 * v2) + 3) 40 ∧
      CalV IM d S_X8_claim [ar 30 0, ai (σ.1 50 0 (Int32.toNatClampNeg (4 * v2))), ai (σ.1 50 0 (Int32.toNatClampNeg ((4 * v2) + 1))), ai (σ.1 50 0 (Int32.toNatClampNeg ((4 * v2) + 2))), ai (σ.1 50 0 (Int32.toNatClampNeg ((4 * v2) + 3)))] σ (fun σ3 =>
      J IM M_X8_findClaims (d + 1) 96 [(0, ar 30 0), (1, ai v1), (2, ai (v2 + 1))] [] σ3 Q)))))) :
  J IM M_X8_findClaims (d + 1) 96 [(0, ar 30 0), (1, ai v1), (2, ai v2)] [] σ Q := fun z => absurd offM z
set_option maxRecDepth 10000 in
theorem r_X8_canBeIn_0 {d : Nat} {p0 : Int32} {p1 : Int32} {p2 : Int32} {σ : Mem} {Q : Option AV → Mem → Prop} (h :
  vp_in p1 12 ∧
  vp_in p1 12 ∧
  CalI IM d S_X8_in [ai p2, ai (σ.1 33 0 (Int32.toNatClampNeg p1)), ai ((σ.1 34 0 (Int32.toNatClampNeg p1)) - 1)] σ (fun r2 σ1 =>
  ((¬ r2 = 0 →
  (((1 : Int32) = 0 →
    ((0 : Int32) = 0 ∨ (0 : Int32) = 1) ∧ Q (some (ai 0)) σ1) ∧
    (¬ (1 : Int32) = 0 →
    vp_in p1 12 ∧
      ((¬ (σ1.1 35 0 (Int32.toNatClampNeg p1)) = 0 →
      ((0 : Int32) = 0 ∨ (0 : Int32) = 1) ∧ Q (some (ai 0)) σ1) ∧
      ((σ1.1 35 0 (Int32.toNatClampNeg p1)) = 0 →
      vp_in ((48 * p1) + p2) 576 ∧
        vp_in p1 12 ∧
        (((σ1.1 32 0 (Int32.toNatClampNeg p1)) ≤ (σ1.1 48 0 (Int32.toNatClampNeg ((48 * p1) + p2))) →
        ((0 : Int32) = 0 ∨ (0 : Int32) = 1) ∧ Q (some (ai 0)) σ1) ∧
        (¬ (σ1.1 32 0 (Int32.toNatClampNeg p1)) ≤ (σ1.1 48 0 (Int32.toNatClampNeg ((48 * p1) + p2))) →
        ((1 : Int32) = 0 ∨ (1 : Int32) = 1) ∧ Q (some (ai 1)) σ1))))))) ∧
  (r2 = 0 →
  vp_in p0 20 ∧
    ((¬ (((σ1.1 39 0 (Int32.toNatClampNeg p0)) >>> (p1 &&& 31)) &&& 1) = 1 →
    (((0 : Int32) = 0 →
      ((0 : Int32) = 0 ∨ (0 : Int32) = 1) ∧ Q (some (ai 0)) σ1) ∧
      (¬ (0 : Int32) = 0 →
      vp_in p1 12 ∧
        ((¬ (σ1.1 35 0 (Int32.toNatClampNeg p1)) = 0 →
        ((0 : Int32) = 0 ∨ (0 : Int32) = 1) ∧ Q (some (ai 0)) σ1) ∧
        ((σ1.1 35 0 (Int32.toNatClampNeg p1)) = 0 →
        vp_in ((48 * p1) + p2) 576 ∧
          vp_in p1 12 ∧
          (((σ1.1 32 0 (Int32.toNatClampNeg p1)) ≤ (σ1.1 48 0 (Int32.toNatClampNeg ((48 * p1) + p2))) →
          ((0 : Int32) = 0 ∨ (0 : Int32) = 1) ∧ Q (some (ai 0)) σ1) ∧
          (¬ (σ1.1 32 0 (Int32.toNatClampNeg p1)) ≤ (σ1.1 48 0 (Int32.toNatClampNeg ((48 * p1) + p2))) →
          ((1 : Int32) = 0 ∨ (1 : Int32) = 1) ∧ Q (some (ai 1)) σ1))))))) ∧
    ((((σ1.1 39 0 (Int32.toNatClampNeg p0)) >>> (p1 &&& 31)) &&& 1) = 1 →
    (((1 : Int32) = 0 →
      ((0 : Int32) = 0 ∨ (0 : Int32) = 1) ∧ Q (some (ai 0)) σ1) ∧
      (¬ (1 : Int32) = 0 →
      vp_in p1 12 ∧
        ((¬ (σ1.1 35 0 (Int32.toNatClampNeg p1)) = 0 →
        ((0 : Int32) = 0 ∨ (0 : Int32) = 1) ∧ Q (some (ai 0)) σ1) ∧
        ((σ1.1 35 0 (Int32.toNatClampNeg p1)) = 0 →
        vp_in ((48 * p1) + p2) 576 ∧
          vp_in p1 12 ∧
          (((σ1.1 32 0 (Int32.toNatClampNeg p1)) ≤ (σ1.1 48 0 (Int32.toNatClampNeg ((48 * p1) + p2))) →
          ((0 : Int32) = 0 ∨ (0 : Int32) = 1) ∧ Q (some (ai 0)) σ1) ∧
          (¬ (σ1.1 32 0 (Int32.toNatClampNeg p1)) ≤ (σ1.1 48 0 (Int32.toNatClampNeg ((48 * p1) + p2))) →
          ((1 : Int32) = 0 ∨ (1 : Int32) = 1) ∧ Q (some (ai 1)) σ1)))))))))))) :
  Cal IM (d + 1) S_X8_canBeIn [ar 30 0, ai p0, ai p1, ai p2] σ Q := fun z => absurd offM z
set_option maxRecDepth 10000 in
theorem r_X8_inCost_0 {d : Nat} {p0 : Int32} {p1 : Int32} {p2 : Int32} {σ : Mem} {Q : Option AV → Mem → Prop} (h :
  vp_in p2 48 ∧
  vp_in ((12 * p2) + p1) 576 ∧
  vp_in ((12 * p0) + p1) 240 ∧
  vp_in p0 20 ∧
  ((p1 = (σ.1 38 0 (Int32.toNatClampNeg p0)) →
  CalI IM d S_X8_late [ai 0, ai p2] σ (fun r2 σ1 =>
    Q (some (ai (((((σ.1 61 0 (Int32.toNatClampNeg p2)) - (σ.1 62 0 (Int32.toNatClampNeg ((12 * p2) + p1)))) + 9) - (σ.1 40 0 (Int32.toNatClampNeg ((12 * p0) + p1)))) + r2))) σ1)) ∧
  (¬ p1 = (σ.1 38 0 (Int32.toNatClampNeg p0)) →
  CalI IM d S_X8_late [ai 1, ai p2] σ (fun r4 σ3 =>
    Q (some (ai (((((σ.1 61 0 (Int32.toNatClampNeg p2)) - (σ.1 62 0 (Int32.toNatClampNeg ((12 * p2) + p1)))) + 9) - (σ.1 40 0 (Int32.toNatClampNeg ((12 * p0) + p1)))) + r4))) σ3)))) :
  Cal IM (d + 1) S_X8_inCost [ar 30 0, ai p0, ai p1, ai p2] σ Q := fun z => absurd offM z
set_option maxRecDepth 10000 in
theorem r_X8_wayCost_0 {d : Nat} {p0 : Int32} {p1 : Int32} {σ : Mem} {Q : Option AV → Mem → Prop} (h :
  J IM M_X8_wayCost (d + 1) 5 [(0, ar 30 0), (2, ai p1), (3, ai 0), (4, ai p0)] [] σ Q) :
  Cal IM (d + 1) S_X8_wayCost [ar 30 0, ai p0, ai p1] σ Q := fun z => absurd offM z
set_option maxRecDepth 10000 in
theorem r_X8_wayCost_5 {d : Nat} {v2 : Int32} {v3 : Int32} {v4 : Int32} {σ : Mem} {Q : Option AV → Mem → Prop} (h :
  ((v2 ≤ v4 →
  Q (some (ai v3)) σ) ∧
  (¬ v2 ≤ v4 →
  ((48 ≤ v4 →
    Q (some (ai v3)) σ) ∧
    (¬ 48 ≤ v4 →
    vp_in v4 48 ∧
      CalI IM d S_X8_late [ai 1, ai v4] σ (fun r2 σ1 =>
      J IM M_X8_wayCost (d + 1) 5 [(0, ar 30 0), (2, ai v2), (3, ai (v3 + (((σ.1 61 0 (Int32.toNatClampNeg v4)) + 3) + r2))), (4, ai (v4 + 1))] [] σ1 Q)))))) :
  J IM M_X8_wayCost (d + 1) 5 [(0, ar 30 0), (2, ai v2), (3, ai v3), (4, ai v4)] [] σ Q := fun z => absurd offM z
set_option maxRecDepth 10000 in
theorem r_X8_leaves_0 {d : Nat} {p0 : Int32} {p1 : Int32} {σ : Mem} {Q : Option AV → Mem → Prop} (h :
  J IM M_X8_leaves (d + 1) 2 [(0, ar 30 0), (1, ai p0), (3, ai p1)] [] σ Q) :
  Cal IM (d + 1) S_X8_leaves [ar 30 0, ai p0, ai p1] σ Q := fun z => absurd offM z
set_option maxRecDepth 10000 in
theorem r_X8_leaves_2 {d : Nat} {v1 : Int32} {v3 : Int32} {σ : Mem} {Q : Option AV → Mem → Prop} (h :
  ((48 ≤ v3 →
  Q none σ) ∧
  (¬ 48 ≤ v3 →
  vp_in ((48 * v1) + v3) 960 ∧
    CalI IM d S_X8_in [ai (σ.1 46 0 (Int32.toNatClampNeg ((48 * v1) + v3))), ai 0, ai 11] σ (fun r2 σ1 =>
    ((r2 = 0 →
    vp_in ((48 * v1) + v3) 960 ∧
      J IM M_X8_leaves (d + 1) 2 [(0, ar 30 0), (1, ai v1), (3, ai (v3 + 1))] [] (wI σ1 46 0 (Int32.toNatClampNeg ((48 * v1) + v3)) (-1)) Q) ∧
    (¬ r2 = 0 →
    vp_in ((48 * (σ.1 46 0 (Int32.toNatClampNeg ((48 * v1) + v3)))) + v3) 576 ∧
      vp_in ((48 * (σ.1 46 0 (Int32.toNatClampNeg ((48 * v1) + v3)))) + v3) 576 ∧
      vp_in ((48 * v1) + v3) 960 ∧
      J IM M_X8_leaves (d + 1) 2 [(0, ar 30 0), (1, ai v1), (3, ai (v3 + 1))] [] (wI (wI σ1 48 0 (Int32.toNatClampNeg ((48 * (σ.1 46 0 (Int32.toNatClampNeg ((48 * v1) + v3)))) + v3)) ((σ1.1 48 0 (Int32.toNatClampNeg ((48 * (σ.1 46 0 (Int32.toNatClampNeg ((48 * v1) + v3)))) + v3))) - 1)) 46 0 (Int32.toNatClampNeg ((48 * v1) + v3)) (-1)) Q)))))) :
  J IM M_X8_leaves (d + 1) 2 [(0, ar 30 0), (1, ai v1), (3, ai v3)] [] σ Q := fun z => absurd offM z
set_option maxRecDepth 10000 in
theorem r_X8_tells_0 {d : Nat}  {σ : Mem} {Q : Option AV → Mem → Prop} (h :
  J IM M_X8_tells (d + 1) 2 [(0, ar 30 0), (1, ai 0)] [] σ Q) :
  Cal IM (d + 1) S_X8_tells [ar 30 0] σ Q := fun z => absurd offM z
set_option maxRecDepth 10000 in
theorem r_X8_tells_2 {d : Nat} {v1 : Int32} {σ : Mem} {Q : Option AV → Mem → Prop} (h :
  ((240 ≤ v1 →
  J IM M_X8_tells (d + 1) 38 [(0, ar 30 0), (1, ai 0)] [] σ Q) ∧
  (¬ 240 ≤ v1 →
  vp_in v1 240 ∧
    (((σ.1 54 0 (Int32.toNatClampNeg v1)) = (-1) →
    vp_in v1 240 ∧ ((0 : Int32) = 0 ∨ (0 : Int32) = 1) ∧
      J IM M_X8_tells (d + 1) 2 [(0, ar 30 0), (1, ai (v1 + 1))] [] (wI σ 55 0 (Int32.toNatClampNeg v1) 0) Q) ∧
    (¬ (σ.1 54 0 (Int32.toNatClampNeg v1)) = (-1) →
    vp_in v1 240 ∧ ((1 : Int32) = 0 ∨ (1 : Int32) = 1) ∧
      J IM M_X8_tells (d + 1) 2 [(0, ar 30 0), (1, ai (v1 + 1))] [] (wI σ 55 0 (Int32.toNatClampNeg v1) 1) Q))))) :
  J IM M_X8_tells (d + 1) 2 [(0, ar 30 0), (1, ai v1)] [] σ Q := fun z => absurd offM z
set_option maxRecDepth 10000 in
theorem r_X8_tells_38 {d : Nat} {v1 : Int32} {σ : Mem} {Q : Option AV → Mem → Prop} (h :
  (((σ.1 30 0 13) ≤ v1 →
  Q none σ) ∧
  (¬ (σ.1 30 0 13) ≤ v1 →
  J IM M_X8_tells (d + 1) 48 [(0, ar 30 0), (1, ai v1), (2, ai 0)] [] σ Q))) :
  J IM M_X8_tells (d + 1) 38 [(0, ar 30 0), (1, ai v1)] [] σ Q := fun z => absurd offM z
set_option maxRecDepth 10000 in
theorem r_X8_tells_48 {d : Nat} {v1 : Int32} {v2 : Int32} {σ : Mem} {Q : Option AV → Mem → Prop} (h :
  (((σ.1 30 0 13) ≤ v2 →
  J IM M_X8_tells (d + 1) 38 [(0, ar 30 0), (1, ai (v1 + 1))] [] σ Q) ∧
  (¬ (σ.1 30 0 13) ≤ v2 →
  vp_in ((48 * v1) + (σ.1 30 0 2)) 960 ∧
    ((v1 = v2 →
    J IM M_X8_tells (d + 1) 48 [(0, ar 30 0), (1, ai v1), (2, ai (v2 + 1))] [] σ Q) ∧
    (¬ v1 = v2 →
    CalI IM d S_X8_in [ai (σ.1 46 0 (Int32.toNatClampNeg ((48 * v1) + (σ.1 30 0 2)))), ai 0, ai 11] σ (fun r2 σ1 =>
      ((r2 = 0 →
      J IM M_X8_tells (d + 1) 48 [(0, ar 30 0), (1, ai v1), (2, ai (v2 + 1))] [] σ1 Q) ∧
      (¬ r2 = 0 →
      vp_in ((48 * v2) + (σ1.1 30 0 2)) 960 ∧
        ((¬ (σ1.1 46 0 (Int32.toNatClampNeg ((48 * v2) + (σ1.1 30 0 2)))) = (σ.1 46 0 (Int32.toNatClampNeg ((48 * v1) + (σ.1 30 0 2)))) →
        J IM M_X8_tells (d + 1) 48 [(0, ar 30 0), (1, ai v1), (2, ai (v2 + 1))] [] σ1 Q) ∧
        ((σ1.1 46 0 (Int32.toNatClampNeg ((48 * v2) + (σ1.1 30 0 2)))) = (σ.1 46 0 (Int32.toNatClampNeg ((48 * v1) + (σ.1 30 0 2)))) →
        J IM M_X8_tells (d + 1) 107 [(0, ar 30 0), (1, ai v1), (2, ai v2), (4, ai 0)] [] σ1 Q)))))))))) :
  J IM M_X8_tells (d + 1) 48 [(0, ar 30 0), (1, ai v1), (2, ai v2)] [] σ Q := fun z => absurd offM z
set_option maxRecDepth 10000 in
theorem r_X8_tells_107 {d : Nat} {v1 : Int32} {v2 : Int32} {v4 : Int32} {σ : Mem} {Q : Option AV → Mem → Prop} (h :
  (((σ.1 30 0 31) ≤ v4 →
  J IM M_X8_tells (d + 1) 48 [(0, ar 30 0), (1, ai v1), (2, ai (v2 + 1))] [] σ Q) ∧
  (¬ (σ.1 30 0 31) ≤ v4 →
  vp_in ((12 * v1) + v4) 240 ∧
    (((σ.1 55 0 (Int32.toNatClampNeg ((12 * v1) + v4))) = 0 →
    J IM M_X8_tells (d + 1) 107 [(0, ar 30 0), (1, ai v1), (2, ai v2), (4, ai (v4 + 1))] [] σ Q) ∧
    (¬ (σ.1 55 0 (Int32.toNatClampNeg ((12 * v1) + v4))) = 0 →
    vp_in ((12 * v2) + v4) 240 ∧
      ((¬ (σ.1 54 0 (Int32.toNatClampNeg ((12 * v2) + v4))) = (-1) →
      J IM M_X8_tells (d + 1) 107 [(0, ar 30 0), (1, ai v1), (2, ai v2), (4, ai (v4 + 1))] [] σ Q) ∧
      ((σ.1 54 0 (Int32.toNatClampNeg ((12 * v2) + v4))) = (-1) →
      vp_in ((12 * v2) + v4) 240 ∧
        J IM M_X8_tells (d + 1) 107 [(0, ar 30 0), (1, ai v1), (2, ai v2), (4, ai (v4 + 1))] [] (wI σ 54 0 (Int32.toNatClampNeg ((12 * v2) + v4)) ((48 * (σ.1 30 0 3)) + (σ.1 30 0 2))) Q))))))) :
  J IM M_X8_tells (d + 1) 107 [(0, ar 30 0), (1, ai v1), (2, ai v2), (4, ai v4)] [] σ Q := fun z => absurd offM z
set_option maxRecDepth 10000 in
theorem r_X8_meets_0 {d : Nat}  {σ : Mem} {Q : Option AV → Mem → Prop} (h :
  J IM M_X8_meets (d + 1) 2 [(0, ar 30 0), (1, ai 0)] [] σ Q) :
  Cal IM (d + 1) S_X8_meets [ar 30 0] σ Q := fun z => absurd offM z
set_option maxRecDepth 10000 in
theorem r_X8_meets_2 {d : Nat} {v1 : Int32} {σ : Mem} {Q : Option AV → Mem → Prop} (h :
  (((σ.1 30 0 25) ≤ v1 →
  Q none σ) ∧
  (¬ (σ.1 30 0 25) ≤ v1 →
  J IM M_X8_meets (d + 1) 14 [(0, ar 30 0), (1, ai v1), (2, ai 0), (3, ai 0)] [] σ Q))) :
  J IM M_X8_meets (d + 1) 2 [(0, ar 30 0), (1, ai v1)] [] σ Q := fun z => absurd offM z
set_option maxRecDepth 10000 in
theorem r_X8_meets_14 {d : Nat} {v1 : Int32} {v2 : Int32} {v3 : Int32} {σ : Mem} {Q : Option AV → Mem → Prop} (h :
  (((σ.1 30 0 13) ≤ v3 →
  vp_in ((4 * v1) + 1) 40 ∧
    vp_in ((4 * v1) + 2) 40 ∧
    CalI IM d S_X8_in [ai (σ.1 30 0 2), ai (σ.1 50 0 (Int32.toNatClampNeg ((4 * v1) + 1))), ai ((σ.1 50 0 (Int32.toNatClampNeg ((4 * v1) + 2))) - 1)] σ (fun r2 σ1 =>
    ((r2 = 0 →
    J IM M_X8_meets (d + 1) 2 [(0, ar 30 0), (1, ai (v1 + 1))] [] σ1 Q) ∧
    (¬ r2 = 0 →
    vp_in v1 10 ∧
      vp_in v1 10 ∧
      vp_in v1 10 ∧
      ((¬ v2 = ((wI σ1 53 0 (Int32.toNatClampNeg v1) ((σ1.1 53 0 (Int32.toNatClampNeg v1)) ||| v2)).1 49 0 (Int32.toNatClampNeg v1)) →
      J IM M_X8_meets (d + 1) 2 [(0, ar 30 0), (1, ai (v1 + 1))] [] (wI σ1 53 0 (Int32.toNatClampNeg v1) ((σ1.1 53 0 (Int32.toNatClampNeg v1)) ||| v2)) Q) ∧
      (v2 = ((wI σ1 53 0 (Int32.toNatClampNeg v1) ((σ1.1 53 0 (Int32.toNatClampNeg v1)) ||| v2)).1 49 0 (Int32.toNatClampNeg v1)) →
      vp_in v1 10 ∧
        vp_in v1 10 ∧
        vp_in v1 10 ∧
        vp_in v1 10 ∧
        J IM M_X8_meets (d + 1) 2 [(0, ar 30 0), (1, ai (v1 + 1))] [] (wI (wI (wI σ1 53 0 (Int32.toNatClampNeg v1) ((σ1.1 53 0 (Int32.toNatClampNeg v1)) ||| v2)) 51 0 (Int32.toNatClampNeg v1) (((wI σ1 53 0 (Int32.toNatClampNeg v1) ((σ1.1 53 0 (Int32.toNatClampNeg v1)) ||| v2)).1 51 0 (Int32.toNatClampNeg v1)) + 1)) 52 0 (Int32.toNatClampNeg v1) (((wI (wI σ1 53 0 (Int32.toNatClampNeg v1) ((σ1.1 53 0 (Int32.toNatClampNeg v1)) ||| v2)) 51 0 (Int32.toNatClampNeg v1) (((wI σ1 53 0 (Int32.toNatClampNeg v1) ((σ1.1 53 0 (Int32.toNatClampNeg v1)) ||| v2)).1 51 0 (Int32.toNatClampNeg v1)) + 1)).1 52 0 (Int32.toNatClampNeg v1)) + 1)) Q)))))) ∧
  (¬ (σ.1 30 0 13) ≤ v3 →
  vp_in v1 10 ∧
    ((¬ (((σ.1 49 0 (Int32.toNatClampNeg v1)) >>> (v3 &&& 31)) &&& 1) = 1 →
    J IM M_X8_meets (d + 1) 14 [(0, ar 30 0), (1, ai v1), (2, ai (v2 ||| 0)), (3, ai (v3 + 1))] [] σ Q) ∧
    ((((σ.1 49 0 (Int32.toNatClampNeg v1)) >>> (v3 &&& 31)) &&& 1) = 1 →
    vp_in ((48 * v3) + (σ.1 30 0 2)) 960 ∧
      vp_in (4 * v1) 40 ∧
      ((¬ (σ.1 46 0 (Int32.toNatClampNeg ((48 * v3) + (σ.1 30 0 2)))) = (σ.1 50 0 (Int32.toNatClampNeg (4 * v1))) →
      J IM M_X8_meets (d + 1) 14 [(0, ar 30 0), (1, ai v1), (2, ai (v2 ||| 0)), (3, ai (v3 + 1))] [] σ Q) ∧
      ((σ.1 46 0 (Int32.toNatClampNeg ((48 * v3) + (σ.1 30 0 2)))) = (σ.1 50 0 (Int32.toNatClampNeg (4 * v1))) →
      J IM M_X8_meets (d + 1) 14 [(0, ar 30 0), (1, ai v1), (2, ai (v2 ||| (1 <<< (v3 &&& 31)))), (3, ai (v3 + 1))] [] σ Q))))))) :
  J IM M_X8_meets (d + 1) 14 [(0, ar 30 0), (1, ai v1), (2, ai v2), (3, ai v3)] [] σ Q := fun z => absurd offM z
set_option maxRecDepth 10000 in
theorem r_X8_where_0 {d : Nat} {p0 : Int32} {p1 : Int32} {σ : Mem} {Q : Option AV → Mem → Prop} (h :
  CalI IM d S_X8_in [ai p0, ai 0, ai ((σ.1 30 0 13) - 1)] σ (fun r2 σ1 =>
  ((r2 = 0 →
  Q (some (ai (-1))) σ1) ∧
  (¬ r2 = 0 →
  CalI IM d S_X8_in [ai p1, ai 0, ai 47] σ1 (fun r4 σ3 =>
    ((r4 = 0 →
    Q (some (ai (-1))) σ3) ∧
    (¬ r4 = 0 →
    (((σ3.1 30 0 1) = 0 →
      Q (some (ai (-1))) σ3) ∧
      (¬ (σ3.1 30 0 1) = 0 →
      vp_in ((48 * p0) + p1) 960 ∧
        Q (some (ai (σ3.1 46 0 (Int32.toNatClampNeg ((48 * p0) + p1))))) σ3))))))))) :
  Cal IM (d + 1) S_X8_where [ar 30 0, ai p0, ai p1] σ Q := fun z => absurd offM z
set_option maxRecDepth 10000 in
theorem r_X8_knows_0 {d : Nat} {p0 : Int32} {p1 : Int32} {σ : Mem} {Q : Option AV → Mem → Prop} (h :
  CalI IM d S_X8_in [ai p0, ai 0, ai ((σ.1 30 0 13) - 1)] σ (fun r2 σ1 =>
  ((r2 = 0 →
  Q (some (ai (-1))) σ1) ∧
  (¬ r2 = 0 →
  CalI IM d S_X8_in [ai p1, ai 0, ai ((σ1.1 30 0 31) - 1)] σ1 (fun r4 σ3 =>
    ((r4 = 0 →
    Q (some (ai (-1))) σ3) ∧
    (¬ r4 = 0 →
    vp_in ((12 * p0) + p1) 240 ∧
      Q (some (ai (σ3.1 54 0 (Int32.toNatClampNeg ((12 * p0) + p1))))) σ3))))))) :
  Cal IM (d + 1) S_X8_knows [ar 30 0, ai p0, ai p1] σ Q := fun z => absurd offM z
set_option maxRecDepth 10000 in
theorem r_X8_met_0 {d : Nat} {p0 : Int32} {p1 : Int32} {σ : Mem} {Q : Option AV → Mem → Prop} (h :
  CalI IM d S_X8_in [ai p0, ai 0, ai ((σ.1 30 0 25) - 1)] σ (fun r2 σ1 =>
  ((¬ r2 = 0 →
  ((¬ p1 = 0 →
    ((¬ p1 = 1 →
      ((¬ p1 = 2 →
        Q (some (ai (-1))) σ1) ∧
        (p1 = 2 →
        vp_in p0 10 ∧
          Q (some (ai (σ1.1 53 0 (Int32.toNatClampNeg p0)))) σ1))) ∧
      (p1 = 1 →
      vp_in p0 10 ∧
        Q (some (ai (σ1.1 52 0 (Int32.toNatClampNeg p0)))) σ1))) ∧
    (p1 = 0 →
    vp_in p0 10 ∧
      Q (some (ai (σ1.1 51 0 (Int32.toNatClampNeg p0)))) σ1))) ∧
  (r2 = 0 →
  Q (some (ai (-1))) σ1)))) :
  Cal IM (d + 1) S_X8_met [ar 30 0, ai p0, ai p1] σ Q := fun z => absurd offM z
set_option maxRecDepth 10000 in
theorem r_X8_status_0 {d : Nat} {p0 : Int32} {σ : Mem} {Q : Option AV → Mem → Prop} (h :
  ((Int32.toInt p0 < 0 ∨ 10 < Int32.toInt p0 →
  CalI IM d S_X8_in [ai p0, ai 11, ai 17] σ (fun r2 σ1 =>
    ((r2 = 0 →
    Q (some (ai (-1))) σ1) ∧
    (¬ r2 = 0 →
    vp_in (p0 - 10) 8 ∧
      Q (some (ai (σ1.1 31 0 (Int32.toNatClampNeg (p0 - 10))))) σ1)))) ∧
  (Int32.toInt p0 = 0 →
  Q (some (ai (σ.1 30 0 5))) σ) ∧
  (Int32.toInt p0 = 1 →
  Q (some (ai (σ.1 30 0 10))) σ) ∧
  (Int32.toInt p0 = 2 →
  Q (some (ai (σ.1 30 0 13))) σ) ∧
  (Int32.toInt p0 = 3 →
  CalI IM d S_X8_still [ar 30 0] σ (fun r4 σ3 =>
    Q (some (ai r4)) σ3)) ∧
  (Int32.toInt p0 = 4 →
  Q (some (ai (σ.1 30 0 25))) σ) ∧
  (Int32.toInt p0 = 5 →
  Q (some (ai (σ.1 30 0 2))) σ) ∧
  (Int32.toInt p0 = 6 →
  Q (some (ai (σ.1 30 0 3))) σ) ∧
  (Int32.toInt p0 = 7 →
  Q (some (ai (σ.1 30 0 31))) σ) ∧
  (Int32.toInt p0 = 8 →
  CalI IM d S_X8_bent [ar 30 0] σ (fun r6 σ5 =>
    Q (some (ai r6)) σ5)) ∧
  (Int32.toInt p0 = 9 →
  CalI IM d S_X8_locked [ar 30 0] σ (fun r8 σ7 =>
    Q (some (ai r8)) σ7)) ∧
  (Int32.toInt p0 = 10 →
  Q (some (ai (σ.1 30 0 4))) σ) ∧ True)) :
  Cal IM (d + 1) S_X8_status [ar 30 0, ai p0] σ Q := fun z => absurd offM z
set_option maxRecDepth 10000 in
theorem r_X0_meetsEarlier_0 {d : Nat} {z : Nat} {p1 : Int32} {σ : Mem} {Q : Option AV → Mem → Prop} (h :
  J IX M_X0_meetsEarlier (d + 1) 2 [(0, ar 7 z), (1, ai p1), (2, ai 0)] [] σ Q) :
  Cal IX (d + 1) S_X0_meetsEarlier [ar 7 z, ai p1] σ Q := Cal_of (M := M_X0_meetsEarlier) Sok_X0_meetsEarlier (by decide +kernel) rfl (wp_J oki_X Mok_X0_meetsEarlier (cuts := [(2, [0, 1, 2])]) 400 0 _ [] σ h)
set_option maxRecDepth 10000 in
theorem r_X0_meetsEarlier_2 {d : Nat} {v0 : Nat} {v1 : Int32} {v2 : Int32} {σ : Mem} {Q : Option AV → Mem → Prop} (h :
  ((v1 ≤ v2 →
  ((0 : Int32) = 0 ∨ (0 : Int32) = 1) ∧ Q (some (ai 0)) σ) ∧
  (¬ v1 ≤ v2 →
  CalI IX d S_X0_startOf [ar 7 v0, ai v2] σ (fun r2 σ1 =>
    CalI IX d S_X0_endOf [ar 7 v0, ai v1] σ1 (fun r4 σ3 =>
    ((r4 ≤ r2 →
    J IX M_X0_meetsEarlier (d + 1) 2 [(0, ar 7 v0), (1, ai v1), (2, ai (v2 + 1))] [] σ3 Q) ∧
    (¬ r4 ≤ r2 →
    CalI IX d S_X0_startOf [ar 7 v0, ai v1] σ3 (fun r6 σ5 =>
      CalI IX d S_X0_endOf [ar 7 v0, ai v2] σ5 (fun r8 σ7 =>
      ((r8 ≤ r6 →
      J IX M_X0_meetsEarlier (d + 1) 2 [(0, ar 7 v0), (1, ai v1), (2, ai (v2 + 1))] [] σ7 Q) ∧
      (¬ r8 ≤ r6 →
      ((1 : Int32) = 0 ∨ (1 : Int32) = 1) ∧ Q (some (ai 1)) σ7))))))))))) :
  J IX M_X0_meetsEarlier (d + 1) 2 [(0, ar 7 v0), (1, ai v1), (2, ai v2)] [] σ Q := wp_J oki_X Mok_X0_meetsEarlier (cuts := [(2, [0, 1, 2])]) 400 2 _ [] σ h
set_option maxRecDepth 10000 in
theorem r_X0_isInTime_0 {d : Nat} {z : Nat} {p1 : Int32} {p2 : Int32} {σ : Mem} {Q : Option AV → Mem → Prop} (h :
  CalI IX d S_X0_placeOf [ar 7 z, ai p1] σ (fun r2 σ1 =>
  CalI IX d S_X0_placeOf [ar 7 z, ai p2] σ1 (fun r4 σ3 =>
  CalI IX d S_X0_startOf [ar 7 z, ai p2] σ3 (fun r6 σ5 =>
  CalI IX d S_X0_endOf [ar 7 z, ai p1] σ5 (fun r8 σ7 =>
  CalI IX d S_X6_isReached [ar 1 0, ai r2, ai r4, ai (r6 - r8)] σ7 (fun r10 σ9 =>
  ((r10 : Int32) = 0 ∨ (r10 : Int32) = 1) ∧ Q (some (ai r10)) σ9)))))) :
  Cal IX (d + 1) S_X0_isInTime [ar 7 z, ai p1, ai p2, ar 1 0] σ Q := Cal_of (M := M_X0_isInTime) Sok_X0_isInTime (by decide +kernel) rfl (wp_J oki_X Mok_X0_isInTime (cuts := []) 400 0 _ [] σ h)
set_option maxRecDepth 10000 in
theorem r_X2_search_0 {d : Nat} {f : Nat} {p3 : Int32} {p4 : Int32} {σ : Mem} {Q : Option AV → Mem → Prop} (h :
  J IX M_X2_search (d + 1) 3 [(0, ar 17 0), (1, ar 9 f), (2, ar 1 0), (3, ar 15 0), (4, ai p3), (5, ai p4), (6, ai 0)] [] σ Q) :
  Cal IX (d + 1) S_X2_search [ar 17 0, ar 9 f, ar 1 0, ar 15 0, ai p3, ai p4] σ Q := Cal_of (M := M_X2_search) Sok_X2_search (by decide +kernel) rfl (wp_J oki_X Mok_X2_search (cuts := [(3, [0, 1, 2, 3, 4, 5, 6]), (46, [0, 1, 2, 3, 4, 5, 6]), (56, [0, 1, 2, 3, 4, 5, 6, 7])]) 400 0 _ [] σ h)
set_option maxRecDepth 10000 in
theorem r_X2_search_3 {d : Nat} {v1 : Nat} {v4 : Int32} {v5 : Int32} {v6 : Int32} {σ : Mem} {Q : Option AV → Mem → Prop} (h :
  ((48 ≤ v6 →
  J IX M_X2_search (d + 1) 46 [(0, ar 17 0), (1, ar 9 v1), (2, ar 1 0), (3, ar 15 0), (4, ai v4), (5, ai v5), (6, ai 47)] [] σ Q) ∧
  (¬ 48 ≤ v6 →
  vp_in v6 49 ∧
    vp_in v6 48 ∧
    vp_in (v6 + 1) 49 ∧
    J IX M_X2_search (d + 1) 3 [(0, ar 17 0), (1, ar 9 v1), (2, ar 1 0), (3, ar 15 0), (4, ai v4), (5, ai v5), (6, ai (v6 + 1))] [] (wI σ 20 0 (Int32.toNatClampNeg (v6 + 1)) (((σ.1 20 0 (Int32.toNatClampNeg v6)) + 3) + (σ.1 18 0 (Int32.toNatClampNeg v6)))) Q))) :
  J IX M_X2_search (d + 1) 3 [(0, ar 17 0), (1, ar 9 v1), (2, ar 1 0), (3, ar 15 0), (4, ai v4), (5, ai v5), (6, ai v6)] [] σ Q := wp_J oki_X Mok_X2_search (cuts := [(3, [0, 1, 2, 3, 4, 5, 6]), (46, [0, 1, 2, 3, 4, 5, 6]), (56, [0, 1, 2, 3, 4, 5, 6, 7])]) 400 3 _ [] σ h
set_option maxRecDepth 10000 in
theorem r_X2_search_46 {d : Nat} {v1 : Nat} {v4 : Int32} {v5 : Int32} {v6 : Int32} {σ : Mem} {Q : Option AV → Mem → Prop} (h :
  ((v6 < v5 →
  Q none σ) ∧
  (¬ v6 < v5 →
  J IX M_X2_search (d + 1) 56 [(0, ar 17 0), (1, ar 9 v1), (2, ar 1 0), (3, ar 15 0), (4, ai v4), (5, ai v5), (6, ai v6), (7, ai 0)] [] σ Q))) :
  J IX M_X2_search (d + 1) 46 [(0, ar 17 0), (1, ar 9 v1), (2, ar 1 0), (3, ar 15 0), (4, ai v4), (5, ai v5), (6, ai v6)] [] σ Q := wp_J oki_X Mok_X2_search (cuts := [(3, [0, 1, 2, 3, 4, 5, 6]), (46, [0, 1, 2, 3, 4, 5, 6]), (56, [0, 1, 2, 3, 4, 5, 6, 7])]) 400 46 _ [] σ h
set_option maxRecDepth 10000 in
theorem r_X2_search_56 {d : Nat} {v1 : Nat} {v4 : Int32} {v5 : Int32} {v6 : Int32} {v7 : Int32} {σ : Mem} {Q : Option AV → Mem → Prop} (h :
  (((σ.1 1 0 5) ≤ v7 →
  J IX M_X2_search (d + 1) 46 [(0, ar 17 0), (1, ar 9 v1), (2, ar 1 0), (3, ar 15 0), (4, ai v4), (5, ai v5), (6, ai (v6 + (-1)))] [] σ Q) ∧
  (¬ (σ.1 1 0 5) ≤ v7 →
  CalI IX d S_X2_mayBeIn [ar 9 v1, ai v7, ai v6, ar 1 0, ar 15 0, ai v4] σ (fun r2 σ1 =>
    CalV IX d S_X2_stay [ar 17 0, ar 9 v1, ai v7, ai v6, ai r2] σ1 (fun σ3 =>
    CalV IX d S_X2_goOn [ar 17 0, ar 1 0, ai v7, ai v6] σ3 (fun σ4 =>
    J IX M_X2_search (d + 1) 56 [(0, ar 17 0), (1, ar 9 v1), (2, ar 1 0), (3, ar 15 0), (4, ai v4), (5, ai v5), (6, ai v6), (7, ai (v7 + 1))] [] σ4 Q)))))) :
  J IX M_X2_search (d + 1) 56 [(0, ar 17 0), (1, ar 9 v1), (2, ar 1 0), (3, ar 15 0), (4, ai v4), (5, ai v5), (6, ai v6), (7, ai v7)] [] σ Q := wp_J oki_X Mok_X2_search (cuts := [(3, [0, 1, 2, 3, 4, 5, 6]), (46, [0, 1, 2, 3, 4, 5, 6]), (56, [0, 1, 2, 3, 4, 5, 6, 7])]) 400 56 _ [] σ h
set_option maxRecDepth 10000 in
theorem r_X4_take_0 {d : Nat} {f : Nat} {p1 : Int32} {σ : Mem} {Q : Option AV → Mem → Prop} (h :
  CalV IX d S_X4_add [ar 15 0, ar 12 f, ai p1, ai 1] σ (fun σ1 =>
  Q none σ1)) :
  Cal IX (d + 1) S_X4_take [ar 15 0, ar 12 f, ai p1] σ Q := Cal_of (M := M_X4_take) Sok_X4_take (by decide +kernel) rfl (wp_J oki_X Mok_X4_take (cuts := []) 400 0 _ [] σ h)
set_option maxRecDepth 10000 in
theorem r_X4_release_0 {d : Nat} {f : Nat} {p1 : Int32} {σ : Mem} {Q : Option AV → Mem → Prop} (h :
  CalV IX d S_X4_add [ar 15 0, ar 12 f, ai p1, ai (-1)] σ (fun σ1 =>
  Q none σ1)) :
  Cal IX (d + 1) S_X4_release [ar 15 0, ar 12 f, ai p1] σ Q := Cal_of (M := M_X4_release) Sok_X4_release (by decide +kernel) rfl (wp_J oki_X Mok_X4_release (cuts := []) 400 0 _ [] σ h)
set_option maxRecDepth 10000 in
theorem r_X7_way_0 {d : Nat} {p0 : Int32} {p1 : Int32} {p2 : Int32} {σ : Mem} {Q : Option AV → Mem → Prop} (h :
  CalI IX d S_X6_has [ar 1 0, ai p0] σ (fun r2 σ1 =>
  ((r2 = 0 →
  CalI IX d S_X7_refuse [ar 0 0, ai (-1)] σ1 (fun r4 σ3 =>
    Q (some (ai r4)) σ3)) ∧
  (¬ r2 = 0 →
  CalI IX d S_X6_has [ar 1 0, ai p1] σ1 (fun r6 σ5 =>
    ((¬ r6 = 0 →
    ((p0 = p1 →
      CalI IX d S_X7_refuse [ar 0 0, ai (-6)] σ5 (fun r8 σ7 =>
        Q (some (ai r8)) σ7)) ∧
      (¬ p0 = p1 →
      ((p2 < 1 →
        CalI IX d S_X7_refuse [ar 0 0, ai (-6)] σ5 (fun r10 σ9 =>
          Q (some (ai r10)) σ9)) ∧
        (¬ p2 < 1 →
        ((9 < p2 →
          CalI IX d S_X7_refuse [ar 0 0, ai (-6)] σ5 (fun r12 σ11 =>
            Q (some (ai r12)) σ11)) ∧
          (¬ 9 < p2 →
          (((σ5.1 0 0 16) = 0 →
            (((σ5.1 1 0 6) < 30 →
              CalV IX d S_X6_addWay [ar 1 0, ai p0, ai p1, ai p2] σ5 (fun σ13 =>
                Q (some (ai 1)) σ13)) ∧
              (¬ (σ5.1 1 0 6) < 30 →
              CalI IX d S_X7_refuse [ar 0 0, ai (-7)] σ5 (fun r15 σ14 =>
                Q (some (ai r15)) σ14)))) ∧
            (¬ (σ5.1 0 0 16) = 0 →
            CalI IX d S_X7_refuse [ar 0 0, ai (-6)] σ5 (fun r17 σ16 =>
              Q (some (ai r17)) σ16)))))))))) ∧
    (r6 = 0 →
    CalI IX d S_X7_refuse [ar 0 0, ai (-1)] σ5 (fun r19 σ18 =>
      Q (some (ai r19)) σ18)))))))) :
  Cal IX (d + 1) S_X7_way [ar 0 0, ai p0, ai p1, ai p2] σ Q := Cal_of (M := M_X7_way) Sok_X7_way (by decide +kernel) rfl (wp_J oki_X Mok_X7_way (cuts := []) 400 0 _ [] σ h)
set_option maxRecDepth 10000 in
theorem r_X7_row_0 {d : Nat} {p0 : Int32} {p1 : Int32} {p2 : Int32} {σ : Mem} {Q : Option AV → Mem → Prop} (h :
  CalI IX d S_X7_isShelf [ai p0] σ (fun r2 σ1 =>
  ((¬ r2 = 0 →
  ((0 ≤ p2 →
    ((p1 < 0 →
      CalI IX d S_X7_refuse [ar 0 0, ai (-6)] σ1 (fun r4 σ3 =>
        Q (some (ai r4)) σ3)) ∧
      (¬ p1 < 0 →
      ((p1 ≤ 3 →
        ((p2 ≤ 60 →
          vp_in p0 8 ∧
            CalV IX d S_X5_putRow [ar 7 (Int32.toNatClampNeg p0), ai p1, ai p2] σ1 (fun σ5 =>
            Q (some (ai 1)) σ5)) ∧
          (¬ p2 ≤ 60 →
          CalI IX d S_X7_refuse [ar 0 0, ai (-7)] σ1 (fun r7 σ6 =>
            Q (some (ai r7)) σ6)))) ∧
        (¬ p1 ≤ 3 →
        CalI IX d S_X7_refuse [ar 0 0, ai (-6)] σ1 (fun r9 σ8 =>
          Q (some (ai r9)) σ8)))))) ∧
    (¬ 0 ≤ p2 →
    CalI IX d S_X7_refuse [ar 0 0, ai (-4)] σ1 (fun r11 σ10 =>
      Q (some (ai r11)) σ10)))) ∧
  (r2 = 0 →
  CalI IX d S_X7_refuse [ar 0 0, ai (-1)] σ1 (fun r13 σ12 =>
    Q (some (ai r13)) σ12))))) :
  Cal IX (d + 1) S_X7_row [ar 0 0, ai p0, ai p1, ai p2] σ Q := Cal_of (M := M_X7_row) Sok_X7_row (by decide +kernel) rfl (wp_J oki_X Mok_X7_row (cuts := []) 400 0 _ [] σ h)
set_option maxRecDepth 10000 in
theorem r_X7_set_0 {d : Nat} {p0 : Int32} {p1 : Int32} {p2 : Int64} {σ : Mem} {Q : Option AV → Mem → Prop} (h :
  CalI IX d S_X7_refusalOfRow [ar 0 0, ai p0] σ (fun r2 σ1 =>
  ((r2 = 0 →
  vp_in p0 8 ∧
    ((p1 < 0 →
    CalI IX d S_X7_refuse [ar 0 0, ai (-5)] σ1 (fun r4 σ3 =>
      Q (some (ai r4)) σ3)) ∧
    (¬ p1 < 0 →
    ((p1 < (σ1.1 7 (Int32.toNatClampNeg p0) 3) →
      CalV IX d S_X5_write [ar 7 (Int32.toNatClampNeg p0), ai p1, al p2] σ1 (fun σ5 =>
        Q (some (ai 1)) σ5)) ∧
      (¬ p1 < (σ1.1 7 (Int32.toNatClampNeg p0) 3) →
      CalI IX d S_X7_refuse [ar 0 0, ai (-5)] σ1 (fun r7 σ6 =>
        Q (some (ai r7)) σ6)))))) ∧
  (¬ r2 = 0 →
  CalI IX d S_X7_refuse [ar 0 0, ai r2] σ1 (fun r9 σ8 =>
    Q (some (ai r9)) σ8))))) :
  Cal IX (d + 1) S_X7_set [ar 0 0, ai p0, ai p1, al p2] σ Q := Cal_of (M := M_X7_set) Sok_X7_set (by decide +kernel) rfl (wp_J oki_X Mok_X7_set (cuts := []) 400 0 _ [] σ h)
set_option maxRecDepth 10000 in
theorem r_X7_key_0 {d : Nat} {p0 : Int32} {p1 : Int32} {p2 : Int32} {σ : Mem} {Q : Option AV → Mem → Prop} (h :
  CalI IX d S_X7_isHere [ar 0 0, ai p0] σ (fun r2 σ1 =>
  ((r2 = 0 →
  CalI IX d S_X7_refuse [ar 0 0, ai (-1)] σ1 (fun r4 σ3 =>
    Q (some (ai r4)) σ3)) ∧
  (¬ r2 = 0 →
  CalI IX d S_X6_has [ar 1 0, ai p1] σ1 (fun r6 σ5 =>
    ((¬ r6 = 0 →
    vp_in p0 20 ∧
      vp_in p0 20 ∧
      ((p2 = 0 →
      vp_in p0 20 ∧
        ((¬ ((wI σ5 9 (Int32.toNatClampNeg p0) 5 ((σ5.1 9 (Int32.toNatClampNeg p0) 5) &&& ((1 <<< (p1 &&& 31)) ^^^ (-1)))).1 9 (Int32.toNatClampNeg p0) 5) = (σ5.1 9 (Int32.toNatClampNeg p0) 5) →
        Q (some (ai 1)) (wI σ5 9 (Int32.toNatClampNeg p0) 5 ((σ5.1 9 (Int32.toNatClampNeg p0) 5) &&& ((1 <<< (p1 &&& 31)) ^^^ (-1))))) ∧
        (((wI σ5 9 (Int32.toNatClampNeg p0) 5 ((σ5.1 9 (Int32.toNatClampNeg p0) 5) &&& ((1 <<< (p1 &&& 31)) ^^^ (-1)))).1 9 (Int32.toNatClampNeg p0) 5) = (σ5.1 9 (Int32.toNatClampNeg p0) 5) →
        Q (some (ai 0)) (wI σ5 9 (Int32.toNatClampNeg p0) 5 ((σ5.1 9 (Int32.toNatClampNeg p0) 5) &&& ((1 <<< (p1 &&& 31)) ^^^ (-1))))))) ∧
      (¬ p2 = 0 →
      vp_in p0 20 ∧
        ((¬ ((wI σ5 9 (Int32.toNatClampNeg p0) 5 ((σ5.1 9 (Int32.toNatClampNeg p0) 5) ||| (1 <<< (p1 &&& 31)))).1 9 (Int32.toNatClampNeg p0) 5) = (σ5.1 9 (Int32.toNatClampNeg p0) 5) →
        Q (some (ai 1)) (wI σ5 9 (Int32.toNatClampNeg p0) 5 ((σ5.1 9 (Int32.toNatClampNeg p0) 5) ||| (1 <<< (p1 &&& 31))))) ∧
        (((wI σ5 9 (Int32.toNatClampNeg p0) 5 ((σ5.1 9 (Int32.toNatClampNeg p0) 5) ||| (1 <<< (p1 &&& 31)))).1 9 (Int32.toNatClampNeg p0) 5) = (σ5.1 9 (Int32.toNatClampNeg p0) 5) →
        Q (some (ai 0)) (wI σ5 9 (Int32.toNatClampNeg p0) 5 ((σ5.1 9 (Int32.toNatClampNeg p0) 5) ||| (1 <<< (p1 &&& 31))))))))) ∧
    (r6 = 0 →
    CalI IX d S_X7_refuse [ar 0 0, ai (-1)] σ5 (fun r8 σ7 =>
      Q (some (ai r8)) σ7)))))))) :
  Cal IX (d + 1) S_X7_key [ar 0 0, ai p0, ai p1, ai p2] σ Q := Cal_of (M := M_X7_key) Sok_X7_key (by decide +kernel) rfl (wp_J oki_X Mok_X7_key (cuts := []) 400 0 _ [] σ h)
set_option maxRecDepth 10000 in
theorem r_X7_areAllHere_0 {d : Nat} {p0 : Int32} {σ : Mem} {Q : Option AV → Mem → Prop} (h :
  J IX M_X7_areAllHere (d + 1) 2 [(0, ar 0 0), (1, ai p0), (2, ai 0)] [] σ Q) :
  Cal IX (d + 1) S_X7_areAllHere [ar 0 0, ai p0] σ Q := Cal_of (M := M_X7_areAllHere) Sok_X7_areAllHere (by decide +kernel) rfl (wp_J oki_X Mok_X7_areAllHere (cuts := [(2, [0, 1, 2])]) 400 0 _ [] σ h)
set_option maxRecDepth 10000 in
theorem r_X7_areAllHere_2 {d : Nat} {v1 : Int32} {v2 : Int32} {σ : Mem} {Q : Option AV → Mem → Prop} (h :
  ((32 ≤ v2 →
  ((1 : Int32) = 0 ∨ (1 : Int32) = 1) ∧ Q (some (ai 1)) σ) ∧
  (¬ 32 ≤ v2 →
  (((((v1.toUInt32 >>> (Int32.toUInt32 v2 &&& Int32.toUInt32 31)).toInt32) &&& 1) = 0 →
    J IX M_X7_areAllHere (d + 1) 2 [(0, ar 0 0), (1, ai v1), (2, ai (v2 + 1))] [] σ Q) ∧
    (¬ (((v1.toUInt32 >>> (Int32.toUInt32 v2 &&& Int32.toUInt32 31)).toInt32) &&& 1) = 0 →
    CalI IX d S_X7_isHere [ar 0 0, ai v2] σ (fun r2 σ1 =>
      ((¬ r2 = 0 →
      J IX M_X7_areAllHere (d + 1) 2 [(0, ar 0 0), (1, ai v1), (2, ai (v2 + 1))] [] σ1 Q) ∧
      (r2 = 0 →
      ((0 : Int32) = 0 ∨ (0 : Int32) = 1) ∧ Q (some (ai 0)) σ1)))))))) :
  J IX M_X7_areAllHere (d + 1) 2 [(0, ar 0 0), (1, ai v1), (2, ai v2)] [] σ Q := wp_J oki_X Mok_X7_areAllHere (cuts := [(2, [0, 1, 2])]) 400 2 _ [] σ h
set_option maxRecDepth 10000 in
theorem r_X8_way_0 {d : Nat} {p0 : Int32} {p1 : Int32} {p2 : Int32} {σ : Mem} {Q : Option AV → Mem → Prop} (h :
  CalI IM d S_X8_isPlace [ar 30 0, ai p0] σ (fun r2 σ1 =>
  ((r2 = 0 →
  CalI IM d S_X8_refuse [ar 30 0, ai (-1)] σ1 (fun r4 σ3 =>
    Q (some (ai r4)) σ3)) ∧
  (¬ r2 = 0 →
  CalI IM d S_X8_isPlace [ar 30 0, ai p1] σ1 (fun r6 σ5 =>
    ((¬ r6 = 0 →
    ((p0 = p1 →
      CalI IM d S_X8_refuse [ar 30 0, ai (-6)] σ5 (fun r8 σ7 =>
        Q (some (ai r8)) σ7)) ∧
      (¬ p0 = p1 →
      CalI IM d S_X8_in [ai p2, ai 1, ai 9] σ5 (fun r10 σ9 =>
        ((r10 = 0 →
        CalI IM d S_X8_refuse [ar 30 0, ai (-6)] σ9 (fun r12 σ11 =>
          Q (some (ai r12)) σ11)) ∧
        (¬ r10 = 0 →
        (((σ9.1 30 0 1) = 0 →
          ((¬ (σ9.1 30 0 10) = 30 →
            vp_in ((12 * p0) + p1) 144 ∧
              ((((wI σ9 30 0 10 ((σ9.1 30 0 10) + 1)).1 36 0 (Int32.toNatClampNeg ((12 * p0) + p1))) ≤ p2 →
              vp_in ((12 * p0) + p1) 144 ∧
                vp_in ((12 * p0) + p1) 144 ∧
                vp_in ((12 * p0) + p1) 144 ∧
                vp_in ((12 * p1) + p0) 144 ∧
                J IM M_X8_way (d + 1) 143 [(0, ar 30 0), (1, ai p0), (2, ai p1), (3, ai p2), (4, ai 0)] [] (wI (wI (wI σ9 30 0 10 ((σ9.1 30 0 10) + 1)) 36 0 (Int32.toNatClampNeg ((12 * p0) + p1)) ((wI σ9 30 0 10 ((σ9.1 30 0 10) + 1)).1 36 0 (Int32.toNatClampNeg ((12 * p0) + p1)))) 36 0 (Int32.toNatClampNeg ((12 * p1) + p0)) ((wI (wI σ9 30 0 10 ((σ9.1 30 0 10) + 1)) 36 0 (Int32.toNatClampNeg ((12 * p0) + p1)) ((wI σ9 30 0 10 ((σ9.1 30 0 10) + 1)).1 36 0 (Int32.toNatClampNeg ((12 * p0) + p1)))).1 36 0 (Int32.toNatClampNeg ((12 * p0) + p1)))) Q) ∧
              (¬ ((wI σ9 30 0 10 ((σ9.1 30 0 10) + 1)).1 36 0 (Int32.toNatClampNeg ((12 * p0) + p1))) ≤ p2 →
              vp_in ((12 * p0) + p1) 144 ∧
                vp_in ((12 * p0) + p1) 144 ∧
                vp_in ((12 * p1) + p0) 144 ∧
                J IM M_X8_way (d + 1) 143 [(0, ar 30 0), (1, ai p0), (2, ai p1), (3, ai p2), (4, ai 0)] [] (wI (wI (wI σ9 30 0 10 ((σ9.1 30 0 10) + 1)) 36 0 (Int32.toNatClampNeg ((12 * p0) + p1)) p2) 36 0 (Int32.toNatClampNeg ((12 * p1) + p0)) ((wI (wI σ9 30 0 10 ((σ9.1 30 0 10) + 1)) 36 0 (Int32.toNatClampNeg ((12 * p0) + p1)) p2).1 36 0 (Int32.toNatClampNeg ((12 * p0) + p1)))) Q))) ∧
            ((σ9.1 30 0 10) = 30 →
            CalI IM d S_X8_refuse [ar 30 0, ai (-7)] σ9 (fun r14 σ13 =>
              Q (some (ai r14)) σ13)))) ∧
          (¬ (σ9.1 30 0 1) = 0 →
          CalI IM d S_X8_refuse [ar 30 0, ai (-6)] σ9 (fun r16 σ15 =>
            Q (some (ai r16)) σ15))))))))) ∧
    (r6 = 0 →
    CalI IM d S_X8_refuse [ar 30 0, ai (-1)] σ5 (fun r18 σ17 =>
      Q (some (ai r18)) σ17)))))))) :
  Cal IM (d + 1) S_X8_way [ar 30 0, ai p0, ai p1, ai p2] σ Q := fun z => absurd offM z
set_option maxRecDepth 10000 in
theorem r_X8_way_143 {d : Nat} {v1 : Int32} {v2 : Int32} {v3 : Int32} {v4 : Int32} {σ : Mem} {Q : Option AV → Mem → Prop} (h :
  ((144 ≤ v4 →
  J IM M_X8_way (d + 1) 286 [(0, ar 30 0), (4, ai 0)] [] σ Q) ∧
  (¬ 144 ≤ v4 →
  ¬ (12 : Int32) = 0 ∧
    ¬ (12 : Int32) = 0 ∧
    vp_in ((12 * (v4 / 12)) + v1) 144 ∧
    vp_in ((12 * v2) + (v4 - v4 / 12 * 12)) 144 ∧
    vp_in ((12 * (v4 / 12)) + v2) 144 ∧
    vp_in ((12 * v1) + (v4 - v4 / 12 * 12)) 144 ∧
    (((((σ.1 37 0 (Int32.toNatClampNeg ((12 * (v4 / 12)) + v1))) + v3) + (σ.1 37 0 (Int32.toNatClampNeg ((12 * v2) + (v4 - v4 / 12 * 12))))) ≤ (((σ.1 37 0 (Int32.toNatClampNeg ((12 * (v4 / 12)) + v2))) + v3) + (σ.1 37 0 (Int32.toNatClampNeg ((12 * v1) + (v4 - v4 / 12 * 12))))) →
    vp_in v4 144 ∧
      (((σ.1 37 0 (Int32.toNatClampNeg v4)) ≤ (((σ.1 37 0 (Int32.toNatClampNeg ((12 * (v4 / 12)) + v1))) + v3) + (σ.1 37 0 (Int32.toNatClampNeg ((12 * v2) + (v4 - v4 / 12 * 12))))) →
      vp_in v4 144 ∧
        vp_in v4 144 ∧
        J IM M_X8_way (d + 1) 143 [(0, ar 30 0), (1, ai v1), (2, ai v2), (3, ai v3), (4, ai (v4 + 1))] [] (wI σ 56 0 (Int32.toNatClampNeg v4) (σ.1 37 0 (Int32.toNatClampNeg v4))) Q) ∧
      (¬ (σ.1 37 0 (Int32.toNatClampNeg v4)) ≤ (((σ.1 37 0 (Int32.toNatClampNeg ((12 * (v4 / 12)) + v1))) + v3) + (σ.1 37 0 (Int32.toNatClampNeg ((12 * v2) + (v4 - v4 / 12 * 12))))) →
      vp_in v4 144 ∧
        J IM M_X8_way (d + 1) 143 [(0, ar 30 0), (1, ai v1), (2, ai v2), (3, ai v3), (4, ai (v4 + 1))] [] (wI σ 56 0 (Int32.toNatClampNeg v4) (((σ.1 37 0 (Int32.toNatClampNeg ((12 * (v4 / 12)) + v1))) + v3) + (σ.1 37 0 (Int32.toNatClampNeg ((12 * v2) + (v4 - v4 / 12 * 12)))))) Q))) ∧
    (¬ (((σ.1 37 0 (Int32.toNatClampNeg ((12 * (v4 / 12)) + v1))) + v3) + (σ.1 37 0 (Int32.toNatClampNeg ((12 * v2) + (v4 - v4 / 12 * 12))))) ≤ (((σ.1 37 0 (Int32.toNatClampNeg ((12 * (v4 / 12)) + v2))) + v3) + (σ.1 37 0 (Int32.toNatClampNeg ((12 * v1) + (v4 - v4 / 12 * 12))))) →
    vp_in v4 144 ∧
      (((σ.1 37 0 (Int32.toNatClampNeg v4)) ≤ (((σ.1 37 0 (Int32.toNatClampNeg ((12 * (v4 / 12)) + v2))) + v3) + (σ.1 37 0 (Int32.toNatClampNeg ((12 * v1) + (v4 - v4 / 12 * 12))))) →
      vp_in v4 144 ∧
        vp_in v4 144 ∧
        J IM M_X8_way (d + 1) 143 [(0, ar 30 0), (1, ai v1), (2, ai v2), (3, ai v3), (4, ai (v4 + 1))] [] (wI σ 56 0 (Int32.toNatClampNeg v4) (σ.1 37 0 (Int32.toNatClampNeg v4))) Q) ∧
      (¬ (σ.1 37 0 (Int32.toNatClampNeg v4)) ≤ (((σ.1 37 0 (Int32.toNatClampNeg ((12 * (v4 / 12)) + v2))) + v3) + (σ.1 37 0 (Int32.toNatClampNeg ((12 * v1) + (v4 - v4 / 12 * 12))))) →
      vp_in v4 144 ∧
        J IM M_X8_way (d + 1) 143 [(0, ar 30 0), (1, ai v1), (2, ai v2), (3, ai v3), (4, ai (v4 + 1))] [] (wI σ 56 0 (Int32.toNatClampNeg v4) (((σ.1 37 0 (Int32.toNatClampNeg ((12 * (v4 / 12)) + v2))) + v3) + (σ.1 37 0 (Int32.toNatClampNeg ((12 * v1) + (v4 - v4 / 12 * 12)))))) Q))))))) :
  J IM M_X8_way (d + 1) 143 [(0, ar 30 0), (1, ai v1), (2, ai v2), (3, ai v3), (4, ai v4)] [] σ Q := fun z => absurd offM z
set_option maxRecDepth 10000 in
theorem r_X8_way_286 {d : Nat} {v4 : Int32} {σ : Mem} {Q : Option AV → Mem → Prop} (h :
  ((144 ≤ v4 →
  Q (some (ai 1)) σ) ∧
  (¬ 144 ≤ v4 →
  vp_in v4 144 ∧
    vp_in v4 144 ∧
    J IM M_X8_way (d + 1) 286 [(0, ar 30 0), (4, ai (v4 + 1))] [] (wI σ 37 0 (Int32.toNatClampNeg v4) (σ.1 56 0 (Int32.toNatClampNeg v4))) Q))) :
  J IM M_X8_way (d + 1) 286 [(0, ar 30 0), (4, ai v4)] [] σ Q := fun z => absurd offM z
set_option maxRecDepth 10000 in
theorem r_X8_folk_0 {d : Nat} {p0 : Int32} {σ : Mem} {Q : Option AV → Mem → Prop} (h :
  CalI IM d S_X8_isPlace [ar 30 0, ai p0] σ (fun r2 σ1 =>
  ((¬ r2 = 0 →
  (((σ1.1 30 0 1) = 0 →
    ((¬ (σ1.1 30 0 13) = 20 →
      vp_in (σ1.1 30 0 13) 20 ∧
        J IM M_X8_folk (d + 1) 56 [(0, ar 30 0), (2, ai 0)] [] (wI σ1 38 0 (Int32.toNatClampNeg (σ1.1 30 0 13)) p0) Q) ∧
      ((σ1.1 30 0 13) = 20 →
      CalI IM d S_X8_refuse [ar 30 0, ai (-7)] σ1 (fun r4 σ3 =>
        Q (some (ai r4)) σ3)))) ∧
    (¬ (σ1.1 30 0 1) = 0 →
    CalI IM d S_X8_refuse [ar 30 0, ai (-6)] σ1 (fun r6 σ5 =>
      Q (some (ai r6)) σ5)))) ∧
  (r2 = 0 →
  CalI IM d S_X8_refuse [ar 30 0, ai (-1)] σ1 (fun r8 σ7 =>
    Q (some (ai r8)) σ7))))) :
  Cal IM (d + 1) S_X8_folk [ar 30 0, ai p0] σ Q := fun z => absurd offM z
set_option maxRecDepth 10000 in
theorem r_X8_folk_56 {d : Nat} {v2 : Int32} {σ : Mem} {Q : Option AV → Mem → Prop} (h :
  ((12 ≤ v2 →
  Q (some (ai (((wI σ 30 0 13 ((σ.1 30 0 13) + 1)).1 30 0 13) - 1))) (wI σ 30 0 13 ((σ.1 30 0 13) + 1))) ∧
  (¬ 12 ≤ v2 →
  vp_in ((12 * (σ.1 30 0 13)) + v2) 240 ∧
    J IM M_X8_folk (d + 1) 56 [(0, ar 30 0), (2, ai (v2 + 1))] [] (wI σ 40 0 (Int32.toNatClampNeg ((12 * (σ.1 30 0 13)) + v2)) 5) Q))) :
  J IM M_X8_folk (d + 1) 56 [(0, ar 30 0), (2, ai v2)] [] σ Q := fun z => absurd offM z
set_option maxRecDepth 10000 in
theorem r_X8_areFolk_0 {d : Nat} {p0 : Int32} {σ : Mem} {Q : Option AV → Mem → Prop} (h :
  J IM M_X8_areFolk (d + 1) 2 [(0, ar 30 0), (1, ai p0), (2, ai 0)] [] σ Q) :
  Cal IM (d + 1) S_X8_areFolk [ar 30 0, ai p0] σ Q := fun z => absurd offM z
set_option maxRecDepth 10000 in
theorem r_X8_areFolk_2 {d : Nat} {v1 : Int32} {v2 : Int32} {σ : Mem} {Q : Option AV → Mem → Prop} (h :
  ((32 ≤ v2 →
  ((1 : Int32) = 0 ∨ (1 : Int32) = 1) ∧ Q (some (ai 1)) σ) ∧
  (¬ 32 ≤ v2 →
  ((¬ ((v1 >>> (v2 &&& 31)) &&& 1) = 1 →
    J IM M_X8_areFolk (d + 1) 2 [(0, ar 30 0), (1, ai v1), (2, ai (v2 + 1))] [] σ Q) ∧
    (((v1 >>> (v2 &&& 31)) &&& 1) = 1 →
    CalI IM d S_X8_isFolk [ar 30 0, ai v2] σ (fun r2 σ1 =>
      ((¬ r2 = 0 →
      J IM M_X8_areFolk (d + 1) 2 [(0, ar 30 0), (1, ai v1), (2, ai (v2 + 1))] [] σ1 Q) ∧
      (r2 = 0 →
      ((0 : Int32) = 0 ∨ (0 : Int32) = 1) ∧ Q (some (ai 0)) σ1)))))))) :
  J IM M_X8_areFolk (d + 1) 2 [(0, ar 30 0), (1, ai v1), (2, ai v2)] [] σ Q := fun z => absurd offM z
set_option maxRecDepth 10000 in
theorem r_X8_row_0 {d : Nat} {p0 : Int32} {p1 : Int32} {p2 : Int32} {σ : Mem} {Q : Option AV → Mem → Prop} (h :
  CalI IM d S_X8_isShelf [ai p0] σ (fun r2 σ1 =>
  ((¬ r2 = 0 →
  ((0 ≤ p2 →
    CalI IM d S_X8_in [ai p1, ai 0, ai 3] σ1 (fun r4 σ3 =>
      ((¬ r4 = 0 →
      ((p2 ≤ 60 →
        vp_in p0 8 ∧
          vp_in p0 8 ∧
          J IM M_X8_row (d + 1) 73 [(0, ar 30 0), (1, ai p0), (4, ai 0)] [] (wI (wI σ3 57 0 (Int32.toNatClampNeg p0) (100 + p1)) 58 0 (Int32.toNatClampNeg p0) p2) Q) ∧
        (¬ p2 ≤ 60 →
        CalI IM d S_X8_refuse [ar 30 0, ai (-7)] σ3 (fun r6 σ5 =>
          Q (some (ai r6)) σ5)))) ∧
      (r4 = 0 →
      CalI IM d S_X8_refuse [ar 30 0, ai (-6)] σ3 (fun r8 σ7 =>
        Q (some (ai r8)) σ7))))) ∧
    (¬ 0 ≤ p2 →
    CalI IM d S_X8_refuse [ar 30 0, ai (-4)] σ1 (fun r10 σ9 =>
      Q (some (ai r10)) σ9)))) ∧
  (r2 = 0 →
  CalI IM d S_X8_refuse [ar 30 0, ai (-1)] σ1 (fun r12 σ11 =>
    Q (some (ai r12)) σ11))))) :
  Cal IM (d + 1) S_X8_row [ar 30 0, ai p0, ai p1, ai p2] σ Q := fun z => absurd offM z
set_option maxRecDepth 10000 in
theorem r_X8_row_73 {d : Nat} {v1 : Int32} {v4 : Int32} {σ : Mem} {Q : Option AV → Mem → Prop} (h :
  ((60 ≤ v4 →
  Q (some (ai 1)) σ) ∧
  (¬ 60 ≤ v4 →
  vp_in ((60 * v1) + v4) 480 ∧
    J IM M_X8_row (d + 1) 73 [(0, ar 30 0), (1, ai v1), (4, ai (v4 + 1))] [] (wL σ 59 0 (Int32.toNatClampNeg ((60 * v1) + v4)) 0) Q))) :
  J IM M_X8_row (d + 1) 73 [(0, ar 30 0), (1, ai v1), (4, ai v4)] [] σ Q := fun z => absurd offM z
set_option maxRecDepth 10000 in
theorem r_X8_set_0 {d : Nat} {p0 : Int32} {p1 : Int32} {p2 : Int64} {σ : Mem} {Q : Option AV → Mem → Prop} (h :
  CalI IM d S_X8_isShelf [ai p0] σ (fun r2 σ1 =>
  ((¬ r2 = 0 →
  CalI IM d S_X8_isRow [ar 30 0, ai p0] σ1 (fun r4 σ3 =>
    ((¬ r4 = 0 →
    vp_in p0 8 ∧
      CalI IM d S_X8_in [ai p1, ai 0, ai ((σ3.1 58 0 (Int32.toNatClampNeg p0)) - 1)] σ3 (fun r6 σ5 =>
      ((¬ r6 = 0 →
      vp_in p0 8 ∧
        CalL IM d S_X8_lowest [ai ((σ5.1 57 0 (Int32.toNatClampNeg p0)) - 100), al p2] σ5 (fun r8 σ7 =>
        vp_in ((60 * p0) + p1) 480 ∧
        Q (some (ai 1)) (wL σ7 59 0 (Int32.toNatClampNeg ((60 * p0) + p1)) r8))) ∧
      (r6 = 0 →
      CalI IM d S_X8_refuse [ar 30 0, ai (-5)] σ5 (fun r10 σ9 =>
        Q (some (ai r10)) σ9))))) ∧
    (r4 = 0 →
    CalI IM d S_X8_holdsFolk [ar 30 0, ai p0] σ3 (fun r12 σ11 =>
      ((r12 = 0 →
      CalI IM d S_X8_refuse [ar 30 0, ai (-3)] σ11 (fun r14 σ13 =>
        Q (some (ai r14)) σ13)) ∧
      (¬ r12 = 0 →
      CalI IM d S_X8_refuse [ar 30 0, ai (-2)] σ11 (fun r16 σ15 =>
        Q (some (ai r16)) σ15)))))))) ∧
  (r2 = 0 →
  CalI IM d S_X8_refuse [ar 30 0, ai (-1)] σ1 (fun r18 σ17 =>
    Q (some (ai r18)) σ17))))) :
  Cal IM (d + 1) S_X8_set [ar 30 0, ai p0, ai p1, al p2] σ Q := fun z => absurd offM z
set_option maxRecDepth 10000 in
theorem r_X8_copy_0 {d : Nat} {p0 : Int32} {p1 : Int32} {p2 : Int32} {p3 : Int32} {p4 : Int32} {σ : Mem} {Q : Option AV → Mem → Prop} (h :
  CalI IM d S_X8_isShelf [ai p0] σ (fun r2 σ1 =>
  ((r2 = 0 →
  CalI IM d S_X8_refuse [ar 30 0, ai (-1)] σ1 (fun r4 σ3 =>
    Q (some (ai r4)) σ3)) ∧
  (¬ r2 = 0 →
  CalI IM d S_X8_isShelf [ai p1] σ1 (fun r6 σ5 =>
    ((¬ r6 = 0 →
    CalI IM d S_X8_holdsFolk [ar 30 0, ai p0] σ5 (fun r8 σ7 =>
      ((¬ r8 = 0 →
      CalI IM d S_X8_refuse [ar 30 0, ai (-2)] σ7 (fun r10 σ9 =>
        Q (some (ai r10)) σ9)) ∧
      (r8 = 0 →
      CalI IM d S_X8_holdsFolk [ar 30 0, ai p1] σ7 (fun r12 σ11 =>
        ((¬ r12 = 0 →
        CalI IM d S_X8_refuse [ar 30 0, ai (-2)] σ11 (fun r14 σ13 =>
          Q (some (ai r14)) σ13)) ∧
        (r12 = 0 →
        CalI IM d S_X8_isRow [ar 30 0, ai p0] σ11 (fun r16 σ15 =>
          ((r16 = 0 →
          CalI IM d S_X8_isRow [ar 30 0, ai p0] σ15 (fun r18 σ17 =>
            ((r18 = 0 →
            CalI IM d S_X8_refuse [ar 30 0, ai (-3)] σ17 (fun r20 σ19 =>
              Q (some (ai r20)) σ19)) ∧
            (¬ r18 = 0 →
            CalI IM d S_X8_isRow [ar 30 0, ai p1] σ17 (fun r22 σ21 =>
              ((¬ r22 = 0 →
              ((0 ≤ p4 →
                ((p2 < 0 →
                  CalI IM d S_X8_refuse [ar 30 0, ai (-5)] σ21 (fun r24 σ23 =>
                    Q (some (ai r24)) σ23)) ∧
                  (¬ p2 < 0 →
                  ((p3 < 0 →
                    CalI IM d S_X8_refuse [ar 30 0, ai (-5)] σ21 (fun r26 σ25 =>
                      Q (some (ai r26)) σ25)) ∧
                    (¬ p3 < 0 →
                    vp_in p0 8 ∧
                      (((σ21.1 58 0 (Int32.toNatClampNeg p0)) < p2 →
                      CalI IM d S_X8_refuse [ar 30 0, ai (-5)] σ21 (fun r28 σ27 =>
                        Q (some (ai r28)) σ27)) ∧
                      (¬ (σ21.1 58 0 (Int32.toNatClampNeg p0)) < p2 →
                      vp_in p1 8 ∧
                        (((σ21.1 58 0 (Int32.toNatClampNeg p1)) < p3 →
                        CalI IM d S_X8_refuse [ar 30 0, ai (-5)] σ21 (fun r30 σ29 =>
                          Q (some (ai r30)) σ29)) ∧
                        (¬ (σ21.1 58 0 (Int32.toNatClampNeg p1)) < p3 →
                        vp_in p0 8 ∧
                          ((((σ21.1 58 0 (Int32.toNatClampNeg p0)) - p2) < p4 →
                          CalI IM d S_X8_refuse [ar 30 0, ai (-5)] σ21 (fun r32 σ31 =>
                            Q (some (ai r32)) σ31)) ∧
                          (¬ ((σ21.1 58 0 (Int32.toNatClampNeg p0)) - p2) < p4 →
                          vp_in p1 8 ∧
                            ((p4 ≤ ((σ21.1 58 0 (Int32.toNatClampNeg p1)) - p3) →
                            J IM M_X8_copy (d + 1) 176 [(0, ar 30 0), (1, ai p0), (2, ai p1), (3, ai p2), (4, ai p3), (5, ai p4), (6, ai 0)] [] σ21 Q) ∧
                            (¬ p4 ≤ ((σ21.1 58 0 (Int32.toNatClampNeg p1)) - p3) →
                            CalI IM d S_X8_refuse [ar 30 0, ai (-5)] σ21 (fun r34 σ33 =>
                              Q (some (ai r34)) σ33)))))))))))))) ∧
                (¬ 0 ≤ p4 →
                CalI IM d S_X8_refuse [ar 30 0, ai (-4)] σ21 (fun r36 σ35 =>
                  Q (some (ai r36)) σ35)))) ∧
              (r22 = 0 →
              CalI IM d S_X8_refuse [ar 30 0, ai (-3)] σ21 (fun r38 σ37 =>
                Q (some (ai r38)) σ37)))))))) ∧
          (¬ r16 = 0 →
          CalI IM d S_X8_isRow [ar 30 0, ai p1] σ15 (fun r40 σ39 =>
            ((r40 = 0 →
            CalI IM d S_X8_isRow [ar 30 0, ai p0] σ39 (fun r42 σ41 =>
              ((r42 = 0 →
              CalI IM d S_X8_refuse [ar 30 0, ai (-3)] σ41 (fun r44 σ43 =>
                Q (some (ai r44)) σ43)) ∧
              (¬ r42 = 0 →
              CalI IM d S_X8_isRow [ar 30 0, ai p1] σ41 (fun r46 σ45 =>
                ((¬ r46 = 0 →
                ((0 ≤ p4 →
                  ((p2 < 0 →
                    CalI IM d S_X8_refuse [ar 30 0, ai (-5)] σ45 (fun r48 σ47 =>
                      Q (some (ai r48)) σ47)) ∧
                    (¬ p2 < 0 →
                    ((p3 < 0 →
                      CalI IM d S_X8_refuse [ar 30 0, ai (-5)] σ45 (fun r50 σ49 =>
                        Q (some (ai r50)) σ49)) ∧
                      (¬ p3 < 0 →
                      vp_in p0 8 ∧
                        (((σ45.1 58 0 (Int32.toNatClampNeg p0)) < p2 →
                        CalI IM d S_X8_refuse [ar 30 0, ai (-5)] σ45 (fun r52 σ51 =>
                          Q (some (ai r52)) σ51)) ∧
                        (¬ (σ45.1 58 0 (Int32.toNatClampNeg p0)) < p2 →
                        vp_in p1 8 ∧
                          (((σ45.1 58 0 (Int32.toNatClampNeg p1)) < p3 →
                          CalI IM d S_X8_refuse [ar 30 0, ai (-5)] σ45 (fun r54 σ53 =>
                            Q (some (ai r54)) σ53)) ∧
                          (¬ (σ45.1 58 0 (Int32.toNatClampNeg p1)) < p3 →
                          vp_in p0 8 ∧
                            ((((σ45.1 58 0 (Int32.toNatClampNeg p0)) - p2) < p4 →
                            CalI IM d S_X8_refuse [ar 30 0, ai (-5)] σ45 (fun r56 σ55 =>
                              Q (some (ai r56)) σ55)) ∧
                            (¬ ((σ45.1 58 0 (Int32.toNatClampNeg p0)) - p2) < p4 →
                            vp_in p1 8 ∧
                              ((p4 ≤ ((σ45.1 58 0 (Int32.toNatClampNeg p1)) - p3) →
                              J IM M_X8_copy (d + 1) 176 [(0, ar 30 0), (1, ai p0), (2, ai p1), (3, ai p2), (4, ai p3), (5, ai p4), (6, ai 0)] [] σ45 Q) ∧
                              (¬ p4 ≤ ((σ45.1 58 0 (Int32.toNatClampNeg p1)) - p3) →
                              CalI IM d S_X8_refuse [ar 30 0, ai (-5)] σ45 (fun r58 σ57 =>
                                Q (some (ai r58)) σ57)))))))))))))) ∧
                  (¬ 0 ≤ p4 →
                  CalI IM d S_X8_refuse [ar 30 0, ai (-4)] σ45 (fun r60 σ59 =>
                    Q (some (ai r60)) σ59)))) ∧
                (r46 = 0 →
                CalI IM d S_X8_refuse [ar 30 0, ai (-3)] σ45 (fun r62 σ61 =>
                  Q (some (ai r62)) σ61)))))))) ∧
            (¬ r40 = 0 →
            vp_in p0 8 ∧
              vp_in p1 8 ∧
              (((σ39.1 57 0 (Int32.toNatClampNeg p0)) = (σ39.1 57 0 (Int32.toNatClampNeg p1)) →
              CalI IM d S_X8_isRow [ar 30 0, ai p0] σ39 (fun r64 σ63 =>
                ((r64 = 0 →
                CalI IM d S_X8_refuse [ar 30 0, ai (-3)] σ63 (fun r66 σ65 =>
                  Q (some (ai r66)) σ65)) ∧
                (¬ r64 = 0 →
                CalI IM d S_X8_isRow [ar 30 0, ai p1] σ63 (fun r68 σ67 =>
                  ((¬ r68 = 0 →
                  ((0 ≤ p4 →
                    ((p2 < 0 →
                      CalI IM d S_X8_refuse [ar 30 0, ai (-5)] σ67 (fun r70 σ69 =>
                        Q (some (ai r70)) σ69)) ∧
                      (¬ p2 < 0 →
                      ((p3 < 0 →
                        CalI IM d S_X8_refuse [ar 30 0, ai (-5)] σ67 (fun r72 σ71 =>
                          Q (some (ai r72)) σ71)) ∧
                        (¬ p3 < 0 →
                        vp_in p0 8 ∧
                          (((σ67.1 58 0 (Int32.toNatClampNeg p0)) < p2 →
                          CalI IM d S_X8_refuse [ar 30 0, ai (-5)] σ67 (fun r74 σ73 =>
                            Q (some (ai r74)) σ73)) ∧
                          (¬ (σ67.1 58 0 (Int32.toNatClampNeg p0)) < p2 →
                          vp_in p1 8 ∧
                            (((σ67.1 58 0 (Int32.toNatClampNeg p1)) < p3 →
                            CalI IM d S_X8_refuse [ar 30 0, ai (-5)] σ67 (fun r76 σ75 =>
                              Q (some (ai r76)) σ75)) ∧
                            (¬ (σ67.1 58 0 (Int32.toNatClampNeg p1)) < p3 →
                            vp_in p0 8 ∧
                              ((((σ67.1 58 0 (Int32.toNatClampNeg p0)) - p2) < p4 →
                              CalI IM d S_X8_refuse [ar 30 0, ai (-5)] σ67 (fun r78 σ77 =>
                                Q (some (ai r78)) σ77)) ∧
                              (¬ ((σ67.1 58 0 (Int32.toNatClampNeg p0)) - p2) < p4 →
                              vp_in p1 8 ∧
                                ((p4 ≤ ((σ67.1 58 0 (Int32.toNatClampNeg p1)) - p3) →
                                J IM M_X8_copy (d + 1) 176 [(0, ar 30 0), (1, ai p0), (2, ai p1), (3, ai p2), (4, ai p3), (5, ai p4), (6, ai 0)] [] σ67 Q) ∧
                                (¬ p4 ≤ ((σ67.1 58 0 (Int32.toNatClampNeg p1)) - p3) →
                                CalI IM d S_X8_refuse [ar 30 0, ai (-5)] σ67 (fun r80 σ79 =>
                                  Q (some (ai r80)) σ79)))))))))))))) ∧
                    (¬ 0 ≤ p4 →
                    CalI IM d S_X8_refuse [ar 30 0, ai (-4)] σ67 (fun r82 σ81 =>
                      Q (some (ai r82)) σ81)))) ∧
                  (r68 = 0 →
                  CalI IM d S_X8_refuse [ar 30 0, ai (-3)] σ67 (fun r84 σ83 =>
                    Q (some (ai r84)) σ83)))))))) ∧
              (¬ (σ39.1 57 0 (Int32.toNatClampNeg p0)) = (σ39.1 57 0 (Int32.toNatClampNeg p1)) →
              CalI IM d S_X8_refuse [ar 30 0, ai (-2)] σ39 (fun r86 σ85 =>
                Q (some (ai r86)) σ85)))))))))))))))) ∧
    (r6 = 0 →
    CalI IM d S_X8_refuse [ar 30 0, ai (-1)] σ5 (fun r88 σ87 =>
      Q (some (ai r88)) σ87)))))))) :
  Cal IM (d + 1) S_X8_copy [ar 30 0, ai p0, ai p1, ai p2, ai p3, ai p4] σ Q := fun z => absurd offM z
set_option maxRecDepth 10000 in
theorem r_X8_copy_176 {d : Nat} {v1 : Int32} {v2 : Int32} {v3 : Int32} {v4 : Int32} {v5 : Int32} {v6 : Int32} {σ : Mem} {Q : Option AV → Mem → Prop} (h :
  ((v5 ≤ v6 →
  J IM M_X8_copy (d + 1) 213 [(0, ar 30 0), (2, ai v2), (4, ai v4), (5, ai v5), (6, ai 0)] [] σ Q) ∧
  (¬ v5 ≤ v6 →
  vp_in (((60 * v1) + v3) + v6) 480 ∧
    vp_in v6 60 ∧
    J IM M_X8_copy (d + 1) 176 [(0, ar 30 0), (1, ai v1), (2, ai v2), (3, ai v3), (4, ai v4), (5, ai v5), (6, ai (v6 + 1))] [] (wL σ 60 0 (Int32.toNatClampNeg v6) (σ.2 59 0 (Int32.toNatClampNeg (((60 * v1) + v3) + v6)))) Q))) :
  J IM M_X8_copy (d + 1) 176 [(0, ar 30 0), (1, ai v1), (2, ai v2), (3, ai v3), (4, ai v4), (5, ai v5), (6, ai v6)] [] σ Q := fun z => absurd offM z
set_option maxRecDepth 10000 in
theorem r_X8_copy_213 {d : Nat} {v2 : Int32} {v4 : Int32} {v5 : Int32} {v6 : Int32} {σ : Mem} {Q : Option AV → Mem → Prop} (h :
  ((v5 ≤ v6 →
  Q (some (ai 1)) σ) ∧
  (¬ v5 ≤ v6 →
  vp_in v6 60 ∧
    vp_in (((60 * v2) + v4) + v6) 480 ∧
    J IM M_X8_copy (d + 1) 213 [(0, ar 30 0), (2, ai v2), (4, ai v4), (5, ai v5), (6, ai (v6 + 1))] [] (wL σ 59 0 (Int32.toNatClampNeg (((60 * v2) + v4) + v6)) (σ.2 60 0 (Int32.toNatClampNeg v6))) Q))) :
  J IM M_X8_copy (d + 1) 213 [(0, ar 30 0), (2, ai v2), (4, ai v4), (5, ai v5), (6, ai v6)] [] σ Q := fun z => absurd offM z
set_option maxRecDepth 10000 in
theorem r_X8_element_0 {d : Nat} {p0 : Int32} {p1 : Int32} {σ : Mem} {Q : Option AV → Mem → Prop} (h :
  CalI IM d S_X8_isShelf [ai p0] σ (fun r2 σ1 =>
  ((r2 = 0 →
  Q (some (al 0)) σ1) ∧
  (¬ r2 = 0 →
  CalI IM d S_X8_isRow [ar 30 0, ai p0] σ1 (fun r4 σ3 =>
    ((r4 = 0 →
    Q (some (al 0)) σ3) ∧
    (¬ r4 = 0 →
    vp_in p0 8 ∧
      CalI IM d S_X8_in [ai p1, ai 0, ai ((σ3.1 58 0 (Int32.toNatClampNeg p0)) - 1)] σ3 (fun r6 σ5 =>
      ((r6 = 0 →
      Q (some (al 0)) σ5) ∧
      (¬ r6 = 0 →
      vp_in ((60 * p0) + p1) 480 ∧
        Q (some (al (σ5.2 59 0 (Int32.toNatClampNeg ((60 * p0) + p1))))) σ5)))))))))) :
  Cal IM (d + 1) S_X8_element [ar 30 0, ai p0, ai p1] σ Q := fun z => absurd offM z
set_option maxRecDepth 10000 in
theorem r_X8_show_0 {d : Nat} {p0 : Int32} {p1 : Int32} {σ : Mem} {Q : Option AV → Mem → Prop} (h :
  CalI IM d S_X8_isShelf [ai p0] σ (fun r2 σ1 =>
  ((r2 = 0 →
  CalI IM d S_X8_refuse [ar 30 0, ai (-1)] σ1 (fun r4 σ3 =>
    Q (some (ai r4)) σ3)) ∧
  (¬ r2 = 0 →
  CalI IM d S_X8_in [ai p1, ai (-1), ai ((σ1.1 30 0 13) - 1)] σ1 (fun r6 σ5 =>
    ((¬ r6 = 0 →
    vp_in p0 8 ∧
      ((¬ p1 = (-1) →
      Q (some (ai 1)) (wI σ5 57 0 (Int32.toNatClampNeg p0) p1)) ∧
      (p1 = (-1) →
      Q (some (ai 0)) (wI σ5 57 0 (Int32.toNatClampNeg p0) p1)))) ∧
    (r6 = 0 →
    CalI IM d S_X8_refuse [ar 30 0, ai (-1)] σ5 (fun r8 σ7 =>
      Q (some (ai r8)) σ7)))))))) :
  Cal IM (d + 1) S_X8_show [ar 30 0, ai p0, ai p1] σ Q := fun z => absurd offM z
set_option maxRecDepth 10000 in
theorem r_X8_holds_0 {d : Nat} {p0 : Int32} {σ : Mem} {Q : Option AV → Mem → Prop} (h :
  CalI IM d S_X8_isShelf [ai p0] σ (fun r2 σ1 =>
  ((r2 = 0 →
  Q (some (ai (-1))) σ1) ∧
  (¬ r2 = 0 →
  vp_in p0 8 ∧
    Q (some (ai (σ1.1 57 0 (Int32.toNatClampNeg p0)))) σ1)))) :
  Cal IM (d + 1) S_X8_holds [ar 30 0, ai p0] σ Q := fun z => absurd offM z
set_option maxRecDepth 10000 in
theorem r_X8_homeIn_0 {d : Nat} {p0 : Int32} {σ : Mem} {Q : Option AV → Mem → Prop} (h :
  CalI IM d S_X8_isShelf [ai p0] σ (fun r2 σ1 =>
  ((¬ r2 = 0 →
  CalI IM d S_X8_isRow [ar 30 0, ai p0] σ1 (fun r4 σ3 =>
    ((r4 = 0 →
    vp_in p0 8 ∧
      ((¬ (σ3.1 57 0 (Int32.toNatClampNeg p0)) = (-1) →
      vp_in p0 8 ∧
        vp_in (σ3.1 57 0 (Int32.toNatClampNeg p0)) 20 ∧
        Q (some (ai (σ3.1 38 0 (Int32.toNatClampNeg (σ3.1 57 0 (Int32.toNatClampNeg p0)))))) σ3) ∧
      ((σ3.1 57 0 (Int32.toNatClampNeg p0)) = (-1) →
      CalI IM d S_X8_refuse [ar 30 0, ai (-3)] σ3 (fun r6 σ5 =>
        Q (some (ai r6)) σ5)))) ∧
    (¬ r4 = 0 →
    CalI IM d S_X8_refuse [ar 30 0, ai (-2)] σ3 (fun r8 σ7 =>
      Q (some (ai r8)) σ7))))) ∧
  (r2 = 0 →
  CalI IM d S_X8_refuse [ar 30 0, ai (-1)] σ1 (fun r10 σ9 =>
    Q (some (ai r10)) σ9))))) :
  Cal IM (d + 1) S_X8_homeIn [ar 30 0, ai p0] σ Q := fun z => absurd offM z
set_option maxRecDepth 10000 in
theorem r_X8_faultOf_0 {d : Nat} {p0 : Int32} {p1 : Int32} {σ : Mem} {Q : Option AV → Mem → Prop} (h :
  CalI IM d S_X8_cell [ar 30 0, ai p0, ai (4 * p1)] σ (fun r2 σ1 =>
  CalI IM d S_X8_cell [ar 30 0, ai p0, ai ((4 * p1) + 1)] σ1 (fun r4 σ3 =>
  CalI IM d S_X8_cell [ar 30 0, ai p0, ai ((4 * p1) + 2)] σ3 (fun r6 σ5 =>
  CalI IM d S_X8_isPlace [ar 30 0, ai r2] σ5 (fun r8 σ7 =>
  ((¬ r8 = 0 →
  CalI IM d S_X8_isSpan [ai r4, ai r6] σ7 (fun r10 σ9 =>
    ((¬ r10 = 0 →
    CalI IM d S_X8_cell [ar 30 0, ai p0, ai ((4 * p1) + 3)] σ9 (fun r12 σ11 =>
      CalI IM d S_X8_in [ai r12, ai 1, ai 100] σ11 (fun r14 σ13 =>
      ((¬ r14 = 0 →
      J IM M_X8_faultOf (d + 1) 85 [(0, ar 30 0), (1, ai p0), (2, ai p1), (3, ai r2), (4, ai r4), (5, ai r6), (6, ai (-1)), (7, ai (-1)), (8, ai 0)] [] σ13 Q) ∧
      (r14 = 0 →
      Q (some (ai 4)) σ13))))) ∧
    (r10 = 0 →
    Q (some (ai 3)) σ9)))) ∧
  (r8 = 0 →
  Q (some (ai 2)) σ7))))))) :
  Cal IM (d + 1) S_X8_faultOf [ar 30 0, ai p0, ai p1] σ Q := fun z => absurd offM z
set_option maxRecDepth 10000 in
theorem r_X8_faultOf_85 {d : Nat} {v1 : Int32} {v2 : Int32} {v3 : Int32} {v4 : Int32} {v5 : Int32} {v6 : Int32} {v7 : Int32} {v8 : Int32} {σ : Mem} {Q : Option AV → Mem → Prop} (h :
  ((v2 ≤ v8 →
  ((v6 = (-1) →
    ((v7 = (-1) →
      Q (some (ai 0)) σ) ∧
      (¬ v7 = (-1) →
      CalI IM d S_X8_cell [ar 30 0, ai v1, ai (4 * v7)] σ (fun r16 σ15 =>
        CalI IM d S_X8_cell [ar 30 0, ai v1, ai ((4 * v7) + 1)] σ15 (fun r18 σ17 =>
        CalI IM d S_X8_isTooFar [ar 30 0, ai v3, ai r16, ai (r18 - v5)] σ17 (fun r20 σ19 =>
        ((r20 = 0 →
        Q (some (ai 0)) σ19) ∧
        (¬ r20 = 0 →
        Q (some (ai 6)) σ19)))))))) ∧
    (¬ v6 = (-1) →
    CalI IM d S_X8_cell [ar 30 0, ai v1, ai (4 * v6)] σ (fun r22 σ21 =>
      CalI IM d S_X8_cell [ar 30 0, ai v1, ai ((4 * v6) + 2)] σ21 (fun r24 σ23 =>
      CalI IM d S_X8_isTooFar [ar 30 0, ai r22, ai v3, ai (v4 - r24)] σ23 (fun r26 σ25 =>
      ((r26 = 0 →
      ((v7 = (-1) →
        Q (some (ai 0)) σ25) ∧
        (¬ v7 = (-1) →
        CalI IM d S_X8_cell [ar 30 0, ai v1, ai (4 * v7)] σ25 (fun r28 σ27 =>
          CalI IM d S_X8_cell [ar 30 0, ai v1, ai ((4 * v7) + 1)] σ27 (fun r30 σ29 =>
          CalI IM d S_X8_isTooFar [ar 30 0, ai v3, ai r28, ai (r30 - v5)] σ29 (fun r32 σ31 =>
          ((r32 = 0 →
          Q (some (ai 0)) σ31) ∧
          (¬ r32 = 0 →
          Q (some (ai 6)) σ31)))))))) ∧
      (¬ r26 = 0 →
      Q (some (ai 6)) σ25)))))))) ∧
  (¬ v2 ≤ v8 →
  CalI IM d S_X8_cell [ar 30 0, ai v1, ai ((4 * v8) + 1)] σ (fun r34 σ33 =>
    CalI IM d S_X8_cell [ar 30 0, ai v1, ai ((4 * v8) + 2)] σ33 (fun r36 σ35 =>
    ((v5 ≤ r34 →
    ((v4 < r36 →
      ((r34 < v5 →
        J IM M_X8_faultOf (d + 1) 85 [(0, ar 30 0), (1, ai v1), (2, ai v2), (3, ai v3), (4, ai v4), (5, ai v5), (6, ai v6), (7, ai v7), (8, ai (v8 + 1))] [] σ35 Q) ∧
        (¬ r34 < v5 →
        ((v7 = (-1) →
          J IM M_X8_faultOf (d + 1) 85 [(0, ar 30 0), (1, ai v1), (2, ai v2), (3, ai v3), (4, ai v4), (5, ai v5), (6, ai v6), (7, ai v8), (8, ai (v8 + 1))] [] σ35 Q) ∧
          (¬ v7 = (-1) →
          CalI IM d S_X8_cell [ar 30 0, ai v1, ai ((4 * v7) + 1)] σ35 (fun r38 σ37 =>
            ((r38 ≤ r34 →
            J IM M_X8_faultOf (d + 1) 85 [(0, ar 30 0), (1, ai v1), (2, ai v2), (3, ai v3), (4, ai v4), (5, ai v5), (6, ai v6), (7, ai v7), (8, ai (v8 + 1))] [] σ37 Q) ∧
            (¬ r38 ≤ r34 →
            J IM M_X8_faultOf (d + 1) 85 [(0, ar 30 0), (1, ai v1), (2, ai v2), (3, ai v3), (4, ai v4), (5, ai v5), (6, ai v6), (7, ai v8), (8, ai (v8 + 1))] [] σ37 Q)))))))) ∧
      (¬ v4 < r36 →
      ((v6 = (-1) →
        ((r34 < v5 →
          J IM M_X8_faultOf (d + 1) 85 [(0, ar 30 0), (1, ai v1), (2, ai v2), (3, ai v3), (4, ai v4), (5, ai v5), (6, ai v8), (7, ai v7), (8, ai (v8 + 1))] [] σ35 Q) ∧
          (¬ r34 < v5 →
          ((v7 = (-1) →
            J IM M_X8_faultOf (d + 1) 85 [(0, ar 30 0), (1, ai v1), (2, ai v2), (3, ai v3), (4, ai v4), (5, ai v5), (6, ai v8), (7, ai v8), (8, ai (v8 + 1))] [] σ35 Q) ∧
            (¬ v7 = (-1) →
            CalI IM d S_X8_cell [ar 30 0, ai v1, ai ((4 * v7) + 1)] σ35 (fun r40 σ39 =>
              ((r40 ≤ r34 →
              J IM M_X8_faultOf (d + 1) 85 [(0, ar 30 0), (1, ai v1), (2, ai v2), (3, ai v3), (4, ai v4), (5, ai v5), (6, ai v8), (7, ai v7), (8, ai (v8 + 1))] [] σ39 Q) ∧
              (¬ r40 ≤ r34 →
              J IM M_X8_faultOf (d + 1) 85 [(0, ar 30 0), (1, ai v1), (2, ai v2), (3, ai v3), (4, ai v4), (5, ai v5), (6, ai v8), (7, ai v8), (8, ai (v8 + 1))] [] σ39 Q)))))))) ∧
        (¬ v6 = (-1) →
        CalI IM d S_X8_cell [ar 30 0, ai v1, ai ((4 * v6) + 2)] σ35 (fun r42 σ41 =>
          ((r36 ≤ r42 →
          ((r34 < v5 →
            J IM M_X8_faultOf (d + 1) 85 [(0, ar 30 0), (1, ai v1), (2, ai v2), (3, ai v3), (4, ai v4), (5, ai v5), (6, ai v6), (7, ai v7), (8, ai (v8 + 1))] [] σ41 Q) ∧
            (¬ r34 < v5 →
            ((v7 = (-1) →
              J IM M_X8_faultOf (d + 1) 85 [(0, ar 30 0), (1, ai v1), (2, ai v2), (3, ai v3), (4, ai v4), (5, ai v5), (6, ai v6), (7, ai v8), (8, ai (v8 + 1))] [] σ41 Q) ∧
              (¬ v7 = (-1) →
              CalI IM d S_X8_cell [ar 30 0, ai v1, ai ((4 * v7) + 1)] σ41 (fun r44 σ43 =>
                ((r44 ≤ r34 →
                J IM M_X8_faultOf (d + 1) 85 [(0, ar 30 0), (1, ai v1), (2, ai v2), (3, ai v3), (4, ai v4), (5, ai v5), (6, ai v6), (7, ai v7), (8, ai (v8 + 1))] [] σ43 Q) ∧
                (¬ r44 ≤ r34 →
                J IM M_X8_faultOf (d + 1) 85 [(0, ar 30 0), (1, ai v1), (2, ai v2), (3, ai v3), (4, ai v4), (5, ai v5), (6, ai v6), (7, ai v8), (8, ai (v8 + 1))] [] σ43 Q)))))))) ∧
          (¬ r36 ≤ r42 →
          ((r34 < v5 →
            J IM M_X8_faultOf (d + 1) 85 [(0, ar 30 0), (1, ai v1), (2, ai v2), (3, ai v3), (4, ai v4), (5, ai v5), (6, ai v8), (7, ai v7), (8, ai (v8 + 1))] [] σ41 Q) ∧
            (¬ r34 < v5 →
            ((v7 = (-1) →
              J IM M_X8_faultOf (d + 1) 85 [(0, ar 30 0), (1, ai v1), (2, ai v2), (3, ai v3), (4, ai v4), (5, ai v5), (6, ai v8), (7, ai v8), (8, ai (v8 + 1))] [] σ41 Q) ∧
              (¬ v7 = (-1) →
              CalI IM d S_X8_cell [ar 30 0, ai v1, ai ((4 * v7) + 1)] σ41 (fun r46 σ45 =>
                ((r46 ≤ r34 →
                J IM M_X8_faultOf (d + 1) 85 [(0, ar 30 0), (1, ai v1), (2, ai v2), (3, ai v3), (4, ai v4), (5, ai v5), (6, ai v8), (7, ai v7), (8, ai (v8 + 1))] [] σ45 Q) ∧
                (¬ r46 ≤ r34 →
                J IM M_X8_faultOf (d + 1) 85 [(0, ar 30 0), (1, ai v1), (2, ai v2), (3, ai v3), (4, ai v4), (5, ai v5), (6, ai v8), (7, ai v8), (8, ai (v8 + 1))] [] σ45 Q))))))))))))))) ∧
    (¬ v5 ≤ r34 →
    ((r36 ≤ v4 →
      ((v4 < r36 →
        ((r34 < v5 →
          J IM M_X8_faultOf (d + 1) 85 [(0, ar 30 0), (1, ai v1), (2, ai v2), (3, ai v3), (4, ai v4), (5, ai v5), (6, ai v6), (7, ai v7), (8, ai (v8 + 1))] [] σ35 Q) ∧
          (¬ r34 < v5 →
          ((v7 = (-1) →
            J IM M_X8_faultOf (d + 1) 85 [(0, ar 30 0), (1, ai v1), (2, ai v2), (3, ai v3), (4, ai v4), (5, ai v5), (6, ai v6), (7, ai v8), (8, ai (v8 + 1))] [] σ35 Q) ∧
            (¬ v7 = (-1) →
            CalI IM d S_X8_cell [ar 30 0, ai v1, ai ((4 * v7) + 1)] σ35 (fun r48 σ47 =>
              ((r48 ≤ r34 →
              J IM M_X8_faultOf (d + 1) 85 [(0, ar 30 0), (1, ai v1), (2, ai v2), (3, ai v3), (4, ai v4), (5, ai v5), (6, ai v6), (7, ai v7), (8, ai (v8 + 1))] [] σ47 Q) ∧
              (¬ r48 ≤ r34 →
              J IM M_X8_faultOf (d + 1) 85 [(0, ar 30 0), (1, ai v1), (2, ai v2), (3, ai v3), (4, ai v4), (5, ai v5), (6, ai v6), (7, ai v8), (8, ai (v8 + 1))] [] σ47 Q)))))))) ∧
        (¬ v4 < r36 →
        ((v6 = (-1) →
          ((r34 < v5 →
            J IM M_X8_faultOf (d + 1) 85 [(0, ar 30 0), (1, ai v1), (2, ai v2), (3, ai v3), (4, ai v4), (5, ai v5), (6, ai v8), (7, ai v7), (8, ai (v8 + 1))] [] σ35 Q) ∧
            (¬ r34 < v5 →
            ((v7 = (-1) →
              J IM M_X8_faultOf (d + 1) 85 [(0, ar 30 0), (1, ai v1), (2, ai v2), (3, ai v3), (4, ai v4), (5, ai v5), (6, ai v8), (7, ai v8), (8, ai (v8 + 1))] [] σ35 Q) ∧
              (¬ v7 = (-1) →
              CalI IM d S_X8_cell [ar 30 0, ai v1, ai ((4 * v7) + 1)] σ35 (fun r50 σ49 =>
                ((r50 ≤ r34 →
                J IM M_X8_faultOf (d + 1) 85 [(0, ar 30 0), (1, ai v1), (2, ai v2), (3, ai v3), (4, ai v4), (5, ai v5), (6, ai v8), (7, ai v7), (8, ai (v8 + 1))] [] σ49 Q) ∧
                (¬ r50 ≤ r34 →
                J IM M_X8_faultOf (d + 1) 85 [(0, ar 30 0), (1, ai v1), (2, ai v2), (3, ai v3), (4, ai v4), (5, ai v5), (6, ai v8), (7, ai v8), (8, ai (v8 + 1))] [] σ49 Q)))))))) ∧
          (¬ v6 = (-1) →
          CalI IM d S_X8_cell [ar 30 0, ai v1, ai ((4 * v6) + 2)] σ35 (fun r52 σ51 =>
            ((r36 ≤ r52 →
            ((r34 < v5 →
              J IM M_X8_faultOf (d + 1) 85 [(0, ar 30 0), (1, ai v1), (2, ai v2), (3, ai v3), (4, ai v4), (5, ai v5), (6, ai v6), (7, ai v7), (8, ai (v8 + 1))] [] σ51 Q) ∧
              (¬ r34 < v5 →
              ((v7 = (-1) →
                J IM M_X8_faultOf (d + 1) 85 [(0, ar 30 0), (1, ai v1), (2, ai v2), (3, ai v3), (4, ai v4), (5, ai v5), (6, ai v6), (7, ai v8), (8, ai (v8 + 1))] [] σ51 Q) ∧
                (¬ v7 = (-1) →
                CalI IM d S_X8_cell [ar 30 0, ai v1, ai ((4 * v7) + 1)] σ51 (fun r54 σ53 =>
                  ((r54 ≤ r34 →
                  J IM M_X8_faultOf (d + 1) 85 [(0, ar 30 0), (1, ai v1), (2, ai v2), (3, ai v3), (4, ai v4), (5, ai v5), (6, ai v6), (7, ai v7), (8, ai (v8 + 1))] [] σ53 Q) ∧
                  (¬ r54 ≤ r34 →
                  J IM M_X8_faultOf (d + 1) 85 [(0, ar 30 0), (1, ai v1), (2, ai v2), (3, ai v3), (4, ai v4), (5, ai v5), (6, ai v6), (7, ai v8), (8, ai (v8 + 1))] [] σ53 Q)))))))) ∧
            (¬ r36 ≤ r52 →
            ((r34 < v5 →
              J IM M_X8_faultOf (d + 1) 85 [(0, ar 30 0), (1, ai v1), (2, ai v2), (3, ai v3), (4, ai v4), (5, ai v5), (6, ai v8), (7, ai v7), (8, ai (v8 + 1))] [] σ51 Q) ∧
              (¬ r34 < v5 →
              ((v7 = (-1) →
                J IM M_X8_faultOf (d + 1) 85 [(0, ar 30 0), (1, ai v1), (2, ai v2), (3, ai v3), (4, ai v4), (5, ai v5), (6, ai v8), (7, ai v8), (8, ai (v8 + 1))] [] σ51 Q) ∧
                (¬ v7 = (-1) →
                CalI IM d S_X8_cell [ar 30 0, ai v1, ai ((4 * v7) + 1)] σ51 (fun r56 σ55 =>
                  ((r56 ≤ r34 →
                  J IM M_X8_faultOf (d + 1) 85 [(0, ar 30 0), (1, ai v1), (2, ai v2), (3, ai v3), (4, ai v4), (5, ai v5), (6, ai v8), (7, ai v7), (8, ai (v8 + 1))] [] σ55 Q) ∧
                  (¬ r56 ≤ r34 →
                  J IM M_X8_faultOf (d + 1) 85 [(0, ar 30 0), (1, ai v1), (2, ai v2), (3, ai v3), (4, ai v4), (5, ai v5), (6, ai v8), (7, ai v8), (8, ai (v8 + 1))] [] σ55 Q))))))))))))))) ∧
      (¬ r36 ≤ v4 →
      Q (some (ai 5)) σ35))))))))) :
  J IM M_X8_faultOf (d + 1) 85 [(0, ar 30 0), (1, ai v1), (2, ai v2), (3, ai v3), (4, ai v4), (5, ai v5), (6, ai v6), (7, ai v7), (8, ai v8)] [] σ Q := fun z => absurd offM z
set_option maxRecDepth 10000 in
theorem r_X8_likes_0 {d : Nat} {p0 : Int32} {p1 : Int32} {σ : Mem} {Q : Option AV → Mem → Prop} (h :
  CalI IM d S_X8_isFolk [ar 30 0, ai p0] σ (fun r2 σ1 =>
  ((r2 = 0 →
  CalI IM d S_X8_refuse [ar 30 0, ai (-1)] σ1 (fun r4 σ3 =>
    Q (some (ai r4)) σ3)) ∧
  (¬ r2 = 0 →
  CalI IM d S_X8_isShelf [ai p1] σ1 (fun r6 σ5 =>
    ((¬ r6 = 0 →
    CalI IM d S_X8_isRow [ar 30 0, ai p1] σ5 (fun r8 σ7 =>
      ((¬ r8 = 0 →
      vp_in p1 8 ∧
        (((σ7.1 30 0 5) ≤ (σ7.1 58 0 (Int32.toNatClampNeg p1)) →
        J IM M_X8_likes (d + 1) 79 [(0, ar 30 0), (1, ai p0), (2, ai p1), (3, ai (σ7.1 30 0 5)), (4, ai 0)] [] σ7 Q) ∧
        (¬ (σ7.1 30 0 5) ≤ (σ7.1 58 0 (Int32.toNatClampNeg p1)) →
        vp_in p1 8 ∧
          J IM M_X8_likes (d + 1) 79 [(0, ar 30 0), (1, ai p0), (2, ai p1), (3, ai (σ7.1 58 0 (Int32.toNatClampNeg p1))), (4, ai 0)] [] σ7 Q))) ∧
      (r8 = 0 →
      CalI IM d S_X8_holdsFolk [ar 30 0, ai p1] σ7 (fun r10 σ9 =>
        ((r10 = 0 →
        CalI IM d S_X8_refuse [ar 30 0, ai (-3)] σ9 (fun r12 σ11 =>
          Q (some (ai r12)) σ11)) ∧
        (¬ r10 = 0 →
        CalI IM d S_X8_refuse [ar 30 0, ai (-2)] σ9 (fun r14 σ13 =>
          Q (some (ai r14)) σ13)))))))) ∧
    (r6 = 0 →
    CalI IM d S_X8_refuse [ar 30 0, ai (-1)] σ5 (fun r16 σ15 =>
      Q (some (ai r16)) σ15)))))))) :
  Cal IM (d + 1) S_X8_likes [ar 30 0, ai p0, ai p1] σ Q := fun z => absurd offM z
set_option maxRecDepth 10000 in
theorem r_X8_likes_79 {d : Nat} {v1 : Int32} {v2 : Int32} {v3 : Int32} {v4 : Int32} {σ : Mem} {Q : Option AV → Mem → Prop} (h :
  ((v3 ≤ v4 →
  J IM M_X8_likes (d + 1) 117 [(0, ar 30 0), (1, ai v1), (2, ai v2), (3, ai v3), (4, ai 0)] [] σ Q) ∧
  (¬ v3 ≤ v4 →
  CalI IM d S_X8_cell [ar 30 0, ai v2, ai v4] σ (fun r18 σ17 =>
    CalI IM d S_X8_in [ai r18, ai 0, ai 9] σ17 (fun r20 σ19 =>
    ((¬ r20 = 0 →
    J IM M_X8_likes (d + 1) 79 [(0, ar 30 0), (1, ai v1), (2, ai v2), (3, ai v3), (4, ai (v4 + 1))] [] σ19 Q) ∧
    (r20 = 0 →
    CalI IM d S_X8_refuse [ar 30 0, ai (-6)] σ19 (fun r22 σ21 =>
      Q (some (ai r22)) σ21)))))))) :
  J IM M_X8_likes (d + 1) 79 [(0, ar 30 0), (1, ai v1), (2, ai v2), (3, ai v3), (4, ai v4)] [] σ Q := fun z => absurd offM z
set_option maxRecDepth 10000 in
theorem r_X8_likes_117 {d : Nat} {v1 : Int32} {v2 : Int32} {v3 : Int32} {v4 : Int32} {σ : Mem} {Q : Option AV → Mem → Prop} (h :
  ((v3 ≤ v4 →
  Q (some (ai v3)) σ) ∧
  (¬ v3 ≤ v4 →
  CalI IM d S_X8_cell [ar 30 0, ai v2, ai v4] σ (fun r24 σ23 =>
    vp_in ((12 * v1) + v4) 240 ∧
    J IM M_X8_likes (d + 1) 117 [(0, ar 30 0), (1, ai v1), (2, ai v2), (3, ai v3), (4, ai (v4 + 1))] [] (wI σ23 40 0 (Int32.toNatClampNeg ((12 * v1) + v4)) r24) Q)))) :
  J IM M_X8_likes (d + 1) 117 [(0, ar 30 0), (1, ai v1), (2, ai v2), (3, ai v3), (4, ai v4)] [] σ Q := fun z => absurd offM z
set_option maxRecDepth 10000 in
theorem r_X8_key_0 {d : Nat} {p0 : Int32} {p1 : Int32} {p2 : Int32} {σ : Mem} {Q : Option AV → Mem → Prop} (h :
  CalI IM d S_X8_isFolk [ar 30 0, ai p0] σ (fun r2 σ1 =>
  ((r2 = 0 →
  CalI IM d S_X8_refuse [ar 30 0, ai (-1)] σ1 (fun r4 σ3 =>
    Q (some (ai r4)) σ3)) ∧
  (¬ r2 = 0 →
  CalI IM d S_X8_isPlace [ar 30 0, ai p1] σ1 (fun r6 σ5 =>
    ((¬ r6 = 0 →
    vp_in p0 20 ∧
      ((¬ (((σ5.1 39 0 (Int32.toNatClampNeg p0)) >>> (p1 &&& 31)) &&& 1) = 1 →
      ((p2 = 0 →
        vp_in p0 20 ∧
          vp_in p0 20 ∧
          ((0 = p2 →
          Q (some (ai 0)) (wI σ5 39 0 (Int32.toNatClampNeg p0) ((σ5.1 39 0 (Int32.toNatClampNeg p0)) &&& ((1 <<< (p1 &&& 31)) ^^^ (-1))))) ∧
          (¬ 0 = p2 →
          Q (some (ai 1)) (wI σ5 39 0 (Int32.toNatClampNeg p0) ((σ5.1 39 0 (Int32.toNatClampNeg p0)) &&& ((1 <<< (p1 &&& 31)) ^^^ (-1))))))) ∧
        (¬ p2 = 0 →
        vp_in p0 20 ∧
          vp_in p0 20 ∧
          ((0 = p2 →
          Q (some (ai 0)) (wI σ5 39 0 (Int32.toNatClampNeg p0) ((σ5.1 39 0 (Int32.toNatClampNeg p0)) ||| (1 <<< (p1 &&& 31))))) ∧
          (¬ 0 = p2 →
          Q (some (ai 1)) (wI σ5 39 0 (Int32.toNatClampNeg p0) ((σ5.1 39 0 (Int32.toNatClampNeg p0)) ||| (1 <<< (p1 &&& 31))))))))) ∧
      ((((σ5.1 39 0 (Int32.toNatClampNeg p0)) >>> (p1 &&& 31)) &&& 1) = 1 →
      ((p2 = 0 →
        vp_in p0 20 ∧
          vp_in p0 20 ∧
          ((1 = p2 →
          Q (some (ai 0)) (wI σ5 39 0 (Int32.toNatClampNeg p0) ((σ5.1 39 0 (Int32.toNatClampNeg p0)) &&& ((1 <<< (p1 &&& 31)) ^^^ (-1))))) ∧
          (¬ 1 = p2 →
          Q (some (ai 1)) (wI σ5 39 0 (Int32.toNatClampNeg p0) ((σ5.1 39 0 (Int32.toNatClampNeg p0)) &&& ((1 <<< (p1 &&& 31)) ^^^ (-1))))))) ∧
        (¬ p2 = 0 →
        vp_in p0 20 ∧
          vp_in p0 20 ∧
          ((1 = p2 →
          Q (some (ai 0)) (wI σ5 39 0 (Int32.toNatClampNeg p0) ((σ5.1 39 0 (Int32.toNatClampNeg p0)) ||| (1 <<< (p1 &&& 31))))) ∧
          (¬ 1 = p2 →
          Q (some (ai 1)) (wI σ5 39 0 (Int32.toNatClampNeg p0) ((σ5.1 39 0 (Int32.toNatClampNeg p0)) ||| (1 <<< (p1 &&& 31))))))))))) ∧
    (r6 = 0 →
    CalI IM d S_X8_refuse [ar 30 0, ai (-1)] σ5 (fun r8 σ7 =>
      Q (some (ai r8)) σ7)))))))) :
  Cal IM (d + 1) S_X8_key [ar 30 0, ai p0, ai p1, ai p2] σ Q := fun z => absurd offM z
set_option maxRecDepth 10000 in
theorem r_X8_chooses_0 {d : Nat} {p0 : Int32} {p1 : Int32} {p2 : Int32} {σ : Mem} {Q : Option AV → Mem → Prop} (h :
  CalI IM d S_X8_canBeIn [ar 30 0, ai p0, ai p2, ai p1] σ (fun r2 σ1 =>
  ((r2 = 0 →
  vp_in p1 48 ∧
    vp_in p0 20 ∧
    ((p2 = (σ1.1 38 0 (Int32.toNatClampNeg p0)) →
    CalI IM d S_X8_late [ai 0, ai p1] σ1 (fun r4 σ3 =>
      vp_in (((12 * p1) + p2) + 12) 588 ∧
      ((100000000 ≤ ((((σ1.1 61 0 (Int32.toNatClampNeg p1)) + 20) + r4) + (σ3.1 63 0 (Int32.toNatClampNeg (((12 * p1) + p2) + 12)))) →
      J IM M_X8_chooses (d + 1) 104 [(0, ar 30 0), (2, ai p1), (3, ai p2), (4, ai ((12 * p1) + p2)), (5, ai 100000000), (6, ai 0), (8, ai 0)] [] σ3 Q) ∧
      (¬ 100000000 ≤ ((((σ1.1 61 0 (Int32.toNatClampNeg p1)) + 20) + r4) + (σ3.1 63 0 (Int32.toNatClampNeg (((12 * p1) + p2) + 12)))) →
      J IM M_X8_chooses (d + 1) 104 [(0, ar 30 0), (2, ai p1), (3, ai p2), (4, ai ((12 * p1) + p2)), (5, ai ((((σ1.1 61 0 (Int32.toNatClampNeg p1)) + 20) + r4) + (σ3.1 63 0 (Int32.toNatClampNeg (((12 * p1) + p2) + 12))))), (6, ai 1), (8, ai 0)] [] σ3 Q)))) ∧
    (¬ p2 = (σ1.1 38 0 (Int32.toNatClampNeg p0)) →
    CalI IM d S_X8_late [ai 1, ai p1] σ1 (fun r6 σ5 =>
      vp_in (((12 * p1) + p2) + 12) 588 ∧
      ((100000000 ≤ ((((σ1.1 61 0 (Int32.toNatClampNeg p1)) + 20) + r6) + (σ5.1 63 0 (Int32.toNatClampNeg (((12 * p1) + p2) + 12)))) →
      J IM M_X8_chooses (d + 1) 104 [(0, ar 30 0), (2, ai p1), (3, ai p2), (4, ai ((12 * p1) + p2)), (5, ai 100000000), (6, ai 0), (8, ai 0)] [] σ5 Q) ∧
      (¬ 100000000 ≤ ((((σ1.1 61 0 (Int32.toNatClampNeg p1)) + 20) + r6) + (σ5.1 63 0 (Int32.toNatClampNeg (((12 * p1) + p2) + 12)))) →
      J IM M_X8_chooses (d + 1) 104 [(0, ar 30 0), (2, ai p1), (3, ai p2), (4, ai ((12 * p1) + p2)), (5, ai ((((σ1.1 61 0 (Int32.toNatClampNeg p1)) + 20) + r6) + (σ5.1 63 0 (Int32.toNatClampNeg (((12 * p1) + p2) + 12))))), (6, ai 1), (8, ai 0)] [] σ5 Q)))))) ∧
  (¬ r2 = 0 →
  CalI IM d S_X8_inCost [ar 30 0, ai p0, ai p2, ai p1] σ1 (fun r8 σ7 =>
    vp_in (((12 * p1) + p2) + 12) 588 ∧
    vp_in p1 48 ∧
    vp_in p0 20 ∧
    ((p2 = (σ7.1 38 0 (Int32.toNatClampNeg p0)) →
    CalI IM d S_X8_late [ai 0, ai p1] σ7 (fun r10 σ9 =>
      vp_in (((12 * p1) + p2) + 12) 588 ∧
      (((r8 + (σ7.1 63 0 (Int32.toNatClampNeg (((12 * p1) + p2) + 12)))) ≤ ((((σ7.1 61 0 (Int32.toNatClampNeg p1)) + 20) + r10) + (σ9.1 63 0 (Int32.toNatClampNeg (((12 * p1) + p2) + 12)))) →
      J IM M_X8_chooses (d + 1) 104 [(0, ar 30 0), (2, ai p1), (3, ai p2), (4, ai ((12 * p1) + p2)), (5, ai (r8 + (σ7.1 63 0 (Int32.toNatClampNeg (((12 * p1) + p2) + 12))))), (6, ai 0), (8, ai 0)] [] σ9 Q) ∧
      (¬ (r8 + (σ7.1 63 0 (Int32.toNatClampNeg (((12 * p1) + p2) + 12)))) ≤ ((((σ7.1 61 0 (Int32.toNatClampNeg p1)) + 20) + r10) + (σ9.1 63 0 (Int32.toNatClampNeg (((12 * p1) + p2) + 12)))) →
      J IM M_X8_chooses (d + 1) 104 [(0, ar 30 0), (2, ai p1), (3, ai p2), (4, ai ((12 * p1) + p2)), (5, ai ((((σ7.1 61 0 (Int32.toNatClampNeg p1)) + 20) + r10) + (σ9.1 63 0 (Int32.toNatClampNeg (((12 * p1) + p2) + 12))))), (6, ai 1), (8, ai 0)] [] σ9 Q)))) ∧
    (¬ p2 = (σ7.1 38 0 (Int32.toNatClampNeg p0)) →
    CalI IM d S_X8_late [ai 1, ai p1] σ7 (fun r12 σ11 =>
      vp_in (((12 * p1) + p2) + 12) 588 ∧
      (((r8 + (σ7.1 63 0 (Int32.toNatClampNeg (((12 * p1) + p2) + 12)))) ≤ ((((σ7.1 61 0 (Int32.toNatClampNeg p1)) + 20) + r12) + (σ11.1 63 0 (Int32.toNatClampNeg (((12 * p1) + p2) + 12)))) →
      J IM M_X8_chooses (d + 1) 104 [(0, ar 30 0), (2, ai p1), (3, ai p2), (4, ai ((12 * p1) + p2)), (5, ai (r8 + (σ7.1 63 0 (Int32.toNatClampNeg (((12 * p1) + p2) + 12))))), (6, ai 0), (8, ai 0)] [] σ11 Q) ∧
      (¬ (r8 + (σ7.1 63 0 (Int32.toNatClampNeg (((12 * p1) + p2) + 12)))) ≤ ((((σ7.1 61 0 (Int32.toNatClampNeg p1)) + 20) + r12) + (σ11.1 63 0 (Int32.toNatClampNeg (((12 * p1) + p2) + 12)))) →
      J IM M_X8_chooses (d + 1) 104 [(0, ar 30 0), (2, ai p1), (3, ai p2), (4, ai ((12 * p1) + p2)), (5, ai ((((σ7.1 61 0 (Int32.toNatClampNeg p1)) + 20) + r12) + (σ11.1 63 0 (Int32.toNatClampNeg (((12 * p1) + p2) + 12))))), (6, ai 1), (8, ai 0)] [] σ11 Q)))))))))) :
  Cal IM (d + 1) S_X8_chooses [ar 30 0, ai p0, ai p1, ai p2] σ Q := fun z => absurd offM z
set_option maxRecDepth 10000 in
theorem r_X8_chooses_104 {d : Nat} {v2 : Int32} {v3 : Int32} {v4 : Int32} {v5 : Int32} {v6 : Int32} {v8 : Int32} {σ : Mem} {Q : Option AV → Mem → Prop} (h :
  (((σ.1 30 0 5) ≤ v8 →
  vp_in v4 588 ∧
    vp_in v4 576 ∧
    Q none (wI (wI σ 63 0 (Int32.toNatClampNeg v4) v5) 64 0 (Int32.toNatClampNeg v4) v6)) ∧
  (¬ (σ.1 30 0 5) ≤ v8 →
  vp_in ((12 * v3) + v8) 144 ∧
    ((1000000 ≤ (σ.1 36 0 (Int32.toNatClampNeg ((12 * v3) + v8))) →
    J IM M_X8_chooses (d + 1) 104 [(0, ar 30 0), (2, ai v2), (3, ai v3), (4, ai v4), (5, ai v5), (6, ai v6), (8, ai (v8 + 1))] [] σ Q) ∧
    (¬ 1000000 ≤ (σ.1 36 0 (Int32.toNatClampNeg ((12 * v3) + v8))) →
    CalI IM d S_X8_wayCost [ar 30 0, ai v2, ai (v2 + (σ.1 36 0 (Int32.toNatClampNeg ((12 * v3) + v8))))] σ (fun r14 σ13 =>
      ((48 ≤ (v2 + (σ.1 36 0 (Int32.toNatClampNeg ((12 * v3) + v8)))) →
      ((v5 ≤ (r14 + 0) →
        J IM M_X8_chooses (d + 1) 104 [(0, ar 30 0), (2, ai v2), (3, ai v3), (4, ai v4), (5, ai v5), (6, ai v6), (8, ai (v8 + 1))] [] σ13 Q) ∧
        (¬ v5 ≤ (r14 + 0) →
        J IM M_X8_chooses (d + 1) 104 [(0, ar 30 0), (2, ai v2), (3, ai v3), (4, ai v4), (5, ai (r14 + 0)), (6, ai (2 + v8)), (8, ai (v8 + 1))] [] σ13 Q))) ∧
      (¬ 48 ≤ (v2 + (σ.1 36 0 (Int32.toNatClampNeg ((12 * v3) + v8)))) →
      vp_in ((12 * (v2 + (σ.1 36 0 (Int32.toNatClampNeg ((12 * v3) + v8))))) + v8) 588 ∧
        ((v5 ≤ (r14 + (σ13.1 63 0 (Int32.toNatClampNeg ((12 * (v2 + (σ.1 36 0 (Int32.toNatClampNeg ((12 * v3) + v8))))) + v8)))) →
        J IM M_X8_chooses (d + 1) 104 [(0, ar 30 0), (2, ai v2), (3, ai v3), (4, ai v4), (5, ai v5), (6, ai v6), (8, ai (v8 + 1))] [] σ13 Q) ∧
        (¬ v5 ≤ (r14 + (σ13.1 63 0 (Int32.toNatClampNeg ((12 * (v2 + (σ.1 36 0 (Int32.toNatClampNeg ((12 * v3) + v8))))) + v8)))) →
        J IM M_X8_chooses (d + 1) 104 [(0, ar 30 0), (2, ai v2), (3, ai v3), (4, ai v4), (5, ai (r14 + (σ13.1 63 0 (Int32.toNatClampNeg ((12 * (v2 + (σ.1 36 0 (Int32.toNatClampNeg ((12 * v3) + v8))))) + v8))))), (6, ai (2 + v8)), (8, ai (v8 + 1))] [] σ13 Q)))))))))) :
  J IM M_X8_chooses (d + 1) 104 [(0, ar 30 0), (2, ai v2), (3, ai v3), (4, ai v4), (5, ai v5), (6, ai v6), (8, ai v8)] [] σ Q := fun z => absurd offM z
set_option maxRecDepth 10000 in
theorem r_X8_gone_0 {d : Nat} {p0 : Int32} {σ : Mem} {Q : Option AV → Mem → Prop} (h :
  CalI IM d S_X8_isFolk [ar 30 0, ai p0] σ (fun r2 σ1 =>
  ((¬ r2 = 0 →
  ((¬ (σ1.1 30 0 1) = 0 →
    CalV IM d S_X8_leaves [ar 30 0, ai p0, ai (σ1.1 30 0 2)] σ1 (fun σ3 =>
      vp_in p0 20 ∧ ((1 : Int32) = 0 ∨ (1 : Int32) = 1) ∧
      vp_in p0 20 ∧ ((0 : Int32) = 0 ∨ (0 : Int32) = 1) ∧
      CalI IM d S_X8_still [ar 30 0] (wI (wI σ3 43 0 (Int32.toNatClampNeg p0) 1) 44 0 (Int32.toNatClampNeg p0) 0) (fun r5 σ4 =>
      Q (some (ai r5)) σ4))) ∧
    ((σ1.1 30 0 1) = 0 →
    CalI IM d S_X8_refuse [ar 30 0, ai (-6)] σ1 (fun r7 σ6 =>
      Q (some (ai r7)) σ6)))) ∧
  (r2 = 0 →
  CalI IM d S_X8_refuse [ar 30 0, ai (-1)] σ1 (fun r9 σ8 =>
    Q (some (ai r9)) σ8))))) :
  Cal IM (d + 1) S_X8_gone [ar 30 0, ai p0] σ Q := fun z => absurd offM z
set_option maxRecDepth 10000 in
theorem r_X8_happen_0 {d : Nat} {p0 : Int32} {σ : Mem} {Q : Option AV → Mem → Prop} (h :
  CalI IM d S_X8_isPlace [ar 30 0, ai p0] σ (fun r2 σ1 =>
  ((¬ r2 = 0 →
  ((¬ (σ1.1 30 0 1) = 0 →
    ((¬ (σ1.1 30 0 31) = 12 →
      J IM M_X8_happen (d + 1) 46 [(0, ar 30 0), (1, ai p0), (2, ai 0)] [] σ1 Q) ∧
      ((σ1.1 30 0 31) = 12 →
      CalI IM d S_X8_refuse [ar 30 0, ai (-7)] σ1 (fun r4 σ3 =>
        Q (some (ai r4)) σ3)))) ∧
    ((σ1.1 30 0 1) = 0 →
    CalI IM d S_X8_refuse [ar 30 0, ai (-6)] σ1 (fun r6 σ5 =>
      Q (some (ai r6)) σ5)))) ∧
  (r2 = 0 →
  CalI IM d S_X8_refuse [ar 30 0, ai (-1)] σ1 (fun r8 σ7 =>
    Q (some (ai r8)) σ7))))) :
  Cal IM (d + 1) S_X8_happen [ar 30 0, ai p0] σ Q := fun z => absurd offM z
set_option maxRecDepth 10000 in
theorem r_X8_happen_46 {d : Nat} {v1 : Int32} {v2 : Int32} {σ : Mem} {Q : Option AV → Mem → Prop} (h :
  (((σ.1 30 0 13) ≤ v2 →
  Q (some (ai (((wI σ 30 0 31 ((σ.1 30 0 31) + 1)).1 30 0 31) - 1))) (wI σ 30 0 31 ((σ.1 30 0 31) + 1))) ∧
  (¬ (σ.1 30 0 13) ≤ v2 →
  vp_in ((48 * v2) + (σ.1 30 0 2)) 960 ∧
    (((σ.1 46 0 (Int32.toNatClampNeg ((48 * v2) + (σ.1 30 0 2)))) = v1 →
    vp_in ((12 * v2) + (σ.1 30 0 31)) 240 ∧
      J IM M_X8_happen (d + 1) 46 [(0, ar 30 0), (1, ai v1), (2, ai (v2 + 1))] [] (wI σ 54 0 (Int32.toNatClampNeg ((12 * v2) + (σ.1 30 0 31))) ((48 * (σ.1 30 0 3)) + (σ.1 30 0 2))) Q) ∧
    (¬ (σ.1 46 0 (Int32.toNatClampNeg ((48 * v2) + (σ.1 30 0 2)))) = v1 →
    ((¬ (σ.1 46 0 (Int32.toNatClampNeg ((48 * v2) + (σ.1 30 0 2)))) = (100 + v1) →
      J IM M_X8_happen (d + 1) 46 [(0, ar 30 0), (1, ai v1), (2, ai (v2 + 1))] [] σ Q) ∧
      ((σ.1 46 0 (Int32.toNatClampNeg ((48 * v2) + (σ.1 30 0 2)))) = (100 + v1) →
      vp_in ((12 * v2) + (σ.1 30 0 31)) 240 ∧
        J IM M_X8_happen (d + 1) 46 [(0, ar 30 0), (1, ai v1), (2, ai (v2 + 1))] [] (wI σ 54 0 (Int32.toNatClampNeg ((12 * v2) + (σ.1 30 0 31))) ((48 * (σ.1 30 0 3)) + (σ.1 30 0 2))) Q))))))) :
  J IM M_X8_happen (d + 1) 46 [(0, ar 30 0), (1, ai v1), (2, ai v2)] [] σ Q := fun z => absurd offM z
set_option maxRecDepth 10000 in
theorem r_X8_cost_0 {d : Nat} {p0 : Int32} {σ : Mem} {Q : Option AV → Mem → Prop} (h :
  CalI IM d S_X8_isFolk [ar 30 0, ai p0] σ (fun r2 σ1 =>
  ((r2 = 0 →
  Q (some (ai (-1))) σ1) ∧
  (¬ r2 = 0 →
  (((σ1.1 30 0 1) = 0 →
    Q (some (ai (-1))) σ1) ∧
    (¬ (σ1.1 30 0 1) = 0 →
    vp_in p0 20 ∧
      Q (some (ai (σ1.1 47 0 (Int32.toNatClampNeg p0)))) σ1)))))) :
  Cal IM (d + 1) S_X8_cost [ar 30 0, ai p0] σ Q := fun z => absurd offM z
set_option maxRecDepth 10000 in
theorem r_X8_seated_0 {d : Nat} {p0 : Int32} {p1 : Int32} {σ : Mem} {Q : Option AV → Mem → Prop} (h :
  CalI IM d S_X8_isPlace [ar 30 0, ai p0] σ (fun r2 σ1 =>
  ((r2 = 0 →
  Q (some (ai (-1))) σ1) ∧
  (¬ r2 = 0 →
  CalI IM d S_X8_in [ai p1, ai 0, ai 47] σ1 (fun r4 σ3 =>
    ((r4 = 0 →
    Q (some (ai (-1))) σ3) ∧
    (¬ r4 = 0 →
    (((σ3.1 30 0 1) = 0 →
      Q (some (ai (-1))) σ3) ∧
      (¬ (σ3.1 30 0 1) = 0 →
      vp_in ((48 * p0) + p1) 576 ∧
        Q (some (ai (σ3.1 48 0 (Int32.toNatClampNeg ((48 * p0) + p1))))) σ3))))))))) :
  Cal IM (d + 1) S_X8_seated [ar 30 0, ai p0, ai p1] σ Q := fun z => absurd offM z
set_option maxRecDepth 10000 in
theorem r_X8_far_0 {d : Nat} {p0 : Int32} {p1 : Int32} {σ : Mem} {Q : Option AV → Mem → Prop} (h :
  CalI IM d S_X8_isPlace [ar 30 0, ai p0] σ (fun r2 σ1 =>
  ((r2 = 0 →
  Q (some (ai (-1))) σ1) ∧
  (¬ r2 = 0 →
  CalI IM d S_X8_isPlace [ar 30 0, ai p1] σ1 (fun r4 σ3 =>
    ((r4 = 0 →
    Q (some (ai (-1))) σ3) ∧
    (¬ r4 = 0 →
    vp_in ((12 * p0) + p1) 144 ∧
      ((1000000 ≤ (σ3.1 37 0 (Int32.toNatClampNeg ((12 * p0) + p1))) →
      Q (some (ai (-1))) σ3) ∧
      (¬ 1000000 ≤ (σ3.1 37 0 (Int32.toNatClampNeg ((12 * p0) + p1))) →
      vp_in ((12 * p0) + p1) 144 ∧
        Q (some (ai (σ3.1 37 0 (Int32.toNatClampNeg ((12 * p0) + p1))))) σ3))))))))) :
  Cal IM (d + 1) S_X8_far [ar 30 0, ai p0, ai p1] σ Q := fun z => absurd offM z
set_option maxRecDepth 10000 in
theorem r_X0_isReachable_0 {d : Nat} {z : Nat} {p1 : Int32} {σ : Mem} {Q : Option AV → Mem → Prop} (h :
  J IX M_X0_isReachable (d + 1) 8 [(0, ar 7 z), (1, ai p1), (2, ar 1 0), (3, ai (-1)), (4, ai (-1)), (5, ai 0)] [] σ Q) :
  Cal IX (d + 1) S_X0_isReachable [ar 7 z, ai p1, ar 1 0] σ Q := Cal_of (M := M_X0_isReachable) Sok_X0_isReachable (by decide +kernel) rfl (wp_J oki_X Mok_X0_isReachable (cuts := [(8, [0, 1, 2, 3, 4, 5])]) 400 0 _ [] σ h)
set_option maxRecDepth 10000 in
theorem r_X0_isReachable_8 {d : Nat} {v0 : Nat} {v1 : Int32} {v3 : Int32} {v4 : Int32} {v5 : Int32} {σ : Mem} {Q : Option AV → Mem → Prop} (h :
  ((v1 ≤ v5 →
  ((v3 = (-1) →
    ((v4 = (-1) →
      ((1 : Int32) = 0 ∨ (1 : Int32) = 1) ∧ Q (some (ai 1)) σ) ∧
      (¬ v4 = (-1) →
      CalI IX d S_X0_isInTime [ar 7 v0, ai v1, ai v4, ar 1 0] σ (fun r2 σ1 =>
        ((r2 = 0 →
        ((0 : Int32) = 0 ∨ (0 : Int32) = 1) ∧ Q (some (ai 0)) σ1) ∧
        (¬ r2 = 0 →
        ((1 : Int32) = 0 ∨ (1 : Int32) = 1) ∧ Q (some (ai 1)) σ1)))))) ∧
    (¬ v3 = (-1) →
    CalI IX d S_X0_isInTime [ar 7 v0, ai v3, ai v1, ar 1 0] σ (fun r4 σ3 =>
      ((r4 = 0 →
      ((0 : Int32) = 0 ∨ (0 : Int32) = 1) ∧ Q (some (ai 0)) σ3) ∧
      (¬ r4 = 0 →
      ((v4 = (-1) →
        ((1 : Int32) = 0 ∨ (1 : Int32) = 1) ∧ Q (some (ai 1)) σ3) ∧
        (¬ v4 = (-1) →
        CalI IX d S_X0_isInTime [ar 7 v0, ai v1, ai v4, ar 1 0] σ3 (fun r6 σ5 =>
          ((r6 = 0 →
          ((0 : Int32) = 0 ∨ (0 : Int32) = 1) ∧ Q (some (ai 0)) σ5) ∧
          (¬ r6 = 0 →
          ((1 : Int32) = 0 ∨ (1 : Int32) = 1) ∧ Q (some (ai 1)) σ5))))))))))) ∧
  (¬ v1 ≤ v5 →
  CalI IX d S_X0_endOf [ar 7 v0, ai v5] σ (fun r8 σ7 =>
    CalI IX d S_X0_startOf [ar 7 v0, ai v1] σ7 (fun r10 σ9 =>
    ((r10 < r8 →
    CalI IX d S_X0_startOf [ar 7 v0, ai v5] σ9 (fun r12 σ11 =>
      CalI IX d S_X0_endOf [ar 7 v0, ai v1] σ11 (fun r14 σ13 =>
      ((r12 < r14 →
      J IX M_X0_isReachable (d + 1) 8 [(0, ar 7 v0), (1, ai v1), (2, ar 1 0), (3, ai v3), (4, ai v4), (5, ai (v5 + 1))] [] σ13 Q) ∧
      (¬ r12 < r14 →
      ((v4 = (-1) →
        J IX M_X0_isReachable (d + 1) 8 [(0, ar 7 v0), (1, ai v1), (2, ar 1 0), (3, ai v3), (4, ai v5), (5, ai (v5 + 1))] [] σ13 Q) ∧
        (¬ v4 = (-1) →
        CalI IX d S_X0_startOf [ar 7 v0, ai v5] σ13 (fun r16 σ15 =>
          CalI IX d S_X0_startOf [ar 7 v0, ai v4] σ15 (fun r18 σ17 =>
          ((r18 ≤ r16 →
          J IX M_X0_isReachable (d + 1) 8 [(0, ar 7 v0), (1, ai v1), (2, ar 1 0), (3, ai v3), (4, ai v4), (5, ai (v5 + 1))] [] σ17 Q) ∧
          (¬ r18 ≤ r16 →
          J IX M_X0_isReachable (d + 1) 8 [(0, ar 7 v0), (1, ai v1), (2, ar 1 0), (3, ai v3), (4, ai v5), (5, ai (v5 + 1))] [] σ17 Q))))))))))) ∧
    (¬ r10 < r8 →
    ((v3 = (-1) →
      CalI IX d S_X0_startOf [ar 7 v0, ai v5] σ9 (fun r20 σ19 =>
        CalI IX d S_X0_endOf [ar 7 v0, ai v1] σ19 (fun r22 σ21 =>
        ((r20 < r22 →
        J IX M_X0_isReachable (d + 1) 8 [(0, ar 7 v0), (1, ai v1), (2, ar 1 0), (3, ai v5), (4, ai v4), (5, ai (v5 + 1))] [] σ21 Q) ∧
        (¬ r20 < r22 →
        ((v4 = (-1) →
          J IX M_X0_isReachable (d + 1) 8 [(0, ar 7 v0), (1, ai v1), (2, ar 1 0), (3, ai v5), (4, ai v5), (5, ai (v5 + 1))] [] σ21 Q) ∧
          (¬ v4 = (-1) →
          CalI IX d S_X0_startOf [ar 7 v0, ai v5] σ21 (fun r24 σ23 =>
            CalI IX d S_X0_startOf [ar 7 v0, ai v4] σ23 (fun r26 σ25 =>
            ((r26 ≤ r24 →
            J IX M_X0_isReachable (d + 1) 8 [(0, ar 7 v0), (1, ai v1), (2, ar 1 0), (3, ai v5), (4, ai v4), (5, ai (v5 + 1))] [] σ25 Q) ∧
            (¬ r26 ≤ r24 →
            J IX M_X0_isReachable (d + 1) 8 [(0, ar 7 v0), (1, ai v1), (2, ar 1 0), (3, ai v5), (4, ai v5), (5, ai (v5 + 1))] [] σ25 Q))))))))))) ∧
      (¬ v3 = (-1) →
      CalI IX d S_X0_endOf [ar 7 v0, ai v5] σ9 (fun r28 σ27 =>
        CalI IX d S_X0_endOf [ar 7 v0, ai v3] σ27 (fun r30 σ29 =>
        ((r28 ≤ r30 →
        CalI IX d S_X0_startOf [ar 7 v0, ai v5] σ29 (fun r32 σ31 =>
          CalI IX d S_X0_endOf [ar 7 v0, ai v1] σ31 (fun r34 σ33 =>
          ((r32 < r34 →
          J IX M_X0_isReachable (d + 1) 8 [(0, ar 7 v0), (1, ai v1), (2, ar 1 0), (3, ai v3), (4, ai v4), (5, ai (v5 + 1))] [] σ33 Q) ∧
          (¬ r32 < r34 →
          ((v4 = (-1) →
            J IX M_X0_isReachable (d + 1) 8 [(0, ar 7 v0), (1, ai v1), (2, ar 1 0), (3, ai v3), (4, ai v5), (5, ai (v5 + 1))] [] σ33 Q) ∧
            (¬ v4 = (-1) →
            CalI IX d S_X0_startOf [ar 7 v0, ai v5] σ33 (fun r36 σ35 =>
              CalI IX d S_X0_startOf [ar 7 v0, ai v4] σ35 (fun r38 σ37 =>
              ((r38 ≤ r36 →
              J IX M_X0_isReachable (d + 1) 8 [(0, ar 7 v0), (1, ai v1), (2, ar 1 0), (3, ai v3), (4, ai v4), (5, ai (v5 + 1))] [] σ37 Q) ∧
              (¬ r38 ≤ r36 →
              J IX M_X0_isReachable (d + 1) 8 [(0, ar 7 v0), (1, ai v1), (2, ar 1 0), (3, ai v3), (4, ai v5), (5, ai (v5 + 1))] [] σ37 Q))))))))))) ∧
        (¬ r28 ≤ r30 →
        CalI IX d S_X0_startOf [ar 7 v0, ai v5] σ29 (fun r40 σ39 =>
          CalI IX d S_X0_endOf [ar 7 v0, ai v1] σ39 (fun r42 σ41 =>
          ((r40 < r42 →
          J IX M_X0_isReachable (d + 1) 8 [(0, ar 7 v0), (1, ai v1), (2, ar 1 0), (3, ai v5), (4, ai v4), (5, ai (v5 + 1))] [] σ41 Q) ∧
          (¬ r40 < r42 →
          ((v4 = (-1) →
            J IX M_X0_isReachable (d + 1) 8 [(0, ar 7 v0), (1, ai v1), (2, ar 1 0), (3, ai v5), (4, ai v5), (5, ai (v5 + 1))] [] σ41 Q) ∧
            (¬ v4 = (-1) →
            CalI IX d S_X0_startOf [ar 7 v0, ai v5] σ41 (fun r44 σ43 =>
              CalI IX d S_X0_startOf [ar 7 v0, ai v4] σ43 (fun r46 σ45 =>
              ((r46 ≤ r44 →
              J IX M_X0_isReachable (d + 1) 8 [(0, ar 7 v0), (1, ai v1), (2, ar 1 0), (3, ai v5), (4, ai v4), (5, ai (v5 + 1))] [] σ45 Q) ∧
              (¬ r46 ≤ r44 →
              J IX M_X0_isReachable (d + 1) 8 [(0, ar 7 v0), (1, ai v1), (2, ar 1 0), (3, ai v5), (4, ai v5), (5, ai (v5 + 1))] [] σ45 Q))))))))))))))))))))))) :
  J IX M_X0_isReachable (d + 1) 8 [(0, ar 7 v0), (1, ai v1), (2, ar 1 0), (3, ai v3), (4, ai v4), (5, ai v5)] [] σ Q := wp_J oki_X Mok_X0_isReachable (cuts := [(8, [0, 1, 2, 3, 4, 5])]) 400 8 _ [] σ h
set_option maxRecDepth 10000 in
theorem r_X7_meeting_0 {d : Nat} {p0 : Int32} {p1 : Int32} {p2 : Int32} {p3 : Int32} {p4 : Int32} {σ : Mem} {Q : Option AV → Mem → Prop} (h :
  CalI IX d S_X7_areAllHere [ar 0 0, ai p0] σ (fun r2 σ1 =>
  ((r2 = 0 →
  CalI IX d S_X7_refuse [ar 0 0, ai (-1)] σ1 (fun r4 σ3 =>
    Q (some (ai r4)) σ3)) ∧
  (¬ r2 = 0 →
  CalI IX d S_X6_has [ar 1 0, ai p1] σ1 (fun r6 σ5 =>
    ((¬ r6 = 0 →
    CalI IX d S_J6_bitCount_0f7a4 [ai p0] σ5 (fun r8 σ7 =>
      ((r8 < 2 →
      CalI IX d S_X7_refuse [ar 0 0, ai (-6)] σ7 (fun r10 σ9 =>
        Q (some (ai r10)) σ9)) ∧
      (¬ r8 < 2 →
      CalI IX d S_X7_isSpan [ai p2, ai p3] σ7 (fun r12 σ11 =>
        ((r12 = 0 →
        CalI IX d S_X7_refuse [ar 0 0, ai (-6)] σ11 (fun r14 σ13 =>
          Q (some (ai r14)) σ13)) ∧
        (¬ r12 = 0 →
        CalI IX d S_X7_isWeight [ai p4] σ11 (fun r16 σ15 =>
          ((r16 = 0 →
          CalI IX d S_X7_refuse [ar 0 0, ai (-6)] σ15 (fun r18 σ17 =>
            Q (some (ai r18)) σ17)) ∧
          (¬ r16 = 0 →
          (((σ15.1 0 0 16) = 0 →
            (((σ15.1 0 0 10) < 10 →
              vp_in (σ15.1 0 0 10) 10 ∧
                CalV IX d S_X1_arrange [ar 14 (Int32.toNatClampNeg (σ15.1 0 0 10)), ai p0, ai p1, ai p2, ai p3, ai p4] σ15 (fun σ19 =>
                Q (some (ai (((wI σ19 0 0 10 ((σ19.1 0 0 10) + 1)).1 0 0 10) - 1))) (wI σ19 0 0 10 ((σ19.1 0 0 10) + 1)))) ∧
              (¬ (σ15.1 0 0 10) < 10 →
              CalI IX d S_X7_refuse [ar 0 0, ai (-7)] σ15 (fun r21 σ20 =>
                Q (some (ai r21)) σ20)))) ∧
            (¬ (σ15.1 0 0 16) = 0 →
            CalI IX d S_X7_refuse [ar 0 0, ai (-6)] σ15 (fun r23 σ22 =>
              Q (some (ai r23)) σ22))))))))))))) ∧
    (r6 = 0 →
    CalI IX d S_X7_refuse [ar 0 0, ai (-1)] σ5 (fun r25 σ24 =>
      Q (some (ai r25)) σ24)))))))) :
  Cal IX (d + 1) S_X7_meeting [ar 0 0, ai p0, ai p1, ai p2, ai p3, ai p4] σ Q := Cal_of (M := M_X7_meeting) Sok_X7_meeting (by decide +kernel) rfl (wp_J oki_X Mok_X7_meeting (cuts := []) 400 0 _ [] σ h)
set_option maxRecDepth 10000 in
theorem r_X7_gone_0 {d : Nat} {p0 : Int32} {σ : Mem} {Q : Option AV → Mem → Prop} (h :
  CalI IX d S_X7_isHere [ar 0 0, ai p0] σ (fun r2 σ1 =>
  ((¬ r2 = 0 →
  ((¬ (σ1.1 0 0 16) = 0 →
    vp_in p0 20 ∧
      CalV IX d S_X4_release [ar 15 0, ar 12 (Int32.toNatClampNeg p0), ai (σ1.1 0 0 14)] σ1 (fun σ3 =>
      vp_in p0 20 ∧
      CalV IX d S_X3_leave [ar 9 (Int32.toNatClampNeg p0), ai (σ3.1 0 0 14)] σ3 (fun σ4 =>
      CalI IX d S_X7_countHere [ar 0 0] σ4 (fun r6 σ5 =>
      Q (some (ai r6)) σ5)))) ∧
    ((σ1.1 0 0 16) = 0 →
    CalI IX d S_X7_refuse [ar 0 0, ai (-6)] σ1 (fun r8 σ7 =>
      Q (some (ai r8)) σ7)))) ∧
  (r2 = 0 →
  CalI IX d S_X7_refuse [ar 0 0, ai (-1)] σ1 (fun r10 σ9 =>
    Q (some (ai r10)) σ9))))) :
  Cal IX (d + 1) S_X7_gone [ar 0 0, ai p0] σ Q := Cal_of (M := M_X7_gone) Sok_X7_gone (by decide +kernel) rfl (wp_J oki_X Mok_X7_gone (cuts := []) 400 0 _ [] σ h)
set_option maxRecDepth 10000 in
theorem r_X7_replan_0 {d : Nat} {p0 : Int32} {σ : Mem} {Q : Option AV → Mem → Prop} (h :
  vp_in p0 20 ∧
  CalV IX d S_X4_release [ar 15 0, ar 12 (Int32.toNatClampNeg p0), ai ((wI σ 0 0 12 ((σ.1 0 0 12) + 1)).1 0 0 14)] (wI σ 0 0 12 ((σ.1 0 0 12) + 1)) (fun σ1 =>
  CalV IX d S_X2_weigh [ar 17 0, ar 9 (Int32.toNatClampNeg p0)] σ1 (fun σ2 =>
  J IX M_X7_replan (d + 1) 42 [(0, ar 0 0), (1, ai p0), (2, ar 9 (Int32.toNatClampNeg p0)), (3, ai 0)] [] σ2 Q))) :
  Cal IX (d + 1) S_X7_replan [ar 0 0, ai p0] σ Q := Cal_of (M := M_X7_replan) Sok_X7_replan (by decide +kernel) rfl (wp_J oki_X Mok_X7_replan (cuts := [(42, [0, 1, 2, 3])]) 400 0 _ [] σ h)
set_option maxRecDepth 10000 in
theorem r_X7_replan_42 {d : Nat} {v1 : Int32} {v2 : Nat} {v3 : Int32} {σ : Mem} {Q : Option AV → Mem → Prop} (h :
  (((σ.1 0 0 10) ≤ v3 →
  CalI IX d S_X3_freeFrom [ar 9 v2, ai (σ.1 0 0 14)] σ (fun r4 σ3 =>
    CalI IX d S_X3_standsAt [ar 9 v2, ai r4] σ3 (fun r6 σ5 =>
    CalV IX d S_X2_search [ar 17 0, ar 9 v2, ar 1 0, ar 15 0, ai (σ5.1 0 0 13), ai r4] σ5 (fun σ7 =>
    CalI IX d S_X2_write [ar 17 0, ar 9 v2, ar 1 0, ai (σ7.1 0 0 14), ai r4, ai r6] σ7 (fun r9 σ8 =>
    CalV IX d S_X4_take [ar 15 0, ar 12 v2, ai ((wI σ8 9 v2 10 r9).1 0 0 14)] (wI σ8 9 v2 10 r9) (fun σ10 =>
    Q (some (ai (σ10.1 9 v2 10))) σ10)))))) ∧
  (¬ (σ.1 0 0 10) ≤ v3 →
  vp_in v3 10 ∧
    CalI IX d S_X1_isOf [ar 14 (Int32.toNatClampNeg v3), ai v1] σ (fun r12 σ11 =>
    ((r12 = 0 →
    J IX M_X7_replan (d + 1) 42 [(0, ar 0 0), (1, ai v1), (2, ar 9 v2), (3, ai (v3 + 1))] [] σ11 Q) ∧
    (¬ r12 = 0 →
    vp_in v3 10 ∧
      vp_in v3 10 ∧
      vp_in v3 10 ∧
      vp_in v3 10 ∧
      CalV IX d S_X2_claim [ar 17 0, ai (σ11.1 14 (Int32.toNatClampNeg v3) 1), ai (σ11.1 14 (Int32.toNatClampNeg v3) 2), ai (σ11.1 14 (Int32.toNatClampNeg v3) 3), ai (σ11.1 14 (Int32.toNatClampNeg v3) 4)] σ11 (fun σ13 =>
      J IX M_X7_replan (d + 1) 42 [(0, ar 0 0), (1, ai v1), (2, ar 9 v2), (3, ai (v3 + 1))] [] σ13 Q))))))) :
  J IX M_X7_replan (d + 1) 42 [(0, ar 0 0), (1, ai v1), (2, ar 9 v2), (3, ai v3)] [] σ Q := wp_J oki_X Mok_X7_replan (cuts := [(42, [0, 1, 2, 3])]) 400 42 _ [] σ h
set_option maxRecDepth 10000 in
theorem r_X8_meeting_0 {d : Nat} {p0 : Int32} {p1 : Int32} {p2 : Int32} {p3 : Int32} {p4 : Int32} {σ : Mem} {Q : Option AV → Mem → Prop} (h :
  CalI IM d S_X8_areFolk [ar 30 0, ai p0] σ (fun r2 σ1 =>
  ((r2 = 0 →
  CalI IM d S_X8_refuse [ar 30 0, ai (-1)] σ1 (fun r4 σ3 =>
    Q (some (ai r4)) σ3)) ∧
  (¬ r2 = 0 →
  CalI IM d S_X8_isPlace [ar 30 0, ai p1] σ1 (fun r6 σ5 =>
    ((¬ r6 = 0 →
    CalI IM d S_X8_many [ai p0] σ5 (fun r8 σ7 =>
      ((r8 < 2 →
      CalI IM d S_X8_refuse [ar 30 0, ai (-6)] σ7 (fun r10 σ9 =>
        Q (some (ai r10)) σ9)) ∧
      (¬ r8 < 2 →
      CalI IM d S_X8_isSpan [ai p2, ai p3] σ7 (fun r12 σ11 =>
        ((r12 = 0 →
        CalI IM d S_X8_refuse [ar 30 0, ai (-6)] σ11 (fun r14 σ13 =>
          Q (some (ai r14)) σ13)) ∧
        (¬ r12 = 0 →
        CalI IM d S_X8_in [ai p4, ai 1, ai 100] σ11 (fun r16 σ15 =>
          ((r16 = 0 →
          CalI IM d S_X8_refuse [ar 30 0, ai (-6)] σ15 (fun r18 σ17 =>
            Q (some (ai r18)) σ17)) ∧
          (¬ r16 = 0 →
          (((σ15.1 30 0 1) = 0 →
            ((¬ (σ15.1 30 0 25) = 10 →
              vp_in (σ15.1 30 0 25) 10 ∧
                vp_in (4 * ((wI σ15 49 0 (Int32.toNatClampNeg (σ15.1 30 0 25)) p0).1 30 0 25)) 40 ∧
                vp_in ((4 * ((wI (wI σ15 49 0 (Int32.toNatClampNeg (σ15.1 30 0 25)) p0) 50 0 (Int32.toNatClampNeg (4 * ((wI σ15 49 0 (Int32.toNatClampNeg (σ15.1 30 0 25)) p0).1 30 0 25))) p1).1 30 0 25)) + 1) 40 ∧
                vp_in ((4 * ((wI (wI (wI σ15 49 0 (Int32.toNatClampNeg (σ15.1 30 0 25)) p0) 50 0 (Int32.toNatClampNeg (4 * ((wI σ15 49 0 (Int32.toNatClampNeg (σ15.1 30 0 25)) p0).1 30 0 25))) p1) 50 0 (Int32.toNatClampNeg ((4 * ((wI (wI σ15 49 0 (Int32.toNatClampNeg (σ15.1 30 0 25)) p0) 50 0 (Int32.toNatClampNeg (4 * ((wI σ15 49 0 (Int32.toNatClampNeg (σ15.1 30 0 25)) p0).1 30 0 25))) p1).1 30 0 25)) + 1)) p2).1 30 0 25)) + 2) 40 ∧
                vp_in ((4 * ((wI (wI (wI (wI σ15 49 0 (Int32.toNatClampNeg (σ15.1 30 0 25)) p0) 50 0 (Int32.toNatClampNeg (4 * ((wI σ15 49 0 (Int32.toNatClampNeg (σ15.1 30 0 25)) p0).1 30 0 25))) p1) 50 0 (Int32.toNatClampNeg ((4 * ((wI (wI σ15 49 0 (Int32.toNatClampNeg (σ15.1 30 0 25)) p0) 50 0 (Int32.toNatClampNeg (4 * ((wI σ15 49 0 (Int32.toNatClampNeg (σ15.1 30 0 25)) p0).1 30 0 25))) p1).1 30 0 25)) + 1)) p2) 50 0 (Int32.toNatClampNeg ((4 * ((wI (wI (wI σ15 49 0 (Int32.toNatClampNeg (σ15.1 30 0 25)) p0) 50 0 (Int32.toNatClampNeg (4 * ((wI σ15 49 0 (Int32.toNatClampNeg (σ15.1 30 0 25)) p0).1 30 0 25))) p1) 50 0 (Int32.toNatClampNeg ((4 * ((wI (wI σ15 49 0 (Int32.toNatClampNeg (σ15.1 30 0 25)) p0) 50 0 (Int32.toNatClampNeg (4 * ((wI σ15 49 0 (Int32.toNatClampNeg (σ15.1 30 0 25)) p0).1 30 0 25))) p1).1 30 0 25)) + 1)) p2).1 30 0 25)) + 2)) p3).1 30 0 25)) + 3) 40 ∧
                Q (some (ai (((wI (wI (wI (wI (wI (wI σ15 49 0 (Int32.toNatClampNeg (σ15.1 30 0 25)) p0) 50 0 (Int32.toNatClampNeg (4 * ((wI σ15 49 0 (Int32.toNatClampNeg (σ15.1 30 0 25)) p0).1 30 0 25))) p1) 50 0 (Int32.toNatClampNeg ((4 * ((wI (wI σ15 49 0 (Int32.toNatClampNeg (σ15.1 30 0 25)) p0) 50 0 (Int32.toNatClampNeg (4 * ((wI σ15 49 0 (Int32.toNatClampNeg (σ15.1 30 0 25)) p0).1 30 0 25))) p1).1 30 0 25)) + 1)) p2) 50 0 (Int32.toNatClampNeg ((4 * ((wI (wI (wI σ15 49 0 (Int32.toNatClampNeg (σ15.1 30 0 25)) p0) 50 0 (Int32.toNatClampNeg (4 * ((wI σ15 49 0 (Int32.toNatClampNeg (σ15.1 30 0 25)) p0).1 30 0 25))) p1) 50 0 (Int32.toNatClampNeg ((4 * ((wI (wI σ15 49 0 (Int32.toNatClampNeg (σ15.1 30 0 25)) p0) 50 0 (Int32.toNatClampNeg (4 * ((wI σ15 49 0 (Int32.toNatClampNeg (σ15.1 30 0 25)) p0).1 30 0 25))) p1).1 30 0 25)) + 1)) p2).1 30 0 25)) + 2)) p3) 50 0 (Int32.toNatClampNeg ((4 * ((wI (wI (wI (wI σ15 49 0 (Int32.toNatClampNeg (σ15.1 30 0 25)) p0) 50 0 (Int32.toNatClampNeg (4 * ((wI σ15 49 0 (Int32.toNatClampNeg (σ15.1 30 0 25)) p0).1 30 0 25))) p1) 50 0 (Int32.toNatClampNeg ((4 * ((wI (wI σ15 49 0 (Int32.toNatClampNeg (σ15.1 30 0 25)) p0) 50 0 (Int32.toNatClampNeg (4 * ((wI σ15 49 0 (Int32.toNatClampNeg (σ15.1 30 0 25)) p0).1 30 0 25))) p1).1 30 0 25)) + 1)) p2) 50 0 (Int32.toNatClampNeg ((4 * ((wI (wI (wI σ15 49 0 (Int32.toNatClampNeg (σ15.1 30 0 25)) p0) 50 0 (Int32.toNatClampNeg (4 * ((wI σ15 49 0 (Int32.toNatClampNeg (σ15.1 30 0 25)) p0).1 30 0 25))) p1) 50 0 (Int32.toNatClampNeg ((4 * ((wI (wI σ15 49 0 (Int32.toNatClampNeg (σ15.1 30 0 25)) p0) 50 0 (Int32.toNatClampNeg (4 * ((wI σ15 49 0 (Int32.toNatClampNeg (σ15.1 30 0 25)) p0).1 30 0 25))) p1).1 30 0 25)) + 1)) p2).1 30 0 25)) + 2)) p3).1 30 0 25)) + 3)) p4) 30 0 25 (((wI (wI (wI (wI (wI σ15 49 0 (Int32.toNatClampNeg (σ15.1 30 0 25)) p0) 50 0 (Int32.toNatClampNeg (4 * ((wI σ15 49 0 (Int32.toNatClampNeg (σ15.1 30 0 25)) p0).1 30 0 25))) p1) 50 0 (Int32.toNatClampNeg ((4 * ((wI (wI σ15 49 0 (Int32.toNatClampNeg (σ15.1 30 0 25)) p0) 50 0 (Int32.toNatClampNeg (4 * ((wI σ15 49 0 (Int32.toNatClampNeg (σ15.1 30 0 25)) p0).1 30 0 25))) p1).1 30 0 25)) + 1)) p2) 50 0 (Int32.toNatClampNeg ((4 * ((wI (wI (wI σ15 49 0 (Int32.toNatClampNeg (σ15.1 30 0 25)) p0) 50 0 (Int32.toNatClampNeg (4 * ((wI σ15 49 0 (Int32.toNatClampNeg (σ15.1 30 0 25)) p0).1 30 0 25))) p1) 50 0 (Int32.toNatClampNeg ((4 * ((wI (wI σ15 49 0 (Int32.toNatClampNeg (σ15.1 30 0 25)) p0) 50 0 (Int32.toNatClampNeg (4 * ((wI σ15 49 0 (Int32.toNatClampNeg (σ15.1 30 0 25)) p0).1 30 0 25))) p1).1 30 0 25)) + 1)) p2).1 30 0 25)) + 2)) p3) 50 0 (Int32.toNatClampNeg ((4 * ((wI (wI (wI (wI σ15 49 0 (Int32.toNatClampNeg (σ15.1 30 0 25)) p0) 50 0 (Int32.toNatClampNeg (4 * ((wI σ15 49 0 (Int32.toNatClampNeg (σ15.1 30 0 25)) p0).1 30 0 25))) p1) 50 0 (Int32.toNatClampNeg ((4 * ((wI (wI σ15 49 0 (Int32.toNatClampNeg (σ15.1 30 0 25)) p0) 50 0 (Int32.toNatClampNeg (4 * ((wI σ15 49 0 (Int32.toNatClampNeg (σ15.1 30 0 25)) p0).1 30 0 25))) p1).1 30 0 25)) + 1)) p2) 50 0 (Int32.toNatClampNeg ((4 * ((wI (wI (wI σ15 49 0 (Int32.toNatClampNeg (σ15.1 30 0 25)) p0) 50 0 (Int32.toNatClampNeg (4 * ((wI σ15 49 0 (Int32.toNatClampNeg (σ15.1 30 0 25)) p0).1 30 0 25))) p1) 50 0 (Int32.toNatClampNeg ((4 * ((wI (wI σ15 49 0 (Int32.toNatClampNeg (σ15.1 30 0 25)) p0) 50 0 (Int32.toNatClampNeg (4 * ((wI σ15 49 0 (Int32.toNatClampNeg (σ15.1 30 0 25)) p0).1 30 0 25))) p1).1 30 0 25)) + 1)) p2).1 30 0 25)) + 2)) p3).1 30 0 25)) + 3)) p4).1 30 0 25) + 1)).1 30 0 25) - 1))) (wI (wI (wI (wI (wI (wI σ15 49 0 (Int32.toNatClampNeg (σ15.1 30 0 25)) p0) 50 0 (Int32.toNatClampNeg (4 * ((wI σ15 49 0 (Int32.toNatClampNeg (σ15.1 30 0 25)) p0).1 30 0 25))) p1) 50 0 (Int32.toNatClampNeg ((4 * ((wI (wI σ15 49 0 (Int32.toNatClampNeg (σ15.1 30 0 25)) p0) 50 0 (Int32.toNatClampNeg (4 * ((wI σ15 49 0 (Int32.toNatClampNeg (σ15.1 30 0 25)) p0).1 30 0 25))) p1).1 30 0 25)) + 1)) p2) 50 0 (Int32.toNatClampNeg ((4 * ((wI (wI (wI σ15 49 0 (Int32.toNatClampNeg (σ15.1 30 0 25)) p0) 50 0 (Int32.toNatClampNeg (4 * ((wI σ15 49 0 (Int32.toNatClampNeg (σ15.1 30 0 25)) p0).1 30 0 25))) p1) 50 0 (Int32.toNatClampNeg ((4 * ((wI (wI σ15 49 0 (Int32.toNatClampNeg (σ15.1 30 0 25)) p0) 50 0 (Int32.toNatClampNeg (4 * ((wI σ15 49 0 (Int32.toNatClampNeg (σ15.1 30 0 25)) p0).1 30 0 25))) p1).1 30 0 25)) + 1)) p2).1 30 0 25)) + 2)) p3) 50 0 (Int32.toNatClampNeg ((4 * ((wI (wI (wI (wI σ15 49 0 (Int32.toNatClampNeg (σ15.1 30 0 25)) p0) 50 0 (Int32.toNatClampNeg (4 * ((wI σ15 49 0 (Int32.toNatClampNeg (σ15.1 30 0 25)) p0).1 30 0 25))) p1) 50 0 (Int32.toNatClampNeg ((4 * ((wI (wI σ15 49 0 (Int32.toNatClampNeg (σ15.1 30 0 25)) p0) 50 0 (Int32.toNatClampNeg (4 * ((wI σ15 49 0 (Int32.toNatClampNeg (σ15.1 30 0 25)) p0).1 30 0 25))) p1).1 30 0 25)) + 1)) p2) 50 0 (Int32.toNatClampNeg ((4 * ((wI (wI (wI σ15 49 0 (Int32.toNatClampNeg (σ15.1 30 0 25)) p0) 50 0 (Int32.toNatClampNeg (4 * ((wI σ15 49 0 (Int32.toNatClampNeg (σ15.1 30 0 25)) p0).1 30 0 25))) p1) 50 0 (Int32.toNatClampNeg ((4 * ((wI (wI σ15 49 0 (Int32.toNatClampNeg (σ15.1 30 0 25)) p0) 50 0 (Int32.toNatClampNeg (4 * ((wI σ15 49 0 (Int32.toNatClampNeg (σ15.1 30 0 25)) p0).1 30 0 25))) p1).1 30 0 25)) + 1)) p2).1 30 0 25)) + 2)) p3).1 30 0 25)) + 3)) p4) 30 0 25 (((wI (wI (wI (wI (wI σ15 49 0 (Int32.toNatClampNeg (σ15.1 30 0 25)) p0) 50 0 (Int32.toNatClampNeg (4 * ((wI σ15 49 0 (Int32.toNatClampNeg (σ15.1 30 0 25)) p0).1 30 0 25))) p1) 50 0 (Int32.toNatClampNeg ((4 * ((wI (wI σ15 49 0 (Int32.toNatClampNeg (σ15.1 30 0 25)) p0) 50 0 (Int32.toNatClampNeg (4 * ((wI σ15 49 0 (Int32.toNatClampNeg (σ15.1 30 0 25)) p0).1 30 0 25))) p1).1 30 0 25)) + 1)) p2) 50 0 (Int32.toNatClampNeg ((4 * ((wI (wI (wI σ15 49 0 (Int32.toNatClampNeg (σ15.1 30 0 25)) p0) 50 0 (Int32.toNatClampNeg (4 * ((wI σ15 49 0 (Int32.toNatClampNeg (σ15.1 30 0 25)) p0).1 30 0 25))) p1) 50 0 (Int32.toNatClampNeg ((4 * ((wI (wI σ15 49 0 (Int32.toNatClampNeg (σ15.1 30 0 25)) p0) 50 0 (Int32.toNatClampNeg (4 * ((wI σ15 49 0 (Int32.toNatClampNeg (σ15.1 30 0 25)) p0).1 30 0 25))) p1).1 30 0 25)) + 1)) p2).1 30 0 25)) + 2)) p3) 50 0 (Int32.toNatClampNeg ((4 * ((wI (wI (wI (wI σ15 49 0 (Int32.toNatClampNeg (σ15.1 30 0 25)) p0) 50 0 (Int32.toNatClampNeg (4 * ((wI σ15 49 0 (Int32.toNatClampNeg (σ15.1 30 0 25)) p0).1 30 0 25))) p1) 50 0 (Int32.toNatClampNeg ((4 * ((wI (wI σ15 49 0 (Int32.toNatClampNeg (σ15.1 30 0 25)) p0) 50 0 (Int32.toNatClampNeg (4 * ((wI σ15 49 0 (Int32.toNatClampNeg (σ15.1 30 0 25)) p0).1 30 0 25))) p1).1 30 0 25)) + 1)) p2) 50 0 (Int32.toNatClampNeg ((4 * ((wI (wI (wI σ15 49 0 (Int32.toNatClampNeg (σ15.1 30 0 25)) p0) 50 0 (Int32.toNatClampNeg (4 * ((wI σ15 49 0 (Int32.toNatClampNeg (σ15.1 30 0 25)) p0).1 30 0 25))) p1) 50 0 (Int32.toNatClampNeg ((4 * ((wI (wI σ15 49 0 (Int32.toNatClampNeg (σ15.1 30 0 25)) p0) 50 0 (Int32.toNatClampNeg (4 * ((wI σ15 49 0 (Int32.toNatClampNeg (σ15.1 30 0 25)) p0).1 30 0 25))) p1).1 30 0 25)) + 1)) p2).1 30 0 25)) + 2)) p3).1 30 0 25)) + 3)) p4).1 30 0 25) + 1))) ∧
              ((σ15.1 30 0 25) = 10 →
              CalI IM d S_X8_refuse [ar 30 0, ai (-7)] σ15 (fun r20 σ19 =>
                Q (some (ai r20)) σ19)))) ∧
            (¬ (σ15.1 30 0 1) = 0 →
            CalI IM d S_X8_refuse [ar 30 0, ai (-6)] σ15 (fun r22 σ21 =>
              Q (some (ai r22)) σ21))))))))))))) ∧
    (r6 = 0 →
    CalI IM d S_X8_refuse [ar 30 0, ai (-1)] σ5 (fun r24 σ23 =>
      Q (some (ai r24)) σ23)))))))) :
  Cal IM (d + 1) S_X8_meeting [ar 30 0, ai p0, ai p1, ai p2, ai p3, ai p4] σ Q := fun z => absurd offM z
set_option maxRecDepth 10000 in
theorem r_X8_findFault_0 {d : Nat} {p0 : Int32} {σ : Mem} {Q : Option AV → Mem → Prop} (h :
  vp_in p0 8 ∧
  ¬ (4 : Int32) = 0 ∧
  ((¬ (((wI (wI σ 30 0 39 0) 30 0 40 (-1)).1 58 0 (Int32.toNatClampNeg p0)) - ((wI (wI σ 30 0 39 0) 30 0 40 (-1)).1 58 0 (Int32.toNatClampNeg p0)) / 4 * 4) = 0 →
  J IM M_X8_findFault (d + 1) 44 [(0, ar 30 0), (1, ai p0), (2, ai 0)] [] (wI (wI (wI (wI σ 30 0 39 0) 30 0 40 (-1)) 30 0 39 1) 30 0 40 0) Q) ∧
  ((((wI (wI σ 30 0 39 0) 30 0 40 (-1)).1 58 0 (Int32.toNatClampNeg p0)) - ((wI (wI σ 30 0 39 0) 30 0 40 (-1)).1 58 0 (Int32.toNatClampNeg p0)) / 4 * 4) = 0 →
  vp_in p0 8 ∧
    ((((wI (wI σ 30 0 39 0) 30 0 40 (-1)).1 58 0 (Int32.toNatClampNeg p0)) ≤ 48 →
    J IM M_X8_findFault (d + 1) 44 [(0, ar 30 0), (1, ai p0), (2, ai 0)] [] (wI (wI σ 30 0 39 0) 30 0 40 (-1)) Q) ∧
    (¬ ((wI (wI σ 30 0 39 0) 30 0 40 (-1)).1 58 0 (Int32.toNatClampNeg p0)) ≤ 48 →
    J IM M_X8_findFault (d + 1) 44 [(0, ar 30 0), (1, ai p0), (2, ai 0)] [] (wI (wI (wI (wI σ 30 0 39 0) 30 0 40 (-1)) 30 0 39 1) 30 0 40 0) Q))))) :
  Cal IM (d + 1) S_X8_findFault [ar 30 0, ai p0] σ Q := fun z => absurd offM z
set_option maxRecDepth 10000 in
theorem r_X8_findFault_44 {d : Nat} {v1 : Int32} {v2 : Int32} {σ : Mem} {Q : Option AV → Mem → Prop} (h :
  ((¬ (σ.1 30 0 39) = 0 →
  Q none σ) ∧
  ((σ.1 30 0 39) = 0 →
  vp_in v1 8 ∧
    ¬ (4 : Int32) = 0 ∧
    ((((σ.1 58 0 (Int32.toNatClampNeg v1)) / 4) ≤ v2 →
    Q none σ) ∧
    (¬ ((σ.1 58 0 (Int32.toNatClampNeg v1)) / 4) ≤ v2 →
    CalI IM d S_X8_faultOf [ar 30 0, ai v1, ai v2] σ (fun r2 σ1 =>
      ((¬ ((wI σ1 30 0 39 r2).1 30 0 39) = 0 →
      J IM M_X8_findFault (d + 1) 44 [(0, ar 30 0), (1, ai v1), (2, ai (v2 + 1))] [] (wI (wI σ1 30 0 39 r2) 30 0 40 v2) Q) ∧
      (((wI σ1 30 0 39 r2).1 30 0 39) = 0 →
      J IM M_X8_findFault (d + 1) 44 [(0, ar 30 0), (1, ai v1), (2, ai (v2 + 1))] [] (wI (wI σ1 30 0 39 r2) 30 0 40 (-1)) Q)))))))) :
  J IM M_X8_findFault (d + 1) 44 [(0, ar 30 0), (1, ai v1), (2, ai v2)] [] σ Q := fun z => absurd offM z
set_option maxRecDepth 10000 in
theorem r_X8_planned_0 {d : Nat} {p0 : Int32} {σ : Mem} {Q : Option AV → Mem → Prop} (h :
  vp_in p0 20 ∧
  ((¬ ((wI σ 30 0 4 ((σ.1 30 0 4) + 1)).1 30 0 2) = 0 →
  vp_in (((48 * p0) + ((wI σ 30 0 4 ((σ.1 30 0 4) + 1)).1 30 0 2)) - 1) 960 ∧
    CalV IM d S_X8_leaves [ar 30 0, ai p0, ai ((wI σ 30 0 4 ((σ.1 30 0 4) + 1)).1 30 0 2)] (wI σ 30 0 4 ((σ.1 30 0 4) + 1)) (fun σ1 =>
    CalV IM d S_X8_findClaims [ar 30 0, ai p0] σ1 (fun σ2 =>
    ((((wI σ 30 0 4 ((σ.1 30 0 4) + 1)).1 46 0 (Int32.toNatClampNeg (((48 * p0) + ((wI σ 30 0 4 ((σ.1 30 0 4) + 1)).1 30 0 2)) - 1))) < 200 →
    ((((wI σ 30 0 4 ((σ.1 30 0 4) + 1)).1 46 0 (Int32.toNatClampNeg (((48 * p0) + ((wI σ 30 0 4 ((σ.1 30 0 4) + 1)).1 30 0 2)) - 1))) = (-1) →
      J IM M_X8_planned (d + 1) 201 [(0, ar 30 0), (1, ai p0), (2, ai ((wI σ 30 0 4 ((σ.1 30 0 4) + 1)).1 30 0 2)), (3, ai ((wI σ 30 0 4 ((σ.1 30 0 4) + 1)).1 38 0 (Int32.toNatClampNeg p0))), (4, ai 0), (6, ai 0)] [] σ2 Q) ∧
      (¬ ((wI σ 30 0 4 ((σ.1 30 0 4) + 1)).1 46 0 (Int32.toNatClampNeg (((48 * p0) + ((wI σ 30 0 4 ((σ.1 30 0 4) + 1)).1 30 0 2)) - 1))) = (-1) →
      ¬ (100 : Int32) = 0 ∧
        J IM M_X8_planned (d + 1) 201 [(0, ar 30 0), (1, ai p0), (2, ai ((wI σ 30 0 4 ((σ.1 30 0 4) + 1)).1 30 0 2)), (3, ai (((wI σ 30 0 4 ((σ.1 30 0 4) + 1)).1 46 0 (Int32.toNatClampNeg (((48 * p0) + ((wI σ 30 0 4 ((σ.1 30 0 4) + 1)).1 30 0 2)) - 1))) - ((wI σ 30 0 4 ((σ.1 30 0 4) + 1)).1 46 0 (Int32.toNatClampNeg (((48 * p0) + ((wI σ 30 0 4 ((σ.1 30 0 4) + 1)).1 30 0 2)) - 1))) / 100 * 100)), (4, ai 0), (6, ai 0)] [] σ2 Q))) ∧
    (¬ ((wI σ 30 0 4 ((σ.1 30 0 4) + 1)).1 46 0 (Int32.toNatClampNeg (((48 * p0) + ((wI σ 30 0 4 ((σ.1 30 0 4) + 1)).1 30 0 2)) - 1))) < 200 →
    J IM M_X8_planned (d + 1) 84 [(0, ar 30 0), (1, ai p0), (2, ai ((wI σ 30 0 4 ((σ.1 30 0 4) + 1)).1 30 0 2)), (5, ai ((wI σ 30 0 4 ((σ.1 30 0 4) + 1)).1 46 0 (Int32.toNatClampNeg (((48 * p0) + ((wI σ 30 0 4 ((σ.1 30 0 4) + 1)).1 30 0 2)) - 1)))), (6, ai ((σ2.1 30 0 2) - 1))] [] σ2 Q))))) ∧
  (((wI σ 30 0 4 ((σ.1 30 0 4) + 1)).1 30 0 2) = 0 →
  CalV IM d S_X8_leaves [ar 30 0, ai p0, ai ((wI σ 30 0 4 ((σ.1 30 0 4) + 1)).1 30 0 2)] (wI σ 30 0 4 ((σ.1 30 0 4) + 1)) (fun σ3 =>
    CalV IM d S_X8_findClaims [ar 30 0, ai p0] σ3 (fun σ4 =>
    ((((-1) : Int32) < 200 →
    ((((-1) : Int32) = (-1) →
      J IM M_X8_planned (d + 1) 201 [(0, ar 30 0), (1, ai p0), (2, ai ((wI σ 30 0 4 ((σ.1 30 0 4) + 1)).1 30 0 2)), (3, ai ((wI σ 30 0 4 ((σ.1 30 0 4) + 1)).1 38 0 (Int32.toNatClampNeg p0))), (4, ai 0), (6, ai 0)] [] σ4 Q) ∧
      (¬ ((-1) : Int32) = (-1) →
      ¬ (100 : Int32) = 0 ∧
        J IM M_X8_planned (d + 1) 201 [(0, ar 30 0), (1, ai p0), (2, ai ((wI σ 30 0 4 ((σ.1 30 0 4) + 1)).1 30 0 2)), (3, ai ((-1) - (-1) / 100 * 100)), (4, ai 0), (6, ai 0)] [] σ4 Q))) ∧
    (¬ ((-1) : Int32) < 200 →
    J IM M_X8_planned (d + 1) 84 [(0, ar 30 0), (1, ai p0), (2, ai ((wI σ 30 0 4 ((σ.1 30 0 4) + 1)).1 30 0 2)), (5, ai (-1)), (6, ai ((σ4.1 30 0 2) - 1))] [] σ4 Q))))))) :
  Cal IM (d + 1) S_X8_planned [ar 30 0, ai p0] σ Q := fun z => absurd offM z
set_option maxRecDepth 10000 in
theorem r_X8_planned_84 {d : Nat} {v1 : Int32} {v2 : Int32} {v5 : Int32} {v6 : Int32} {σ : Mem} {Q : Option AV → Mem → Prop} (h :
  ((v6 ≤ 0 →
  ¬ (12 : Int32) = 0 ∧
    vp_in (v5 - 200) 144 ∧
    CalI IM d S_X8_wayCost [ar 30 0, ai (σ.1 30 0 2), ai (v6 + (σ.1 36 0 (Int32.toNatClampNeg (v5 - 200))))] σ (fun r6 σ5 =>
    J IM M_X8_planned (d + 1) 152 [(0, ar 30 0), (1, ai v1), (2, ai v2), (3, ai ((v5 - 200) - (v5 - 200) / 12 * 12)), (4, ai r6), (5, ai v5), (7, ai (v6 + (σ.1 36 0 (Int32.toNatClampNeg (v5 - 200)))))] [] σ5 Q)) ∧
  (¬ v6 ≤ 0 →
  vp_in (((48 * v1) + v6) - 1) 960 ∧
    ((¬ (σ.1 46 0 (Int32.toNatClampNeg (((48 * v1) + v6) - 1))) = v5 →
    ¬ (12 : Int32) = 0 ∧
      vp_in (v5 - 200) 144 ∧
      CalI IM d S_X8_wayCost [ar 30 0, ai (σ.1 30 0 2), ai (v6 + (σ.1 36 0 (Int32.toNatClampNeg (v5 - 200))))] σ (fun r8 σ7 =>
      J IM M_X8_planned (d + 1) 152 [(0, ar 30 0), (1, ai v1), (2, ai v2), (3, ai ((v5 - 200) - (v5 - 200) / 12 * 12)), (4, ai r8), (5, ai v5), (7, ai (v6 + (σ.1 36 0 (Int32.toNatClampNeg (v5 - 200)))))] [] σ7 Q)) ∧
    ((σ.1 46 0 (Int32.toNatClampNeg (((48 * v1) + v6) - 1))) = v5 →
    J IM M_X8_planned (d + 1) 84 [(0, ar 30 0), (1, ai v1), (2, ai v2), (5, ai v5), (6, ai (v6 + (-1)))] [] σ Q))))) :
  J IM M_X8_planned (d + 1) 84 [(0, ar 30 0), (1, ai v1), (2, ai v2), (5, ai v5), (6, ai v6)] [] σ Q := fun z => absurd offM z
set_option maxRecDepth 10000 in
theorem r_X8_planned_152 {d : Nat} {v1 : Int32} {v2 : Int32} {v3 : Int32} {v4 : Int32} {v5 : Int32} {v7 : Int32} {σ : Mem} {Q : Option AV → Mem → Prop} (h :
  ((v7 ≤ v2 →
  J IM M_X8_planned (d + 1) 201 [(0, ar 30 0), (1, ai v1), (2, ai v2), (3, ai v3), (4, ai v4), (6, ai 0)] [] σ Q) ∧
  (¬ v7 ≤ v2 →
  ((48 ≤ v2 →
    J IM M_X8_planned (d + 1) 201 [(0, ar 30 0), (1, ai v1), (2, ai v2), (3, ai v3), (4, ai v4), (6, ai 0)] [] σ Q) ∧
    (¬ 48 ≤ v2 →
    vp_in ((48 * v1) + v2) 960 ∧
      J IM M_X8_planned (d + 1) 152 [(0, ar 30 0), (1, ai v1), (2, ai (v2 + 1)), (3, ai v3), (4, ai v4), (5, ai v5), (7, ai v7)] [] (wI σ 46 0 (Int32.toNatClampNeg ((48 * v1) + v2)) v5) Q))))) :
  J IM M_X8_planned (d + 1) 152 [(0, ar 30 0), (1, ai v1), (2, ai v2), (3, ai v3), (4, ai v4), (5, ai v5), (7, ai v7)] [] σ Q := fun z => absurd offM z
set_option maxRecDepth 10000 in
theorem r_X8_planned_201 {d : Nat} {v1 : Int32} {v2 : Int32} {v3 : Int32} {v4 : Int32} {v6 : Int32} {σ : Mem} {Q : Option AV → Mem → Prop} (h :
  ((12 ≤ v6 →
  J IM M_X8_planned (d + 1) 230 [(0, ar 30 0), (1, ai v1), (2, ai v2), (3, ai v3), (4, ai v4), (6, ai 47)] [] σ Q) ∧
  (¬ 12 ≤ v6 →
  vp_in (576 + v6) 588 ∧
    J IM M_X8_planned (d + 1) 201 [(0, ar 30 0), (1, ai v1), (2, ai v2), (3, ai v3), (4, ai v4), (6, ai (v6 + 1))] [] (wI σ 63 0 (Int32.toNatClampNeg (576 + v6)) 0) Q))) :
  J IM M_X8_planned (d + 1) 201 [(0, ar 30 0), (1, ai v1), (2, ai v2), (3, ai v3), (4, ai v4), (6, ai v6)] [] σ Q := fun z => absurd offM z
set_option maxRecDepth 10000 in
theorem r_X8_planned_230 {d : Nat} {v1 : Int32} {v2 : Int32} {v3 : Int32} {v4 : Int32} {v6 : Int32} {σ : Mem} {Q : Option AV → Mem → Prop} (h :
  ((v6 < v2 →
  ((48 ≤ v2 →
    CalV IM d S_X8_walks [ar 30 0, ai v1, ai v2, ai v3] σ (fun σ9 =>
      vp_in v1 20 ∧
      Q (some (ai (v4 + 0))) (wI σ9 47 0 (Int32.toNatClampNeg v1) (v4 + 0)))) ∧
    (¬ 48 ≤ v2 →
    vp_in ((12 * v2) + v3) 588 ∧
      CalV IM d S_X8_walks [ar 30 0, ai v1, ai v2, ai v3] σ (fun σ10 =>
      vp_in v1 20 ∧
      Q (some (ai (v4 + (σ.1 63 0 (Int32.toNatClampNeg ((12 * v2) + v3)))))) (wI σ10 47 0 (Int32.toNatClampNeg v1) (v4 + (σ.1 63 0 (Int32.toNatClampNeg ((12 * v2) + v3))))))))) ∧
  (¬ v6 < v2 →
  J IM M_X8_planned (d + 1) 239 [(0, ar 30 0), (1, ai v1), (2, ai v2), (3, ai v3), (4, ai v4), (6, ai v6), (7, ai 0)] [] σ Q))) :
  J IM M_X8_planned (d + 1) 230 [(0, ar 30 0), (1, ai v1), (2, ai v2), (3, ai v3), (4, ai v4), (6, ai v6)] [] σ Q := fun z => absurd offM z
set_option maxRecDepth 10000 in
theorem r_X8_planned_239 {d : Nat} {v1 : Int32} {v2 : Int32} {v3 : Int32} {v4 : Int32} {v6 : Int32} {v7 : Int32} {σ : Mem} {Q : Option AV → Mem → Prop} (h :
  (((σ.1 30 0 5) ≤ v7 →
  J IM M_X8_planned (d + 1) 230 [(0, ar 30 0), (1, ai v1), (2, ai v2), (3, ai v3), (4, ai v4), (6, ai (v6 + (-1)))] [] σ Q) ∧
  (¬ (σ.1 30 0 5) ≤ v7 →
  CalV IM d S_X8_chooses [ar 30 0, ai v1, ai v6, ai v7] σ (fun σ11 =>
    J IM M_X8_planned (d + 1) 239 [(0, ar 30 0), (1, ai v1), (2, ai v2), (3, ai v3), (4, ai v4), (6, ai v6), (7, ai (v7 + 1))] [] σ11 Q)))) :
  J IM M_X8_planned (d + 1) 239 [(0, ar 30 0), (1, ai v1), (2, ai v2), (3, ai v3), (4, ai v4), (6, ai v6), (7, ai v7)] [] σ Q := fun z => absurd offM z
set_option maxRecDepth 10000 in
theorem r_X0_faultOf_0 {d : Nat} {z : Nat} {p1 : Int32} {σ : Mem} {Q : Option AV → Mem → Prop} (h :
  CalI IX d S_X0_placeOf [ar 7 z, ai p1] σ (fun r2 σ1 =>
  CalI IX d S_X6_has [ar 1 0, ai r2] σ1 (fun r4 σ3 =>
  ((¬ r4 = 0 →
  CalI IX d S_X0_startOf [ar 7 z, ai p1] σ3 (fun r6 σ5 =>
    CalI IX d S_X0_endOf [ar 7 z, ai p1] σ5 (fun r8 σ7 =>
    CalI IX d S_X7_isSpan [ai r6, ai r8] σ7 (fun r10 σ9 =>
    ((¬ r10 = 0 →
    CalI IX d S_X5_asInt [ar 7 z, ai ((p1 * 4) + 3)] σ9 (fun r12 σ11 =>
      CalI IX d S_X7_isWeight [ai r12] σ11 (fun r14 σ13 =>
      ((¬ r14 = 0 →
      CalI IX d S_X0_meetsEarlier [ar 7 z, ai p1] σ13 (fun r16 σ15 =>
        ((r16 = 0 →
        CalI IX d S_X0_isReachable [ar 7 z, ai p1, ar 1 0] σ15 (fun r18 σ17 =>
          ((r18 = 0 →
          Q (some (ai 6)) σ17) ∧
          (¬ r18 = 0 →
          Q (some (ai 0)) σ17)))) ∧
        (¬ r16 = 0 →
        Q (some (ai 5)) σ15)))) ∧
      (r14 = 0 →
      Q (some (ai 4)) σ13))))) ∧
    (r10 = 0 →
    Q (some (ai 3)) σ9)))))) ∧
  (r4 = 0 →
  Q (some (ai 2)) σ3))))) :
  Cal IX (d + 1) S_X0_faultOf [ar 7 z, ai p1, ar 1 0] σ Q := Cal_of (M := M_X0_faultOf) Sok_X0_faultOf (by decide +kernel) rfl (wp_J oki_X Mok_X0_faultOf (cuts := []) 400 0 _ [] σ h)
set_option maxRecDepth 10000 in
theorem r_X7_bend_0 {d : Nat} {p0 : Int32} {p1 : Int32} {p2 : Int32} {p3 : Int32} {σ : Mem} {Q : Option AV → Mem → Prop} (h :
  CalI IX d S_X7_isHere [ar 0 0, ai p0] σ (fun r2 σ1 =>
  ((r2 = 0 →
  CalI IX d S_X7_refuse [ar 0 0, ai (-1)] σ1 (fun r4 σ3 =>
    Q (some (ai r4)) σ3)) ∧
  (¬ r2 = 0 →
  CalI IX d S_X6_has [ar 1 0, ai p1] σ1 (fun r6 σ5 =>
    ((¬ r6 = 0 →
    CalI IX d S_X7_isSpan [ai p2, ai p3] σ5 (fun r8 σ7 =>
      ((r8 = 0 →
      CalI IX d S_X7_refuse [ar 0 0, ai (-6)] σ7 (fun r10 σ9 =>
        Q (some (ai r10)) σ9)) ∧
      (¬ r8 = 0 →
      ((¬ (σ7.1 0 0 16) = 0 →
        vp_in p0 20 ∧
          CalV IX d S_X3_takeBend [ar 9 (Int32.toNatClampNeg p0), ai p1, ai p2, ai p3] σ7 (fun σ11 =>
          CalI IX d S_X7_replan [ar 0 0, ai p0] σ11 (fun r13 σ12 =>
          Q (some (ai r13)) σ12))) ∧
        ((σ7.1 0 0 16) = 0 →
        CalI IX d S_X7_refuse [ar 0 0, ai (-6)] σ7 (fun r15 σ14 =>
          Q (some (ai r15)) σ14))))))) ∧
    (r6 = 0 →
    CalI IX d S_X7_refuse [ar 0 0, ai (-1)] σ5 (fun r17 σ16 =>
      Q (some (ai r17)) σ16)))))))) :
  Cal IX (d + 1) S_X7_bend [ar 0 0, ai p0, ai p1, ai p2, ai p3] σ Q := Cal_of (M := M_X7_bend) Sok_X7_bend (by decide +kernel) rfl (wp_J oki_X Mok_X7_bend (cuts := []) 400 0 _ [] σ h)
set_option maxRecDepth 10000 in
theorem r_X7_again_0 {d : Nat} {p0 : Int32} {σ : Mem} {Q : Option AV → Mem → Prop} (h :
  CalI IX d S_X7_isHere [ar 0 0, ai p0] σ (fun r2 σ1 =>
  ((¬ r2 = 0 →
  ((¬ (σ1.1 0 0 16) = 0 →
    CalI IX d S_X7_replan [ar 0 0, ai p0] σ1 (fun r4 σ3 =>
      Q (some (ai r4)) σ3)) ∧
    ((σ1.1 0 0 16) = 0 →
    CalI IX d S_X7_refuse [ar 0 0, ai (-6)] σ1 (fun r6 σ5 =>
      Q (some (ai r6)) σ5)))) ∧
  (r2 = 0 →
  CalI IX d S_X7_refuse [ar 0 0, ai (-1)] σ1 (fun r8 σ7 =>
    Q (some (ai r8)) σ7))))) :
  Cal IX (d + 1) S_X7_again [ar 0 0, ai p0] σ Q := Cal_of (M := M_X7_again) Sok_X7_again (by decide +kernel) rfl (wp_J oki_X Mok_X7_again (cuts := []) 400 0 _ [] σ h)
set_option maxRecDepth 10000 in
theorem r_X7_beginDay_0 {d : Nat}  {σ : Mem} {Q : Option AV → Mem → Prop} (h :
  CalV IX d S_X4_clear [ar 15 0] (wI (wI σ 0 0 14 0) 0 0 13 0) (fun σ1 =>
  J IX M_X7_beginDay (d + 1) 19 [(0, ar 0 0), (1, ai 0)] [] σ1 Q)) :
  Cal IX (d + 1) S_X7_beginDay [ar 0 0] σ Q := Cal_of (M := M_X7_beginDay) Sok_X7_beginDay (by decide +kernel) rfl (wp_J oki_X Mok_X7_beginDay (cuts := [(19, [0, 1]), (44, [0, 1]), (71, [0, 1, 2])]) 400 0 _ [] σ h)
set_option maxRecDepth 10000 in
theorem r_X7_beginDay_19 {d : Nat} {v1 : Int32} {σ : Mem} {Q : Option AV → Mem → Prop} (h :
  (((σ.1 0 0 10) ≤ v1 →
  J IX M_X7_beginDay (d + 1) 44 [(0, ar 0 0), (1, ai 0)] [] σ Q) ∧
  (¬ (σ.1 0 0 10) ≤ v1 →
  vp_in v1 10 ∧
    CalV IX d S_X1_beginDay [ar 14 (Int32.toNatClampNeg v1)] σ (fun σ2 =>
    J IX M_X7_beginDay (d + 1) 19 [(0, ar 0 0), (1, ai (v1 + 1))] [] σ2 Q)))) :
  J IX M_X7_beginDay (d + 1) 19 [(0, ar 0 0), (1, ai v1)] [] σ Q := wp_J oki_X Mok_X7_beginDay (cuts := [(19, [0, 1]), (44, [0, 1]), (71, [0, 1, 2])]) 400 19 _ [] σ h
set_option maxRecDepth 10000 in
theorem r_X7_beginDay_44 {d : Nat} {v1 : Int32} {σ : Mem} {Q : Option AV → Mem → Prop} (h :
  (((σ.1 0 0 9) ≤ v1 →
  J IX M_X7_beginDay (d + 1) 71 [(0, ar 0 0), (1, ai 0), (2, ai 0)] [] σ Q) ∧
  (¬ (σ.1 0 0 9) ≤ v1 →
  vp_in v1 20 ∧
    CalV IX d S_X3_beginDay [ar 9 (Int32.toNatClampNeg v1)] σ (fun σ3 =>
    J IX M_X7_beginDay (d + 1) 44 [(0, ar 0 0), (1, ai (v1 + 1))] [] σ3 Q)))) :
  J IX M_X7_beginDay (d + 1) 44 [(0, ar 0 0), (1, ai v1)] [] σ Q := wp_J oki_X Mok_X7_beginDay (cuts := [(19, [0, 1]), (44, [0, 1]), (71, [0, 1, 2])]) 400 44 _ [] σ h
set_option maxRecDepth 10000 in
theorem r_X7_beginDay_71 {d : Nat} {v1 : Int32} {v2 : Int32} {σ : Mem} {Q : Option AV → Mem → Prop} (h :
  (((σ.1 0 0 9) ≤ v2 →
  Q (some (ai v1)) σ) ∧
  (¬ (σ.1 0 0 9) ≤ v2 →
  vp_in v2 20 ∧
    ((¬ (σ.1 9 (Int32.toNatClampNeg v2) 13) = 0 →
    J IX M_X7_beginDay (d + 1) 71 [(0, ar 0 0), (1, ai v1), (2, ai (v2 + 1))] [] σ Q) ∧
    ((σ.1 9 (Int32.toNatClampNeg v2) 13) = 0 →
    CalI IX d S_X7_replan [ar 0 0, ai v2] σ (fun r5 σ4 =>
      J IX M_X7_beginDay (d + 1) 71 [(0, ar 0 0), (1, ai (v1 + 1)), (2, ai (v2 + 1))] [] σ4 Q)))))) :
  J IX M_X7_beginDay (d + 1) 71 [(0, ar 0 0), (1, ai v1), (2, ai v2)] [] σ Q := wp_J oki_X Mok_X7_beginDay (cuts := [(19, [0, 1]), (44, [0, 1]), (71, [0, 1, 2])]) 400 71 _ [] σ h
set_option maxRecDepth 10000 in
theorem r_X7_replanThoseDueIn_0 {d : Nat} {p0 : Int32} {σ : Mem} {Q : Option AV → Mem → Prop} (h :
  J IX M_X7_replanThoseDueIn (d + 1) 4 [(0, ar 0 0), (1, ai p0), (2, ai 0), (3, ai 0)] [] σ Q) :
  Cal IX (d + 1) S_X7_replanThoseDueIn [ar 0 0, ai p0] σ Q := Cal_of (M := M_X7_replanThoseDueIn) Sok_X7_replanThoseDueIn (by decide +kernel) rfl (wp_J oki_X Mok_X7_replanThoseDueIn (cuts := [(4, [0, 1, 2, 3])]) 400 0 _ [] σ h)
set_option maxRecDepth 10000 in
theorem r_X7_replanThoseDueIn_4 {d : Nat} {v1 : Int32} {v2 : Int32} {v3 : Int32} {σ : Mem} {Q : Option AV → Mem → Prop} (h :
  (((σ.1 0 0 9) ≤ v3 →
  Q (some (ai v2)) σ) ∧
  (¬ (σ.1 0 0 9) ≤ v3 →
  vp_in v3 20 ∧
    CalI IX d S_X3_isDueIn [ar 9 (Int32.toNatClampNeg v3), ai v1, ai (σ.1 0 0 14)] σ (fun r2 σ1 =>
    ((r2 = 0 →
    J IX M_X7_replanThoseDueIn (d + 1) 4 [(0, ar 0 0), (1, ai v1), (2, ai v2), (3, ai (v3 + 1))] [] σ1 Q) ∧
    (¬ r2 = 0 →
    CalI IX d S_X7_replan [ar 0 0, ai v3] σ1 (fun r4 σ3 =>
      J IX M_X7_replanThoseDueIn (d + 1) 4 [(0, ar 0 0), (1, ai v1), (2, ai (v2 + 1)), (3, ai (v3 + 1))] [] σ3 Q))))))) :
  J IX M_X7_replanThoseDueIn (d + 1) 4 [(0, ar 0 0), (1, ai v1), (2, ai v2), (3, ai v3)] [] σ Q := wp_J oki_X Mok_X7_replanThoseDueIn (cuts := [(4, [0, 1, 2, 3])]) 400 4 _ [] σ h
set_option maxRecDepth 10000 in
theorem r_X8_duties_0 {d : Nat} {p0 : Int32} {p1 : Int32} {σ : Mem} {Q : Option AV → Mem → Prop} (h :
  CalI IM d S_X8_isFolk [ar 30 0, ai p0] σ (fun r2 σ1 =>
  ((r2 = 0 →
  CalI IM d S_X8_refuse [ar 30 0, ai (-1)] σ1 (fun r4 σ3 =>
    Q (some (ai r4)) σ3)) ∧
  (¬ r2 = 0 →
  CalI IM d S_X8_isShelf [ai p1] σ1 (fun r6 σ5 =>
    ((¬ r6 = 0 →
    CalI IM d S_X8_isRow [ar 30 0, ai p1] σ5 (fun r8 σ7 =>
      ((¬ r8 = 0 →
      CalV IM d S_X8_findFault [ar 30 0, ai p1] σ7 (fun σ9 =>
        (((σ9.1 30 0 39) = 0 →
        vp_in p1 8 ∧
          ¬ (4 : Int32) = 0 ∧
          vp_in p0 20 ∧
          J IM M_X8_duties (d + 1) 84 [(0, ar 30 0), (1, ai p0), (2, ai p1), (3, ai 0)] [] (wI σ9 41 0 (Int32.toNatClampNeg p0) ((σ9.1 58 0 (Int32.toNatClampNeg p1)) / 4)) Q) ∧
        (¬ (σ9.1 30 0 39) = 0 →
        CalI IM d S_X8_refuse [ar 30 0, ai (-6)] σ9 (fun r11 σ10 =>
          Q (some (ai r11)) σ10))))) ∧
      (r8 = 0 →
      CalI IM d S_X8_holdsFolk [ar 30 0, ai p1] σ7 (fun r13 σ12 =>
        ((r13 = 0 →
        CalI IM d S_X8_refuse [ar 30 0, ai (-3)] σ12 (fun r15 σ14 =>
          Q (some (ai r15)) σ14)) ∧
        (¬ r13 = 0 →
        CalI IM d S_X8_refuse [ar 30 0, ai (-2)] σ12 (fun r17 σ16 =>
          Q (some (ai r17)) σ16)))))))) ∧
    (r6 = 0 →
    CalI IM d S_X8_refuse [ar 30 0, ai (-1)] σ5 (fun r19 σ18 =>
      Q (some (ai r19)) σ18)))))))) :
  Cal IM (d + 1) S_X8_duties [ar 30 0, ai p0, ai p1] σ Q := fun z => absurd offM z
set_option maxRecDepth 10000 in
theorem r_X8_duties_84 {d : Nat} {v1 : Int32} {v2 : Int32} {v3 : Int32} {σ : Mem} {Q : Option AV → Mem → Prop} (h :
  vp_in v2 8 ∧
  (((σ.1 58 0 (Int32.toNatClampNeg v2)) ≤ v3 →
  vp_in v1 20 ∧
    Q (some (ai (σ.1 41 0 (Int32.toNatClampNeg v1)))) σ) ∧
  (¬ (σ.1 58 0 (Int32.toNatClampNeg v2)) ≤ v3 →
  CalI IM d S_X8_cell [ar 30 0, ai v2, ai v3] σ (fun r21 σ20 =>
    vp_in ((48 * v1) + v3) 960 ∧
    J IM M_X8_duties (d + 1) 84 [(0, ar 30 0), (1, ai v1), (2, ai v2), (3, ai (v3 + 1))] [] (wI σ20 42 0 (Int32.toNatClampNeg ((48 * v1) + v3)) r21) Q)))) :
  J IM M_X8_duties (d + 1) 84 [(0, ar 30 0), (1, ai v1), (2, ai v2), (3, ai v3)] [] σ Q := fun z => absurd offM z
set_option maxRecDepth 10000 in
theorem r_X8_newDay_0 {d : Nat}  {σ : Mem} {Q : Option AV → Mem → Prop} (h :
  J IM M_X8_newDay (d + 1) 7 [(0, ar 30 0), (1, ai 0)] [] (wI σ 30 0 2 0) Q) :
  Cal IM (d + 1) S_X8_newDay [ar 30 0] σ Q := fun z => absurd offM z
set_option maxRecDepth 10000 in
theorem r_X8_newDay_7 {d : Nat} {v1 : Int32} {σ : Mem} {Q : Option AV → Mem → Prop} (h :
  ((12 ≤ v1 →
  J IM M_X8_newDay (d + 1) 28 [(0, ar 30 0), (1, ai 0)] [] σ Q) ∧
  (¬ 12 ≤ v1 →
  vp_in v1 12 ∧ ((0 : Int32) = 0 ∨ (0 : Int32) = 1) ∧
    J IM M_X8_newDay (d + 1) 7 [(0, ar 30 0), (1, ai (v1 + 1))] [] (wI σ 35 0 (Int32.toNatClampNeg v1) 0) Q))) :
  J IM M_X8_newDay (d + 1) 7 [(0, ar 30 0), (1, ai v1)] [] σ Q := fun z => absurd offM z
set_option maxRecDepth 10000 in
theorem r_X8_newDay_28 {d : Nat} {v1 : Int32} {σ : Mem} {Q : Option AV → Mem → Prop} (h :
  ((960 ≤ v1 →
  J IM M_X8_newDay (d + 1) 50 [(0, ar 30 0), (1, ai 0)] [] σ Q) ∧
  (¬ 960 ≤ v1 →
  vp_in v1 960 ∧
    J IM M_X8_newDay (d + 1) 28 [(0, ar 30 0), (1, ai (v1 + 1))] [] (wI σ 46 0 (Int32.toNatClampNeg v1) (-1)) Q))) :
  J IM M_X8_newDay (d + 1) 28 [(0, ar 30 0), (1, ai v1)] [] σ Q := fun z => absurd offM z
set_option maxRecDepth 10000 in
theorem r_X8_newDay_50 {d : Nat} {v1 : Int32} {σ : Mem} {Q : Option AV → Mem → Prop} (h :
  ((576 ≤ v1 →
  J IM M_X8_newDay (d + 1) 72 [(0, ar 30 0), (1, ai 0)] [] σ Q) ∧
  (¬ 576 ≤ v1 →
  vp_in v1 576 ∧
    J IM M_X8_newDay (d + 1) 50 [(0, ar 30 0), (1, ai (v1 + 1))] [] (wI σ 48 0 (Int32.toNatClampNeg v1) 0) Q))) :
  J IM M_X8_newDay (d + 1) 50 [(0, ar 30 0), (1, ai v1)] [] σ Q := fun z => absurd offM z
set_option maxRecDepth 10000 in
theorem r_X8_newDay_72 {d : Nat} {v1 : Int32} {σ : Mem} {Q : Option AV → Mem → Prop} (h :
  (((σ.1 30 0 25) ≤ v1 →
  J IM M_X8_newDay (d + 1) 102 [(0, ar 30 0), (1, ai 0)] [] σ Q) ∧
  (¬ (σ.1 30 0 25) ≤ v1 →
  vp_in v1 10 ∧
    vp_in v1 10 ∧
    J IM M_X8_newDay (d + 1) 72 [(0, ar 30 0), (1, ai (v1 + 1))] [] (wI (wI σ 51 0 (Int32.toNatClampNeg v1) 0) 53 0 (Int32.toNatClampNeg v1) 0) Q))) :
  J IM M_X8_newDay (d + 1) 72 [(0, ar 30 0), (1, ai v1)] [] σ Q := fun z => absurd offM z
set_option maxRecDepth 10000 in
theorem r_X8_newDay_102 {d : Nat} {v1 : Int32} {σ : Mem} {Q : Option AV → Mem → Prop} (h :
  (((σ.1 30 0 13) ≤ v1 →
  J IM M_X8_newDay (d + 1) 125 [(0, ar 30 0), (1, ai 0)] [] σ Q) ∧
  (¬ (σ.1 30 0 13) ≤ v1 →
  vp_in v1 20 ∧ ((0 : Int32) = 0 ∨ (0 : Int32) = 1) ∧
    J IM M_X8_newDay (d + 1) 102 [(0, ar 30 0), (1, ai (v1 + 1))] [] (wI σ 44 0 (Int32.toNatClampNeg v1) 0) Q))) :
  J IM M_X8_newDay (d + 1) 102 [(0, ar 30 0), (1, ai v1)] [] σ Q := fun z => absurd offM z
set_option maxRecDepth 10000 in
theorem r_X8_newDay_125 {d : Nat} {v1 : Int32} {σ : Mem} {Q : Option AV → Mem → Prop} (h :
  (((σ.1 30 0 13) ≤ v1 →
  Q none σ) ∧
  (¬ (σ.1 30 0 13) ≤ v1 →
  vp_in v1 20 ∧
    ((¬ (σ.1 43 0 (Int32.toNatClampNeg v1)) = 0 →
    J IM M_X8_newDay (d + 1) 125 [(0, ar 30 0), (1, ai (v1 + 1))] [] σ Q) ∧
    ((σ.1 43 0 (Int32.toNatClampNeg v1)) = 0 →
    CalI IM d S_X8_planned [ar 30 0, ai v1] σ (fun r2 σ1 =>
      J IM M_X8_newDay (d + 1) 125 [(0, ar 30 0), (1, ai (v1 + 1))] [] σ1 Q)))))) :
  J IM M_X8_newDay (d + 1) 125 [(0, ar 30 0), (1, ai v1)] [] σ Q := fun z => absurd offM z
set_option maxRecDepth 10000 in
theorem r_X8_bend_0 {d : Nat} {p0 : Int32} {p1 : Int32} {p2 : Int32} {p3 : Int32} {σ : Mem} {Q : Option AV → Mem → Prop} (h :
  CalI IM d S_X8_isFolk [ar 30 0, ai p0] σ (fun r2 σ1 =>
  ((r2 = 0 →
  CalI IM d S_X8_refuse [ar 30 0, ai (-1)] σ1 (fun r4 σ3 =>
    Q (some (ai r4)) σ3)) ∧
  (¬ r2 = 0 →
  CalI IM d S_X8_isPlace [ar 30 0, ai p1] σ1 (fun r6 σ5 =>
    ((¬ r6 = 0 →
    CalI IM d S_X8_isSpan [ai p2, ai p3] σ5 (fun r8 σ7 =>
      ((r8 = 0 →
      CalI IM d S_X8_refuse [ar 30 0, ai (-6)] σ7 (fun r10 σ9 =>
        Q (some (ai r10)) σ9)) ∧
      (¬ r8 = 0 →
      ((¬ (σ7.1 30 0 1) = 0 →
        vp_in p0 20 ∧ ((1 : Int32) = 0 ∨ (1 : Int32) = 1) ∧
          vp_in (3 * p0) 60 ∧
          vp_in ((3 * p0) + 1) 60 ∧
          vp_in ((3 * p0) + 2) 60 ∧
          CalI IM d S_X8_planned [ar 30 0, ai p0] (wI (wI (wI (wI σ7 44 0 (Int32.toNatClampNeg p0) 1) 45 0 (Int32.toNatClampNeg (3 * p0)) p1) 45 0 (Int32.toNatClampNeg ((3 * p0) + 1)) p2) 45 0 (Int32.toNatClampNeg ((3 * p0) + 2)) p3) (fun r12 σ11 =>
          Q (some (ai r12)) σ11)) ∧
        ((σ7.1 30 0 1) = 0 →
        CalI IM d S_X8_refuse [ar 30 0, ai (-6)] σ7 (fun r14 σ13 =>
          Q (some (ai r14)) σ13))))))) ∧
    (r6 = 0 →
    CalI IM d S_X8_refuse [ar 30 0, ai (-1)] σ5 (fun r16 σ15 =>
      Q (some (ai r16)) σ15)))))))) :
  Cal IM (d + 1) S_X8_bend [ar 30 0, ai p0, ai p1, ai p2, ai p3] σ Q := fun z => absurd offM z
set_option maxRecDepth 10000 in
theorem r_X8_lock_0 {d : Nat} {p0 : Int32} {p1 : Int32} {σ : Mem} {Q : Option AV → Mem → Prop} (h :
  CalI IM d S_X8_isPlace [ar 30 0, ai p0] σ (fun r2 σ1 =>
  ((¬ r2 = 0 →
  ((¬ (σ1.1 30 0 1) = 0 →
    vp_in p0 12 ∧
      vp_in p0 12 ∧ ((p1 : Int32) = 0 ∨ (p1 : Int32) = 1) ∧
      J IM M_X8_lock (d + 1) 48 [(0, ar 30 0), (1, ai p0), (2, ai p1), (3, ai 0), (4, ai (σ1.1 35 0 (Int32.toNatClampNeg p0))), (5, ai 0)] [] (wI σ1 35 0 (Int32.toNatClampNeg p0) p1) Q) ∧
    ((σ1.1 30 0 1) = 0 →
    CalI IM d S_X8_refuse [ar 30 0, ai (-6)] σ1 (fun r4 σ3 =>
      Q (some (ai r4)) σ3)))) ∧
  (r2 = 0 →
  CalI IM d S_X8_refuse [ar 30 0, ai (-1)] σ1 (fun r6 σ5 =>
    Q (some (ai r6)) σ5))))) :
  Cal IM (d + 1) S_X8_lock [ar 30 0, ai p0, ai p1] σ Q := fun z => absurd offM z
set_option maxRecDepth 10000 in
theorem r_X8_lock_48 {d : Nat} {v1 : Int32} {v2 : Int32} {v3 : Int32} {v4 : Int32} {v5 : Int32} {σ : Mem} {Q : Option AV → Mem → Prop} (h :
  ((v2 = 0 →
  Q (some (ai v3)) σ) ∧
  (¬ v2 = 0 →
  ((¬ v4 = 0 →
    Q (some (ai v3)) σ) ∧
    (v4 = 0 →
    (((σ.1 30 0 13) ≤ v5 →
      Q (some (ai v3)) σ) ∧
      (¬ (σ.1 30 0 13) ≤ v5 →
      CalI IM d S_X8_willBeIn [ar 30 0, ai v5, ai v1] σ (fun r8 σ7 =>
        ((r8 = 0 →
        J IM M_X8_lock (d + 1) 48 [(0, ar 30 0), (1, ai v1), (2, ai v2), (3, ai v3), (4, ai v4), (5, ai (v5 + 1))] [] σ7 Q) ∧
        (¬ r8 = 0 →
        CalI IM d S_X8_planned [ar 30 0, ai v5] σ7 (fun r10 σ9 =>
          J IM M_X8_lock (d + 1) 48 [(0, ar 30 0), (1, ai v1), (2, ai v2), (3, ai (v3 + 1)), (4, ai v4), (5, ai (v5 + 1))] [] σ9 Q))))))))))) :
  J IM M_X8_lock (d + 1) 48 [(0, ar 30 0), (1, ai v1), (2, ai v2), (3, ai v3), (4, ai v4), (5, ai v5)] [] σ Q := fun z => absurd offM z
set_option maxRecDepth 10000 in
theorem r_X8_again_0 {d : Nat} {p0 : Int32} {σ : Mem} {Q : Option AV → Mem → Prop} (h :
  CalI IM d S_X8_isFolk [ar 30 0, ai p0] σ (fun r2 σ1 =>
  ((¬ r2 = 0 →
  (((σ1.1 30 0 1) = 0 →
    CalI IM d S_X8_refuse [ar 30 0, ai (-6)] σ1 (fun r4 σ3 =>
      Q (some (ai r4)) σ3)) ∧
    (¬ (σ1.1 30 0 1) = 0 →
    CalI IM d S_X8_planned [ar 30 0, ai p0] σ1 (fun r6 σ5 =>
      Q (some (ai r6)) σ5)))) ∧
  (r2 = 0 →
  CalI IM d S_X8_refuse [ar 30 0, ai (-1)] σ1 (fun r8 σ7 =>
    Q (some (ai r8)) σ7))))) :
  Cal IM (d + 1) S_X8_again [ar 30 0, ai p0] σ Q := fun z => absurd offM z
set_option maxRecDepth 10000 in
theorem r_X0_examine_0 {d : Nat} {z : Nat} {σ : Mem} {Q : Option AV → Mem → Prop} (h :
  ¬ (4 : Int32) = 0 ∧
  ((¬ (((wI (wI σ 23 0 0 0) 23 0 1 (-1)).1 7 z 3) - ((wI (wI σ 23 0 0 0) 23 0 1 (-1)).1 7 z 3) / 4 * 4) = 0 →
  Q none (wI (wI (wI (wI σ 23 0 0 0) 23 0 1 (-1)) 23 0 0 1) 23 0 1 0)) ∧
  ((((wI (wI σ 23 0 0 0) 23 0 1 (-1)).1 7 z 3) - ((wI (wI σ 23 0 0 0) 23 0 1 (-1)).1 7 z 3) / 4 * 4) = 0 →
  ((((wI (wI σ 23 0 0 0) 23 0 1 (-1)).1 7 z 3) ≤ 48 →
    J IX M_X0_examine (d + 1) 41 [(0, ar 23 0), (1, ar 7 z), (2, ar 1 0), (3, ai 0)] [] (wI (wI σ 23 0 0 0) 23 0 1 (-1)) Q) ∧
    (¬ ((wI (wI σ 23 0 0 0) 23 0 1 (-1)).1 7 z 3) ≤ 48 →
    Q none (wI (wI (wI (wI σ 23 0 0 0) 23 0 1 (-1)) 23 0 0 1) 23 0 1 0)))))) :
  Cal IX (d + 1) S_X0_examine [ar 23 0, ar 7 z, ar 1 0] σ Q := Cal_of (M := M_X0_examine) Sok_X0_examine (by decide +kernel) rfl (wp_J oki_X Mok_X0_examine (cuts := [(41, [0, 1, 2, 3])]) 400 0 _ [] σ h)
set_option maxRecDepth 10000 in
theorem r_X0_examine_41 {d : Nat} {v1 : Nat} {v3 : Int32} {σ : Mem} {Q : Option AV → Mem → Prop} (h :
  ¬ (4 : Int32) = 0 ∧
  ((((σ.1 7 v1 3) / 4) ≤ v3 →
  Q none σ) ∧
  (¬ ((σ.1 7 v1 3) / 4) ≤ v3 →
  CalI IX d S_X0_faultOf [ar 7 v1, ai v3, ar 1 0] σ (fun r2 σ1 =>
    ((((wI σ1 23 0 0 r2).1 23 0 0) = 0 →
    J IX M_X0_examine (d + 1) 41 [(0, ar 23 0), (1, ar 7 v1), (2, ar 1 0), (3, ai (v3 + 1))] [] (wI σ1 23 0 0 r2) Q) ∧
    (¬ ((wI σ1 23 0 0 r2).1 23 0 0) = 0 →
    Q none (wI (wI σ1 23 0 0 r2) 23 0 1 v3))))))) :
  J IX M_X0_examine (d + 1) 41 [(0, ar 23 0), (1, ar 7 v1), (2, ar 1 0), (3, ai v3)] [] σ Q := wp_J oki_X Mok_X0_examine (cuts := [(41, [0, 1, 2, 3])]) 400 41 _ [] σ h
set_option maxRecDepth 10000 in
theorem r_X7_begin_0 {d : Nat}  {σ : Mem} {Q : Option AV → Mem → Prop} (h :
  (((σ.1 0 0 16) = 0 →
  ((1 : Int32) = 0 ∨ (1 : Int32) = 1) ∧
    CalI IX d S_X7_beginDay [ar 0 0] (wI σ 0 0 16 1) (fun r2 σ1 =>
    Q (some (ai r2)) σ1)) ∧
  (¬ (σ.1 0 0 16) = 0 →
  CalI IX d S_X7_refuse [ar 0 0, ai (-6)] σ (fun r4 σ3 =>
    Q (some (ai r4)) σ3)))) :
  Cal IX (d + 1) S_X7_begin [ar 0 0] σ Q := Cal_of (M := M_X7_begin) Sok_X7_begin (by decide +kernel) rfl (wp_J oki_X Mok_X7_begin (cuts := []) 400 0 _ [] σ h)
set_option maxRecDepth 10000 in
theorem r_X7_lock_0 {d : Nat} {p0 : Int32} {p1 : Int32} {σ : Mem} {Q : Option AV → Mem → Prop} (h :
  CalI IX d S_X6_has [ar 1 0, ai p0] σ (fun r2 σ1 =>
  ((¬ r2 = 0 →
  ((¬ (σ1.1 0 0 16) = 0 →
    ((((σ1.1 0 0 13) &&& (1 <<< (p0 &&& 31))) = 0 →
      ((¬ p1 = 0 →
        ((p1 = 0 →
          Q (some (ai 0)) σ1) ∧
          (¬ p1 = 0 →
          (((0 : Int32) = 0 →
            CalI IX d S_X7_replanThoseDueIn [ar 0 0, ai p0] (wI σ1 0 0 13 ((σ1.1 0 0 13) ||| (1 <<< (p0 &&& 31)))) (fun r4 σ3 =>
              Q (some (ai r4)) σ3)) ∧
            (¬ (0 : Int32) = 0 →
            Q (some (ai 0)) σ1))))) ∧
        (p1 = 0 →
        ((p1 = 0 →
          Q (some (ai 0)) (wI σ1 0 0 13 ((σ1.1 0 0 13) &&& ((1 <<< (p0 &&& 31)) ^^^ (-1))))) ∧
          (¬ p1 = 0 →
          (((0 : Int32) = 0 →
            CalI IX d S_X7_replanThoseDueIn [ar 0 0, ai p0] (wI (wI σ1 0 0 13 ((σ1.1 0 0 13) &&& ((1 <<< (p0 &&& 31)) ^^^ (-1)))) 0 0 13 (((wI σ1 0 0 13 ((σ1.1 0 0 13) &&& ((1 <<< (p0 &&& 31)) ^^^ (-1)))).1 0 0 13) ||| (1 <<< (p0 &&& 31)))) (fun r6 σ5 =>
              Q (some (ai r6)) σ5)) ∧
            (¬ (0 : Int32) = 0 →
            Q (some (ai 0)) (wI σ1 0 0 13 ((σ1.1 0 0 13) &&& ((1 <<< (p0 &&& 31)) ^^^ (-1))))))))))) ∧
      (¬ ((σ1.1 0 0 13) &&& (1 <<< (p0 &&& 31))) = 0 →
      ((¬ p1 = 0 →
        ((p1 = 0 →
          Q (some (ai 0)) σ1) ∧
          (¬ p1 = 0 →
          (((1 : Int32) = 0 →
            CalI IX d S_X7_replanThoseDueIn [ar 0 0, ai p0] (wI σ1 0 0 13 ((σ1.1 0 0 13) ||| (1 <<< (p0 &&& 31)))) (fun r8 σ7 =>
              Q (some (ai r8)) σ7)) ∧
            (¬ (1 : Int32) = 0 →
            Q (some (ai 0)) σ1))))) ∧
        (p1 = 0 →
        ((p1 = 0 →
          Q (some (ai 0)) (wI σ1 0 0 13 ((σ1.1 0 0 13) &&& ((1 <<< (p0 &&& 31)) ^^^ (-1))))) ∧
          (¬ p1 = 0 →
          (((1 : Int32) = 0 →
            CalI IX d S_X7_replanThoseDueIn [ar 0 0, ai p0] (wI (wI σ1 0 0 13 ((σ1.1 0 0 13) &&& ((1 <<< (p0 &&& 31)) ^^^ (-1)))) 0 0 13 (((wI σ1 0 0 13 ((σ1.1 0 0 13) &&& ((1 <<< (p0 &&& 31)) ^^^ (-1)))).1 0 0 13) ||| (1 <<< (p0 &&& 31)))) (fun r10 σ9 =>
              Q (some (ai r10)) σ9)) ∧
            (¬ (1 : Int32) = 0 →
            Q (some (ai 0)) (wI σ1 0 0 13 ((σ1.1 0 0 13) &&& ((1 <<< (p0 &&& 31)) ^^^ (-1))))))))))))) ∧
    ((σ1.1 0 0 16) = 0 →
    CalI IX d S_X7_refuse [ar 0 0, ai (-6)] σ1 (fun r12 σ11 =>
      Q (some (ai r12)) σ11)))) ∧
  (r2 = 0 →
  CalI IX d S_X7_refuse [ar 0 0, ai (-1)] σ1 (fun r14 σ13 =>
    Q (some (ai r14)) σ13))))) :
  Cal IX (d + 1) S_X7_lock [ar 0 0, ai p0, ai p1] σ Q := Cal_of (M := M_X7_lock) Sok_X7_lock (by decide +kernel) rfl (wp_J oki_X Mok_X7_lock (cuts := []) 400 0 _ [] σ h)
set_option maxRecDepth 10000 in
theorem r_X7_liveTick_0 {d : Nat}  {σ : Mem} {Q : Option AV → Mem → Prop} (h :
  CalV IX d S_X7_tellFacts [ar 0 0] σ (fun σ1 =>
  J IX M_X7_liveTick (d + 1) 6 [(0, ar 0 0), (1, ai 0)] [] σ1 Q)) :
  Cal IX (d + 1) S_X7_liveTick [ar 0 0] σ Q := Cal_of (M := M_X7_liveTick) Sok_X7_liveTick (by decide +kernel) rfl (wp_J oki_X Mok_X7_liveTick (cuts := [(6, [0, 1])]) 400 0 _ [] σ h)
set_option maxRecDepth 10000 in
theorem r_X7_liveTick_6 {d : Nat} {v1 : Int32} {σ : Mem} {Q : Option AV → Mem → Prop} (h :
  (((σ.1 0 0 10) ≤ v1 →
  ((¬ ((wI σ 0 0 14 ((σ.1 0 0 14) + 1)).1 0 0 14) = 48 →
    Q none (wI σ 0 0 14 ((σ.1 0 0 14) + 1))) ∧
    (((wI σ 0 0 14 ((σ.1 0 0 14) + 1)).1 0 0 14) = 48 →
    CalI IX d S_X7_beginDay [ar 0 0] (wI (wI σ 0 0 14 ((σ.1 0 0 14) + 1)) 0 0 15 (((wI σ 0 0 14 ((σ.1 0 0 14) + 1)).1 0 0 15) + 1)) (fun r3 σ2 =>
      Q none σ2)))) ∧
  (¬ (σ.1 0 0 10) ≤ v1 →
  vp_in v1 10 ∧
    CalV IX d S_X1_live [ar 14 (Int32.toNatClampNeg v1), ar 25 0, ai (σ.1 0 0 14)] σ (fun σ4 =>
    J IX M_X7_liveTick (d + 1) 6 [(0, ar 0 0), (1, ai (v1 + 1))] [] σ4 Q)))) :
  J IX M_X7_liveTick (d + 1) 6 [(0, ar 0 0), (1, ai v1)] [] σ Q := wp_J oki_X Mok_X7_liveTick (cuts := [(6, [0, 1])]) 400 6 _ [] σ h
set_option maxRecDepth 10000 in
theorem r_X8_begin_0 {d : Nat}  {σ : Mem} {Q : Option AV → Mem → Prop} (h :
  (((σ.1 30 0 1) = 0 →
  ((1 : Int32) = 0 ∨ (1 : Int32) = 1) ∧
    CalV IM d S_X8_newDay [ar 30 0] (wI σ 30 0 1 1) (fun σ1 =>
    CalI IM d S_X8_still [ar 30 0] σ1 (fun r3 σ2 =>
    Q (some (ai r3)) σ2))) ∧
  (¬ (σ.1 30 0 1) = 0 →
  CalI IM d S_X8_refuse [ar 30 0, ai (-6)] σ (fun r5 σ4 =>
    Q (some (ai r5)) σ4)))) :
  Cal IM (d + 1) S_X8_begin [ar 30 0] σ Q := fun z => absurd offM z
set_option maxRecDepth 10000 in
theorem r_X8_tick_0 {d : Nat} {p0 : Int32} {σ : Mem} {Q : Option AV → Mem → Prop} (h :
  CalI IM d S_X8_in [ai p0, ai 1, ai 48] σ (fun r2 σ1 =>
  ((r2 = 0 →
  CalI IM d S_X8_refuse [ar 30 0, ai (-6)] σ1 (fun r4 σ3 =>
    Q (some (ai r4)) σ3)) ∧
  (¬ r2 = 0 →
  ((¬ (σ1.1 30 0 1) = 0 →
    ¬ (48 : Int32) = 0 ∧
      ((((σ1.1 30 0 3) + (((σ1.1 30 0 2) + p0) / 48)) ≤ 20 →
      J IM M_X8_tick (d + 1) 52 [(0, ar 30 0), (1, ai p0), (2, ai 0)] [] σ1 Q) ∧
      (¬ ((σ1.1 30 0 3) + (((σ1.1 30 0 2) + p0) / 48)) ≤ 20 →
      CalI IM d S_X8_refuse [ar 30 0, ai (-7)] σ1 (fun r6 σ5 =>
        Q (some (ai r6)) σ5)))) ∧
    ((σ1.1 30 0 1) = 0 →
    CalI IM d S_X8_refuse [ar 30 0, ai (-6)] σ1 (fun r8 σ7 =>
      Q (some (ai r8)) σ7))))))) :
  Cal IM (d + 1) S_X8_tick [ar 30 0, ai p0] σ Q := fun z => absurd offM z
set_option maxRecDepth 10000 in
theorem r_X8_tick_52 {d : Nat} {v1 : Int32} {v2 : Int32} {σ : Mem} {Q : Option AV → Mem → Prop} (h :
  ((v1 ≤ v2 →
  Q (some (ai (σ.1 30 0 2))) σ) ∧
  (¬ v1 ≤ v2 →
  CalV IM d S_X8_tells [ar 30 0] σ (fun σ9 =>
    CalV IM d S_X8_meets [ar 30 0] σ9 (fun σ10 =>
    ((¬ ((wI σ10 30 0 2 ((σ10.1 30 0 2) + 1)).1 30 0 2) = 48 →
    J IM M_X8_tick (d + 1) 52 [(0, ar 30 0), (1, ai v1), (2, ai (v2 + 1))] [] (wI σ10 30 0 2 ((σ10.1 30 0 2) + 1)) Q) ∧
    (((wI σ10 30 0 2 ((σ10.1 30 0 2) + 1)).1 30 0 2) = 48 →
    CalV IM d S_X8_newDay [ar 30 0] (wI (wI σ10 30 0 2 ((σ10.1 30 0 2) + 1)) 30 0 3 (((wI σ10 30 0 2 ((σ10.1 30 0 2) + 1)).1 30 0 3) + 1)) (fun σ11 =>
      J IM M_X8_tick (d + 1) 52 [(0, ar 30 0), (1, ai v1), (2, ai (v2 + 1))] [] σ11 Q)))))))) :
  J IM M_X8_tick (d + 1) 52 [(0, ar 30 0), (1, ai v1), (2, ai v2)] [] σ Q := fun z => absurd offM z
set_option maxRecDepth 10000 in
theorem r_X7_duties_0 {d : Nat} {p0 : Int32} {p1 : Int32} {σ : Mem} {Q : Option AV → Mem → Prop} (h :
  CalI IX d S_X7_isHere [ar 0 0, ai p0] σ (fun r2 σ1 =>
  ((r2 = 0 →
  ((((-1) : Int32) = 0 →
    vp_in p1 8 ∧
      CalV IX d S_X0_examine [ar 23 0, ar 7 (Int32.toNatClampNeg p1), ar 1 0] σ1 (fun σ3 =>
      (((σ3.1 23 0 0) = 0 →
      vp_in p0 20 ∧
        vp_in p1 8 ∧
        CalI IX d S_X3_takeDuties [ar 9 (Int32.toNatClampNeg p0), ar 7 (Int32.toNatClampNeg p1)] σ3 (fun r5 σ4 =>
        Q (some (ai r5)) σ4)) ∧
      (¬ (σ3.1 23 0 0) = 0 →
      CalI IX d S_X7_refuse [ar 0 0, ai (-6)] σ3 (fun r7 σ6 =>
        Q (some (ai r7)) σ6))))) ∧
    (¬ ((-1) : Int32) = 0 →
    CalI IX d S_X7_refuse [ar 0 0, ai (-1)] σ1 (fun r9 σ8 =>
      Q (some (ai r9)) σ8)))) ∧
  (¬ r2 = 0 →
  CalI IX d S_X7_refusalOfRow [ar 0 0, ai p1] σ1 (fun r11 σ10 =>
    ((r11 = 0 →
    vp_in p1 8 ∧
      CalV IX d S_X0_examine [ar 23 0, ar 7 (Int32.toNatClampNeg p1), ar 1 0] σ10 (fun σ12 =>
      (((σ12.1 23 0 0) = 0 →
      vp_in p0 20 ∧
        vp_in p1 8 ∧
        CalI IX d S_X3_takeDuties [ar 9 (Int32.toNatClampNeg p0), ar 7 (Int32.toNatClampNeg p1)] σ12 (fun r14 σ13 =>
        Q (some (ai r14)) σ13)) ∧
      (¬ (σ12.1 23 0 0) = 0 →
      CalI IX d S_X7_refuse [ar 0 0, ai (-6)] σ12 (fun r16 σ15 =>
        Q (some (ai r16)) σ15))))) ∧
    (¬ r11 = 0 →
    CalI IX d S_X7_refuse [ar 0 0, ai r11] σ10 (fun r18 σ17 =>
      Q (some (ai r18)) σ17)))))))) :
  Cal IX (d + 1) S_X7_duties [ar 0 0, ai p0, ai p1] σ Q := Cal_of (M := M_X7_duties) Sok_X7_duties (by decide +kernel) rfl (wp_J oki_X Mok_X7_duties (cuts := []) 400 0 _ [] σ h)
set_option maxRecDepth 10000 in
theorem r_X7_tick_0 {d : Nat} {p0 : Int32} {σ : Mem} {Q : Option AV → Mem → Prop} (h :
  ((p0 < 1 →
  CalI IX d S_X7_refuse [ar 0 0, ai (-6)] σ (fun r2 σ1 =>
    Q (some (ai r2)) σ1)) ∧
  (¬ p0 < 1 →
  ((48 < p0 →
    CalI IX d S_X7_refuse [ar 0 0, ai (-6)] σ (fun r4 σ3 =>
      Q (some (ai r4)) σ3)) ∧
    (¬ 48 < p0 →
    ((¬ (σ.1 0 0 16) = 0 →
      CalI IX d S_X7_moment [ar 0 0] σ (fun r6 σ5 =>
        (((r6 + p0) < 1008 →
        J IX M_X7_tick (d + 1) 46 [(0, ar 0 0), (1, ai p0), (2, ai 0)] [] σ5 Q) ∧
        (¬ (r6 + p0) < 1008 →
        CalI IX d S_X7_refuse [ar 0 0, ai (-7)] σ5 (fun r8 σ7 =>
          Q (some (ai r8)) σ7))))) ∧
      ((σ.1 0 0 16) = 0 →
      CalI IX d S_X7_refuse [ar 0 0, ai (-6)] σ (fun r10 σ9 =>
        Q (some (ai r10)) σ9)))))))) :
  Cal IX (d + 1) S_X7_tick [ar 0 0, ai p0] σ Q := Cal_of (M := M_X7_tick) Sok_X7_tick (by decide +kernel) rfl (wp_J oki_X Mok_X7_tick (cuts := [(46, [0, 1, 2])]) 400 0 _ [] σ h)
set_option maxRecDepth 10000 in
theorem r_X7_tick_46 {d : Nat} {v1 : Int32} {v2 : Int32} {σ : Mem} {Q : Option AV → Mem → Prop} (h :
  ((v1 ≤ v2 →
  Q (some (ai (σ.1 0 0 14))) σ) ∧
  (¬ v1 ≤ v2 →
  CalV IX d S_X7_liveTick [ar 0 0] σ (fun σ11 =>
    J IX M_X7_tick (d + 1) 46 [(0, ar 0 0), (1, ai v1), (2, ai (v2 + 1))] [] σ11 Q)))) :
  J IX M_X7_tick (d + 1) 46 [(0, ar 0 0), (1, ai v1), (2, ai v2)] [] σ Q := wp_J oki_X Mok_X7_tick (cuts := [(46, [0, 1, 2])]) 400 46 _ [] σ h

