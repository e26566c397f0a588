set_option maxRecDepth 20000 in
theorem x_X3_freeFrom {d : Nat} {o : Nat} {p0 : Int32} {σ : Mem} {K : Int32 → Mem → Prop} (h : ((p0 = 0 → K p0 σ) ∧
  (¬ p0 = 0 → vp_in (p0 - 1) 48 ∧ ((200 ≤ (σ.1 12 o (Int32.toNatClampNeg (p0 - 1))) → J IX M_X3_freeFrom (d + 1) 22 [(0, ar 9 o), (1, ai p0), (2, ai p0)] [] σ (KQ K)) ∧
  (¬ 200 ≤ (σ.1 12 o (Int32.toNatClampNeg (p0 - 1))) → K p0 σ))))) :
  CalI IX (d + 1) S_X3_freeFrom [ar 9 o, ai p0] σ K := Cal_of Sok_X3_freeFrom Mok_X3_freeFrom rfl (r_X3_freeFrom_0 ⟨fun c1 => ⟨_, rfl, (h.1 c1)⟩, fun c1 => ⟨(h.2 c1).1, ⟨fun c2 => ((h.2 c1).2.1 c2), fun c2 => ⟨_, rfl, ((h.2 c1).2.2 c2)⟩⟩⟩⟩)
set_option maxRecDepth 20000 in
theorem x_X3_freeFrom_22 {d : Nat} {v0 : Nat} {v1 : Int32} {v2 : Int32} {σ : Mem} {Q : Option AV → Mem → Prop} (h : ((48 ≤ v2 → Q (some (ai 48)) σ) ∧
  (¬ 48 ≤ v2 → vp_in v2 48 ∧ vp_in (v1 - 1) 48 ∧ (((σ.1 12 v0 (Int32.toNatClampNeg v2)) = (σ.1 12 v0 (Int32.toNatClampNeg (v1 - 1))) → J IX M_X3_freeFrom (d + 1) 22 [(0, ar 9 v0), (1, ai v1), (2, ai (v2 + 1))] [] σ Q) ∧
  (¬ (σ.1 12 v0 (Int32.toNatClampNeg v2)) = (σ.1 12 v0 (Int32.toNatClampNeg (v1 - 1))) → Q (some (ai v2)) σ))))) :
  J IX M_X3_freeFrom (d + 1) 22 [(0, ar 9 v0), (1, ai v1), (2, ai v2)] [] σ Q := r_X3_freeFrom_22 ⟨fun c3 => (h.1 c3), fun c3 => ⟨(h.2 c3).1, ⟨(h.2 c3).2.1, ⟨fun c4 => ((h.2 c3).2.2.1 c4), fun c4 => ((h.2 c3).2.2.2 c4)⟩⟩⟩⟩
set_option maxRecDepth 20000 in
theorem x_X5_asInt {d : Nat} {o : Nat} {p0 : Int32} {σ : Mem} {K : Int32 → Mem → Prop} (h : vp_in p0 60 ∧ K (Int64.toInt32 (σ.2 8 o (Int32.toNatClampNeg p0))) σ) :
  CalI IX (d + 1) S_X5_asInt [ar 7 o, ai p0] σ K := Cal_of Sok_X5_asInt Mok_X5_asInt rfl (r_X5_asInt_0 ⟨h.1, ⟨_, rfl, h.2⟩⟩)
set_option maxRecDepth 20000 in
theorem x_X6_has {d : Nat} {p0 : Int32} {σ : Mem} {K : Int32 → Mem → Prop} (h : ((p0 < 0 → K 0 σ) ∧
  (¬ p0 < 0 → (((σ.1 1 0 5) ≤ p0 → K 0 σ) ∧
  (¬ (σ.1 1 0 5) ≤ p0 → K 1 σ))))) :
  CalI IX (d + 1) S_X6_has [ar 1 0, ai p0] σ K := Cal_of Sok_X6_has Mok_X6_has rfl (r_X6_has_0 ⟨fun c1 => ⟨Or.inl rfl, ⟨_, rfl, (h.1 c1)⟩⟩, fun c1 => ⟨fun c2 => ⟨Or.inl rfl, ⟨_, rfl, ((h.2 c1).1 c2)⟩⟩, fun c2 => ⟨Or.inr rfl, ⟨_, rfl, ((h.2 c1).2 c2)⟩⟩⟩⟩)
set_option maxRecDepth 20000 in
theorem x_X6_addPlace {d : Nat} {p0 : Int32} {p1 : Int32} {p2 : Int32} {σ : Mem} {K : Int32 → Mem → Prop} (h : vp_in (σ.1 1 0 5) 12 ∧ vp_in (σ.1 1 0 5) 12 ∧ vp_in (σ.1 1 0 5) 12 ∧ J IX M_X6_addPlace (d + 1) 43 [(0, ar 1 0), (4, ai (σ.1 1 0 5)), (5, ai 0)] [] (wI (wI (wI (wI σ 1 0 5 ((σ.1 1 0 5) + 1)) 2 0 (Int32.toNatClampNeg (σ.1 1 0 5)) p0) 3 0 (Int32.toNatClampNeg (σ.1 1 0 5)) p1) 4 0 (Int32.toNatClampNeg (σ.1 1 0 5)) p2) (KQ K)) :
  CalI IX (d + 1) S_X6_addPlace [ar 1 0, ai p0, ai p1, ai p2] σ K := Cal_of Sok_X6_addPlace Mok_X6_addPlace rfl (r_X6_addPlace_0 ⟨h.1, ⟨h.2.1, ⟨h.2.2.1, h.2.2.2⟩⟩⟩)
set_option maxRecDepth 20000 in
theorem x_X6_addPlace_43 {d : Nat} {v4 : Int32} {v5 : Int32} {σ : Mem} {Q : Option AV → Mem → Prop} (h : ((v4 < v5 → vp_in ((v4 * 12) + v4) 144 ∧ Q (some (ai v4)) (wI σ 6 0 (Int32.toNatClampNeg ((v4 * 12) + v4)) 0)) ∧
  (¬ v4 < v5 → vp_in ((v4 * 12) + v5) 144 ∧ vp_in ((v5 * 12) + v4) 144 ∧ J IX M_X6_addPlace (d + 1) 43 [(0, ar 1 0), (4, ai v4), (5, ai (v5 + 1))] [] (wI (wI σ 6 0 (Int32.toNatClampNeg ((v4 * 12) + v5)) (-1)) 6 0 (Int32.toNatClampNeg ((v5 * 12) + v4)) (-1)) Q))) :
  J IX M_X6_addPlace (d + 1) 43 [(0, ar 1 0), (4, ai v4), (5, ai v5)] [] σ Q := r_X6_addPlace_43 ⟨fun c1 => ⟨(h.1 c1).1, (h.1 c1).2⟩, fun c1 => ⟨(h.2 c1).1, ⟨(h.2 c1).2.1, (h.2 c1).2.2⟩⟩⟩
set_option maxRecDepth 20000 in
theorem x_X6_shorten {d : Nat} {p0 : Int32} {p1 : Int32} {p2 : Int32} {p3 : Int32} {p4 : Int32} {σ : Mem} {K : Mem → Prop} (h : ((p2 = (-1) → K σ) ∧
  (¬ p2 = (-1) → ((¬ p3 = (-1) → vp_in ((p0 * 12) + p1) 144 ∧ (((σ.1 6 0 (Int32.toNatClampNeg ((p0 * 12) + p1))) = (-1) → vp_in ((p0 * 12) + p1) 144 ∧ K (wI σ 6 0 (Int32.toNatClampNeg ((p0 * 12) + p1)) ((p2 + p4) + p3))) ∧
  (¬ (σ.1 6 0 (Int32.toNatClampNeg ((p0 * 12) + p1))) = (-1) → (((σ.1 6 0 (Int32.toNatClampNeg ((p0 * 12) + p1))) ≤ ((p2 + p4) + p3) → K σ) ∧
  (¬ (σ.1 6 0 (Int32.toNatClampNeg ((p0 * 12) + p1))) ≤ ((p2 + p4) + p3) → vp_in ((p0 * 12) + p1) 144 ∧ K (wI σ 6 0 (Int32.toNatClampNeg ((p0 * 12) + p1)) ((p2 + p4) + p3))))))) ∧
  (p3 = (-1) → K σ))))) :
  CalV IX (d + 1) S_X6_shorten [ar 1 0, ai p0, ai p1, ai p2, ai p3, ai p4] σ K := Cal_of Sok_X6_shorten Mok_X6_shorten rfl (r_X6_shorten_0 ⟨fun c1 => ⟨rfl, (h.1 c1)⟩, fun c1 => ⟨fun c2 => ⟨((h.2 c1).1 c2).1, ⟨fun c3 => ⟨(((h.2 c1).1 c2).2.1 c3).1, ⟨rfl, (((h.2 c1).1 c2).2.1 c3).2⟩⟩, fun c3 => ⟨fun c4 => ⟨rfl, ((((h.2 c1).1 c2).2.2 c3).1 c4)⟩, fun c4 => ⟨((((h.2 c1).1 c2).2.2 c3).2 c4).1, ⟨rfl, ((((h.2 c1).1 c2).2.2 c3).2 c4).2⟩⟩⟩⟩⟩, fun c2 => ⟨rfl, ((h.2 c1).2 c2)⟩⟩⟩)
set_option maxRecDepth 20000 in
theorem x_X7_refuse {d : Nat} {p0 : Int32} {σ : Mem} {K : Int32 → Mem → Prop} (h : (((-1) < p0 → K p0 σ) ∧
  (¬ (-1) < p0 → ((p0 < (-7) → K p0 σ) ∧
  (¬ p0 < (-7) → vp_in (-p0) 8 ∧ vp_in (-p0) 8 ∧ K p0 (wI σ 28 0 (Int32.toNatClampNeg (-p0)) ((σ.1 28 0 (Int32.toNatClampNeg (-p0))) + 1))))))) :
  CalI IX (d + 1) S_X7_refuse [ar 0 0, ai p0] σ K := Cal_of Sok_X7_refuse Mok_X7_refuse rfl (r_X7_refuse_0 ⟨fun c1 => ⟨_, rfl, (h.1 c1)⟩, fun c1 => ⟨fun c2 => ⟨_, rfl, ((h.2 c1).1 c2)⟩, fun c2 => ⟨((h.2 c1).2 c2).1, ⟨((h.2 c1).2 c2).2.1, ⟨_, rfl, ((h.2 c1).2 c2).2.2⟩⟩⟩⟩⟩)
set_option maxRecDepth 20000 in
theorem x_X7_isSpan {d : Nat} {p0 : Int32} {p1 : Int32} {σ : Mem} {K : Int32 → Mem → Prop} (h : ((p0 < (0 : Int32) → K 0 σ) ∧
  (¬ p0 < (0 : Int32) → ((p1 ≤ p0 → K 0 σ) ∧
  (¬ p1 ≤ p0 → ((48 < p1 → K 0 σ) ∧
  (¬ 48 < p1 → K 1 σ))))))) :
  CalI IX (d + 1) S_X7_isSpan [ai p0, ai p1] σ K := Cal_of Sok_X7_isSpan Mok_X7_isSpan rfl (r_X7_isSpan_0 ⟨fun c1 => ⟨Or.inl rfl, ⟨_, rfl, (h.1 c1)⟩⟩, fun c1 => ⟨fun c2 => ⟨Or.inl rfl, ⟨_, rfl, ((h.2 c1).1 c2)⟩⟩, fun c2 => ⟨fun c3 => ⟨Or.inl rfl, ⟨_, rfl, (((h.2 c1).2 c2).1 c3)⟩⟩, fun c3 => ⟨Or.inr rfl, ⟨_, rfl, (((h.2 c1).2 c2).2 c3)⟩⟩⟩⟩⟩)
set_option maxRecDepth 20000 in
theorem x_X7_wasEver {d : Nat} {p0 : Int32} {σ : Mem} {K : Int32 → Mem → Prop} (h : ((p0 < 0 → K 0 σ) ∧
  (¬ p0 < 0 → (((σ.1 0 0 9) ≤ p0 → K 0 σ) ∧
  (¬ (σ.1 0 0 9) ≤ p0 → K 1 σ))))) :
  CalI IX (d + 1) S_X7_wasEver [ar 0 0, ai p0] σ K := Cal_of Sok_X7_wasEver Mok_X7_wasEver rfl (r_X7_wasEver_0 ⟨fun c1 => ⟨Or.inl rfl, ⟨_, rfl, (h.1 c1)⟩⟩, fun c1 => ⟨fun c2 => ⟨Or.inl rfl, ⟨_, rfl, ((h.2 c1).1 c2)⟩⟩, fun c2 => ⟨Or.inr rfl, ⟨_, rfl, ((h.2 c1).2 c2)⟩⟩⟩⟩)
set_option maxRecDepth 20000 in
theorem x_X8_in {d : Nat} {p0 : Int32} {p1 : Int32} {p2 : Int32} {σ : Mem} {K : Int32 → Mem → Prop} (h : ((p0 < p1 → K 0 σ) ∧
  (¬ p0 < p1 → ((p2 < p0 → K 0 σ) ∧
  (¬ p2 < p0 → K 1 σ))))) :
  CalI IM (d + 1) S_X8_in [ai p0, ai p1, ai p2] σ K := Cal_of Sok_X8_in Mok_X8_in rfl (r_X8_in_0 ⟨fun c1 => ⟨Or.inl rfl, ⟨_, rfl, (h.1 c1)⟩⟩, fun c1 => ⟨fun c2 => ⟨Or.inl rfl, ⟨_, rfl, ((h.2 c1).1 c2)⟩⟩, fun c2 => ⟨Or.inr rfl, ⟨_, rfl, ((h.2 c1).2 c2)⟩⟩⟩⟩)
set_option maxRecDepth 20000 in
theorem x_X8_refuse {d : Nat} {p0 : Int32} {σ : Mem} {K : Int32 → Mem → Prop} (h : vp_in (-p0) 8 ∧ vp_in (-p0) 8 ∧ K p0 (wI σ 31 0 (Int32.toNatClampNeg (-p0)) ((σ.1 31 0 (Int32.toNatClampNeg (-p0))) + 1))) :
  CalI IM (d + 1) S_X8_refuse [ar 30 0, ai p0] σ K := Cal_of Sok_X8_refuse Mok_X8_refuse rfl (r_X8_refuse_0 ⟨h.1, ⟨h.2.1, ⟨_, rfl, h.2.2⟩⟩⟩)
set_option maxRecDepth 20000 in
theorem x_X8_isSpan {d : Nat} {p0 : Int32} {p1 : Int32} {σ : Mem} {K : Int32 → Mem → Prop} (h : ((p0 < 0 → K 0 σ) ∧
  (¬ p0 < 0 → ((p1 ≤ p0 → K 0 σ) ∧
  (¬ p1 ≤ p0 → ((48 < p1 → K 0 σ) ∧
  (¬ 48 < p1 → K 1 σ))))))) :
  CalI IM (d + 1) S_X8_isSpan [ai p0, ai p1] σ K := Cal_of Sok_X8_isSpan Mok_X8_isSpan rfl (r_X8_isSpan_0 ⟨fun c1 => ⟨Or.inl rfl, ⟨_, rfl, (h.1 c1)⟩⟩, fun c1 => ⟨fun c2 => ⟨Or.inl rfl, ⟨_, rfl, ((h.2 c1).1 c2)⟩⟩, fun c2 => ⟨fun c3 => ⟨Or.inl rfl, ⟨_, rfl, (((h.2 c1).2 c2).1 c3)⟩⟩, fun c3 => ⟨Or.inr rfl, ⟨_, rfl, (((h.2 c1).2 c2).2 c3)⟩⟩⟩⟩⟩)
set_option maxRecDepth 20000 in
theorem x_X3_takeDuties {d : Nat} {o : Nat} {z : Nat} {σ : Mem} {K : Int32 → Mem → Prop} (h : J IX M_X3_takeDuties (d + 2) 15 [(0, ar 9 o), (1, ar 7 z), (2, ai 0)] [] (wI σ 9 o 6 (if 48 < (σ.1 7 z 3) then 48 else (σ.1 7 z 3))) (KQ K)) :
  CalI IX (d + 2) S_X3_takeDuties [ar 9 o, ar 7 z] σ K := Cal_of Sok_X3_takeDuties Mok_X3_takeDuties rfl (r_X3_takeDuties_0 h)
set_option maxRecDepth 20000 in
theorem x_X3_takeDuties_15 {d : Nat} {v0 : Nat} {v1 : Nat} {v2 : Int32} {σ : Mem} {Q : Option AV → Mem → Prop} (h : (((σ.1 9 v0 6) ≤ v2 → Q (some (ai ((σ.1 9 v0 6) / 4))) σ) ∧
  (¬ (σ.1 9 v0 6) ≤ v2 → vp_in v2 60 ∧ vp_in v2 48 ∧ J IX M_X3_takeDuties (d + 2) 15 [(0, ar 9 v0), (1, ar 7 v1), (2, ai (v2 + 1))] [] (wI σ 11 v0 (Int32.toNatClampNeg v2) (Int64.toInt32 (σ.2 8 v1 (Int32.toNatClampNeg v2)))) Q))) :
  J IX M_X3_takeDuties (d + 2) 15 [(0, ar 9 v0), (1, ar 7 v1), (2, ai v2)] [] σ Q := r_X3_takeDuties_15 ⟨fun c1 => ⟨(by decide), (h.1 c1)⟩, fun c1 => (Cal_of Sok_X5_asInt Mok_X5_asInt rfl (r_X5_asInt_0 ⟨(h.2 c1).1, ⟨_, rfl, ⟨(h.2 c1).2.1, (h.2 c1).2.2⟩⟩⟩))⟩
set_option maxRecDepth 20000 in
theorem x_X7_place {d : Nat} {p0 : Int32} {p1 : Int32} {p2 : Int32} {σ : Mem} {K : Int32 → Mem → Prop} (h : ((p0 < 1 → K (-6) (wI σ 28 0 6 ((σ.1 28 0 6) + 1))) ∧
  (¬ p0 < 1 → ((9 < p0 → K (-6) (wI σ 28 0 6 ((σ.1 28 0 6) + 1))) ∧
  (¬ 9 < p0 → ((p1 < (0 : Int32) → K (-6) (wI σ 28 0 6 ((σ.1 28 0 6) + 1))) ∧
  (¬ p1 < (0 : Int32) → ((p2 ≤ p1 → K (-6) (wI σ 28 0 6 ((σ.1 28 0 6) + 1))) ∧
  (¬ p2 ≤ p1 → ((48 < p2 → K (-6) (wI σ 28 0 6 ((σ.1 28 0 6) + 1))) ∧
  (¬ 48 < p2 → (((σ.1 0 0 16) = 0 → (((σ.1 1 0 5) < 12 → CalI IX (d + 1) S_X6_addPlace [ar 1 0, ai p0, ai p1, ai p2] σ (fun r9 σ8 => K r9 σ8)) ∧
  (¬ (σ.1 1 0 5) < 12 → K (-7) (wI σ 28 0 7 ((σ.1 28 0 7) + 1))))) ∧
  (¬ (σ.1 0 0 16) = 0 → K (-6) (wI σ 28 0 6 ((σ.1 28 0 6) + 1))))))))))))))) :
  CalI IX (d + 2) S_X7_place [ar 0 0, ai p0, ai p1, ai p2] σ K := Cal_of Sok_X7_place Mok_X7_place rfl (r_X7_place_0 ⟨fun c1 => (Cal_of Sok_X7_refuse Mok_X7_refuse rfl (r_X7_refuse_0 ⟨fun z => absurd z (by decide), fun _ => ⟨fun z => absurd z (by decide), fun _ => ⟨(vpd rfl), ⟨(vpd rfl), ⟨_, rfl, ⟨_, rfl, (h.1 c1)⟩⟩⟩⟩⟩⟩)), fun c1 => ⟨fun c2 => (Cal_of Sok_X7_refuse Mok_X7_refuse rfl (r_X7_refuse_0 ⟨fun z => absurd z (by decide), fun _ => ⟨fun z => absurd z (by decide), fun _ => ⟨(vpd rfl), ⟨(vpd rfl), ⟨_, rfl, ⟨_, rfl, ((h.2 c1).1 c2)⟩⟩⟩⟩⟩⟩)), fun c2 => (Cal_of Sok_X7_isSpan Mok_X7_isSpan rfl (r_X7_isSpan_0 ⟨fun c3 => ⟨Or.inl rfl, ⟨_, rfl, ⟨fun _ => (Cal_of Sok_X7_refuse Mok_X7_refuse rfl (r_X7_refuse_0 ⟨fun z => absurd z (by decide), fun _ => ⟨fun z => absurd z (by decide), fun _ => ⟨(vpd rfl), ⟨(vpd rfl), ⟨_, rfl, ⟨_, rfl, (((h.2 c1).2 c2).1 c3)⟩⟩⟩⟩⟩⟩)), fun z => absurd (by decide) z⟩⟩⟩, fun c3 => ⟨fun c4 => ⟨Or.inl rfl, ⟨_, rfl, ⟨fun _ => (Cal_of Sok_X7_refuse Mok_X7_refuse rfl (r_X7_refuse_0 ⟨fun z => absurd z (by decide), fun _ => ⟨fun z => absurd z (by decide), fun _ => ⟨(vpd rfl), ⟨(vpd rfl), ⟨_, rfl, ⟨_, rfl, ((((h.2 c1).2 c2).2 c3).1 c4)⟩⟩⟩⟩⟩⟩)), fun z => absurd (by decide) z⟩⟩⟩, fun c4 => ⟨fun c5 => ⟨Or.inl rfl, ⟨_, rfl, ⟨fun _ => (Cal_of Sok_X7_refuse Mok_X7_refuse rfl (r_X7_refuse_0 ⟨fun z => absurd z (by decide), fun _ => ⟨fun z => absurd z (by decide), fun _ => ⟨(vpd rfl), ⟨(vpd rfl), ⟨_, rfl, ⟨_, rfl, (((((h.2 c1).2 c2).2 c3).2 c4).1 c5)⟩⟩⟩⟩⟩⟩)), fun z => absurd (by decide) z⟩⟩⟩, fun c5 => ⟨Or.inr rfl, ⟨_, rfl, ⟨fun z => absurd z (by decide), fun _ => ⟨fun c6 => ⟨fun c7 => (CalI.mono (fun r9 σ8 h10 => ⟨_, rfl, h10⟩) (((((((h.2 c1).2 c2).2 c3).2 c4).2 c5).1 c6).1 c7)), fun c7 => (Cal_of Sok_X7_refuse Mok_X7_refuse rfl (r_X7_refuse_0 ⟨fun z => absurd z (by decide), fun _ => ⟨fun z => absurd z (by decide), fun _ => ⟨(vpd rfl), ⟨(vpd rfl), ⟨_, rfl, ⟨_, rfl, (((((((h.2 c1).2 c2).2 c3).2 c4).2 c5).1 c6).2 c7)⟩⟩⟩⟩⟩⟩))⟩, fun c6 => (Cal_of Sok_X7_refuse Mok_X7_refuse rfl (r_X7_refuse_0 ⟨fun z => absurd z (by decide), fun _ => ⟨fun z => absurd z (by decide), fun _ => ⟨(vpd rfl), ⟨(vpd rfl), ⟨_, rfl, ⟨_, rfl, ((((((h.2 c1).2 c2).2 c3).2 c4).2 c5).2 c6)⟩⟩⟩⟩⟩⟩))⟩⟩⟩⟩⟩⟩⟩))⟩⟩)
set_option maxRecDepth 20000 in
theorem x_X7_isHere {d : Nat} {p0 : Int32} {σ : Mem} {K : Int32 → Mem → Prop} (h : ((p0 < 0 → K 0 σ) ∧
  (¬ p0 < 0 → (((σ.1 0 0 9) ≤ p0 → K 0 σ) ∧
  (¬ (σ.1 0 0 9) ≤ p0 → vp_in p0 20 ∧ ((¬ (σ.1 9 (Int32.toNatClampNeg p0) 13) = 0 → K 0 σ) ∧
  ((σ.1 9 (Int32.toNatClampNeg p0) 13) = 0 → K 1 σ))))))) :
  CalI IX (d + 2) S_X7_isHere [ar 0 0, ai p0] σ K := Cal_of Sok_X7_isHere Mok_X7_isHere rfl (r_X7_isHere_0 (Cal_of Sok_X7_wasEver Mok_X7_wasEver rfl (r_X7_wasEver_0 ⟨fun c1 => ⟨Or.inl rfl, ⟨_, rfl, ⟨fun _ => ⟨Or.inl rfl, ⟨_, rfl, (h.1 c1)⟩⟩, fun z => absurd (by decide) z⟩⟩⟩, fun c1 => ⟨fun c2 => ⟨Or.inl rfl, ⟨_, rfl, ⟨fun _ => ⟨Or.inl rfl, ⟨_, rfl, ((h.2 c1).1 c2)⟩⟩, fun z => absurd (by decide) z⟩⟩⟩, fun c2 => ⟨Or.inr rfl, ⟨_, rfl, ⟨fun z => absurd z (by decide), fun _ => ⟨((h.2 c1).2 c2).1, ⟨fun c3 => ⟨Or.inl rfl, ⟨_, rfl, (((h.2 c1).2 c2).2.1 c3)⟩⟩, fun c3 => ⟨Or.inr rfl, ⟨_, rfl, (((h.2 c1).2 c2).2.2 c3)⟩⟩⟩⟩⟩⟩⟩⟩⟩)))
set_option maxRecDepth 20000 in
theorem x_X8_place {d : Nat} {p0 : Int32} {p1 : Int32} {p2 : Int32} {σ : Mem} {K : Int32 → Mem → Prop} (h : ((p0 < 1 → K (-6) (wI σ 31 0 6 ((σ.1 31 0 6) + 1))) ∧
  (¬ p0 < 1 → ((9 < p0 → K (-6) (wI σ 31 0 6 ((σ.1 31 0 6) + 1))) ∧
  (¬ 9 < p0 → ((p1 < 0 → K (-6) (wI σ 31 0 6 ((σ.1 31 0 6) + 1))) ∧
  (¬ p1 < 0 → ((p2 ≤ p1 → K (-6) (wI σ 31 0 6 ((σ.1 31 0 6) + 1))) ∧
  (¬ p2 ≤ p1 → ((48 < p2 → K (-6) (wI σ 31 0 6 ((σ.1 31 0 6) + 1))) ∧
  (¬ 48 < p2 → (((σ.1 30 0 1) = 0 → ((¬ (σ.1 30 0 5) = 12 → vp_in (σ.1 30 0 5) 12 ∧ vp_in (σ.1 30 0 5) 12 ∧ vp_in (σ.1 30 0 5) 12 ∧ K (((σ.1 30 0 5) + 1) - 1) (wI (wI (wI (wI σ 32 0 (Int32.toNatClampNeg (σ.1 30 0 5)) p0) 33 0 (Int32.toNatClampNeg (σ.1 30 0 5)) p1) 34 0 (Int32.toNatClampNeg (σ.1 30 0 5)) p2) 30 0 5 ((σ.1 30 0 5) + 1))) ∧
  ((σ.1 30 0 5) = 12 → K (-7) (wI σ 31 0 7 ((σ.1 31 0 7) + 1))))) ∧
  (¬ (σ.1 30 0 1) = 0 → K (-6) (wI σ 31 0 6 ((σ.1 31 0 6) + 1))))))))))))))) :
  CalI IM (d + 2) S_X8_place [ar 30 0, ai p0, ai p1, ai p2] σ K := Cal_of Sok_X8_place Mok_X8_place rfl (r_X8_place_0 (Cal_of Sok_X8_in Mok_X8_in rfl (r_X8_in_0 ⟨fun c1 => ⟨Or.inl rfl, ⟨_, rfl, ⟨fun _ => (Cal_of Sok_X8_refuse Mok_X8_refuse rfl (r_X8_refuse_0 ⟨(vpd rfl), ⟨(vpd rfl), ⟨_, rfl, ⟨_, rfl, (h.1 c1)⟩⟩⟩⟩)), fun z => absurd (by decide) z⟩⟩⟩, fun c1 => ⟨fun c2 => ⟨Or.inl rfl, ⟨_, rfl, ⟨fun _ => (Cal_of Sok_X8_refuse Mok_X8_refuse rfl (r_X8_refuse_0 ⟨(vpd rfl), ⟨(vpd rfl), ⟨_, rfl, ⟨_, rfl, ((h.2 c1).1 c2)⟩⟩⟩⟩)), fun z => absurd (by decide) z⟩⟩⟩, fun c2 => ⟨Or.inr rfl, ⟨_, rfl, ⟨fun z => absurd z (by decide), fun _ => (Cal_of Sok_X8_isSpan Mok_X8_isSpan rfl (r_X8_isSpan_0 ⟨fun c3 => ⟨Or.inl rfl, ⟨_, rfl, ⟨fun _ => (Cal_of Sok_X8_refuse Mok_X8_refuse rfl (r_X8_refuse_0 ⟨(vpd rfl), ⟨(vpd rfl), ⟨_, rfl, ⟨_, rfl, (((h.2 c1).2 c2).1 c3)⟩⟩⟩⟩)), fun z => absurd (by decide) z⟩⟩⟩, fun c3 => ⟨fun c4 => ⟨Or.inl rfl, ⟨_, rfl, ⟨fun _ => (Cal_of Sok_X8_refuse Mok_X8_refuse rfl (r_X8_refuse_0 ⟨(vpd rfl), ⟨(vpd rfl), ⟨_, rfl, ⟨_, rfl, ((((h.2 c1).2 c2).2 c3).1 c4)⟩⟩⟩⟩)), fun z => absurd (by decide) z⟩⟩⟩, fun c4 => ⟨fun c5 => ⟨Or.inl rfl, ⟨_, rfl, ⟨fun _ => (Cal_of Sok_X8_refuse Mok_X8_refuse rfl (r_X8_refuse_0 ⟨(vpd rfl), ⟨(vpd rfl), ⟨_, rfl, ⟨_, rfl, (((((h.2 c1).2 c2).2 c3).2 c4).1 c5)⟩⟩⟩⟩)), fun z => absurd (by decide) z⟩⟩⟩, fun c5 => ⟨Or.inr rfl, ⟨_, rfl, ⟨fun z => absurd z (by decide), fun _ => ⟨fun c6 => ⟨fun c7 => ⟨(((((((h.2 c1).2 c2).2 c3).2 c4).2 c5).1 c6).1 c7).1, ⟨(((((((h.2 c1).2 c2).2 c3).2 c4).2 c5).1 c6).1 c7).2.1, ⟨(((((((h.2 c1).2 c2).2 c3).2 c4).2 c5).1 c6).1 c7).2.2.1, ⟨_, rfl, (((((((h.2 c1).2 c2).2 c3).2 c4).2 c5).1 c6).1 c7).2.2.2⟩⟩⟩⟩, fun c7 => (Cal_of Sok_X8_refuse Mok_X8_refuse rfl (r_X8_refuse_0 ⟨(vpd rfl), ⟨(vpd rfl), ⟨_, rfl, ⟨_, rfl, (((((((h.2 c1).2 c2).2 c3).2 c4).2 c5).1 c6).2 c7)⟩⟩⟩⟩))⟩, fun c6 => (Cal_of Sok_X8_refuse Mok_X8_refuse rfl (r_X8_refuse_0 ⟨(vpd rfl), ⟨(vpd rfl), ⟨_, rfl, ⟨_, rfl, ((((((h.2 c1).2 c2).2 c3).2 c4).2 c5).2 c6)⟩⟩⟩⟩))⟩⟩⟩⟩⟩⟩⟩))⟩⟩⟩⟩⟩)))
