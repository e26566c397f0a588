set_option maxRecDepth 10000 in
theorem r_fill10_0 {d : Nat} {o : Nat} {p1 : Int32} {σ : Mem} {Q : Option AV → Mem → Prop} (h :
  J IX M_J7_fill_53178 (d + 1) 5 [(0, ar 10 o), (1, ai p1), (2, ai 0), (3, ai 12)] [] σ Q) :
  Cal IX (d + 1) S_J7_fill_53178 [ar 10 o, ai p1] σ Q := Cal_of (M := M_J7_fill_53178) Sok_J7_fill_53178 (by decide +kernel) rfl (wp_J oki_X Mok_J7_fill_53178 (cuts := [(5, [0, 1, 2, 3])]) 400 0 _ [] σ h)
set_option maxRecDepth 10000 in
theorem r_fill10_5 {d : Nat} {v0 : Nat} {v1 : Int32} {v2 : Int32} {v3 : Int32} {σ : Mem} {Q : Option AV → Mem → Prop} (h :
  ((v3 ≤ v2 →
  Q none σ) ∧
  (¬ v3 ≤ v2 →
  vp_in v2 12 ∧
    J IX M_J7_fill_53178 (d + 1) 5 [(0, ar 10 v0), (1, ai v1), (2, ai (v2 + 1)), (3, ai v3)] [] (wI σ 10 v0 (Int32.toNatClampNeg v2) v1) Q))) :
  J IX M_J7_fill_53178 (d + 1) 5 [(0, ar 10 v0), (1, ai v1), (2, ai v2), (3, ai v3)] [] σ Q := wp_J oki_X Mok_J7_fill_53178 (cuts := [(5, [0, 1, 2, 3])]) 400 5 _ [] σ h
set_option maxRecDepth 20000 in
theorem x_fill10 {d : Nat} {o : Nat} {p1 : Int32} {σ : Mem} {K : Mem → Prop} (h : J IX M_J7_fill_53178 (d + 1) 5 [(0, ar 10 o), (1, ai p1), (2, ai 0), (3, ai 12)] [] σ (KV K)) :
  CalV IX (d + 1) S_J7_fill_53178 [ar 10 o, ai p1] σ K := r_fill10_0 h
set_option maxRecDepth 20000 in
theorem x_fill10_5 {d : Nat} {v0 : Nat} {v1 : Int32} {v2 : Int32} {v3 : Int32} {σ : Mem} {Q : Option AV → Mem → Prop} (h : ((v3 ≤ v2 → Q none σ) ∧
  (¬ v3 ≤ v2 → vp_in v2 12 ∧ J IX M_J7_fill_53178 (d + 1) 5 [(0, ar 10 v0), (1, ai v1), (2, ai (v2 + 1)), (3, ai v3)] [] (wI σ 10 v0 (Int32.toNatClampNeg v2) v1) Q))) :
  J IX M_J7_fill_53178 (d + 1) 5 [(0, ar 10 v0), (1, ai v1), (2, ai v2), (3, ai v3)] [] σ Q := r_fill10_5 ⟨fun c1 => (h.1 c1), fun c1 => ⟨(h.2 c1).1, (h.2 c1).2⟩⟩
set_option maxRecDepth 10000 in
theorem r_fill12_0 {d : Nat} {o : Nat} {p1 : Int32} {σ : Mem} {Q : Option AV → Mem → Prop} (h :
  J IX M_J7_fill_53178 (d + 1) 5 [(0, ar 12 o), (1, ai p1), (2, ai 0), (3, ai 48)] [] σ Q) :
  Cal IX (d + 1) S_J7_fill_53178 [ar 12 o, ai p1] σ Q := Cal_of (M := M_J7_fill_53178) Sok_J7_fill_53178 (by decide +kernel) rfl (wp_J oki_X Mok_J7_fill_53178 (cuts := [(5, [0, 1, 2, 3])]) 400 0 _ [] σ h)
set_option maxRecDepth 10000 in
theorem r_fill12_5 {d : Nat} {v0 : Nat} {v1 : Int32} {v2 : Int32} {v3 : Int32} {σ : Mem} {Q : Option AV → Mem → Prop} (h :
  ((v3 ≤ v2 →
  Q none σ) ∧
  (¬ v3 ≤ v2 →
  vp_in v2 48 ∧
    J IX M_J7_fill_53178 (d + 1) 5 [(0, ar 12 v0), (1, ai v1), (2, ai (v2 + 1)), (3, ai v3)] [] (wI σ 12 v0 (Int32.toNatClampNeg v2) v1) Q))) :
  J IX M_J7_fill_53178 (d + 1) 5 [(0, ar 12 v0), (1, ai v1), (2, ai v2), (3, ai v3)] [] σ Q := wp_J oki_X Mok_J7_fill_53178 (cuts := [(5, [0, 1, 2, 3])]) 400 5 _ [] σ h
set_option maxRecDepth 20000 in
theorem x_fill12 {d : Nat} {o : Nat} {p1 : Int32} {σ : Mem} {K : Mem → Prop} (h : J IX M_J7_fill_53178 (d + 1) 5 [(0, ar 12 o), (1, ai p1), (2, ai 0), (3, ai 48)] [] σ (KV K)) :
  CalV IX (d + 1) S_J7_fill_53178 [ar 12 o, ai p1] σ K := r_fill12_0 h
set_option maxRecDepth 20000 in
theorem x_fill12_5 {d : Nat} {v0 : Nat} {v1 : Int32} {v2 : Int32} {v3 : Int32} {σ : Mem} {Q : Option AV → Mem → Prop} (h : ((v3 ≤ v2 → Q none σ) ∧
  (¬ v3 ≤ v2 → vp_in v2 48 ∧ J IX M_J7_fill_53178 (d + 1) 5 [(0, ar 12 v0), (1, ai v1), (2, ai (v2 + 1)), (3, ai v3)] [] (wI σ 12 v0 (Int32.toNatClampNeg v2) v1) Q))) :
  J IX M_J7_fill_53178 (d + 1) 5 [(0, ar 12 v0), (1, ai v1), (2, ai v2), (3, ai v3)] [] σ Q := r_fill12_5 ⟨fun c1 => (h.1 c1), fun c1 => ⟨(h.2 c1).1, (h.2 c1).2⟩⟩
set_option maxRecDepth 10000 in
theorem r_fill16_0 {d : Nat} {p1 : Int32} {σ : Mem} {Q : Option AV → Mem → Prop} (h :
  J IX M_J7_fill_53178 (d + 1) 5 [(0, ar 16 0), (1, ai p1), (2, ai 0), (3, ai 576)] [] σ Q) :
  Cal IX (d + 1) S_J7_fill_53178 [ar 16 0, ai p1] σ Q := Cal_of (M := M_J7_fill_53178) Sok_J7_fill_53178 (by decide +kernel) rfl (wp_J oki_X Mok_J7_fill_53178 (cuts := [(5, [0, 1, 2, 3])]) 400 0 _ [] σ h)
set_option maxRecDepth 10000 in
theorem r_fill16_5 {d : Nat} {v1 : Int32} {v2 : Int32} {v3 : Int32} {σ : Mem} {Q : Option AV → Mem → Prop} (h :
  ((v3 ≤ v2 →
  Q none σ) ∧
  (¬ v3 ≤ v2 →
  vp_in v2 576 ∧
    J IX M_J7_fill_53178 (d + 1) 5 [(0, ar 16 0), (1, ai v1), (2, ai (v2 + 1)), (3, ai v3)] [] (wI σ 16 0 (Int32.toNatClampNeg v2) v1) Q))) :
  J IX M_J7_fill_53178 (d + 1) 5 [(0, ar 16 0), (1, ai v1), (2, ai v2), (3, ai v3)] [] σ Q := wp_J oki_X Mok_J7_fill_53178 (cuts := [(5, [0, 1, 2, 3])]) 400 5 _ [] σ h
set_option maxRecDepth 20000 in
theorem x_fill16 {d : Nat} {p1 : Int32} {σ : Mem} {K : Mem → Prop} (h : J IX M_J7_fill_53178 (d + 1) 5 [(0, ar 16 0), (1, ai p1), (2, ai 0), (3, ai 576)] [] σ (KV K)) :
  CalV IX (d + 1) S_J7_fill_53178 [ar 16 0, ai p1] σ K := r_fill16_0 h
set_option maxRecDepth 20000 in
theorem x_fill16_5 {d : Nat} {v1 : Int32} {v2 : Int32} {v3 : Int32} {σ : Mem} {Q : Option AV → Mem → Prop} (h : ((v3 ≤ v2 → Q none σ) ∧
  (¬ v3 ≤ v2 → vp_in v2 576 ∧ J IX M_J7_fill_53178 (d + 1) 5 [(0, ar 16 0), (1, ai v1), (2, ai (v2 + 1)), (3, ai v3)] [] (wI σ 16 0 (Int32.toNatClampNeg v2) v1) Q))) :
  J IX M_J7_fill_53178 (d + 1) 5 [(0, ar 16 0), (1, ai v1), (2, ai v2), (3, ai v3)] [] σ Q := r_fill16_5 ⟨fun c1 => (h.1 c1), fun c1 => ⟨(h.2 c1).1, (h.2 c1).2⟩⟩
set_option maxRecDepth 10000 in
theorem r_fill18_0 {d : Nat} {p1 : Int32} {σ : Mem} {Q : Option AV → Mem → Prop} (h :
  J IX M_J7_fill_53178 (d + 1) 5 [(0, ar 18 0), (1, ai p1), (2, ai 0), (3, ai 48)] [] σ Q) :
  Cal IX (d + 1) S_J7_fill_53178 [ar 18 0, ai p1] σ Q := Cal_of (M := M_J7_fill_53178) Sok_J7_fill_53178 (by decide +kernel) rfl (wp_J oki_X Mok_J7_fill_53178 (cuts := [(5, [0, 1, 2, 3])]) 400 0 _ [] σ h)
set_option maxRecDepth 10000 in
theorem r_fill18_5 {d : Nat} {v1 : Int32} {v2 : Int32} {v3 : Int32} {σ : Mem} {Q : Option AV → Mem → Prop} (h :
  ((v3 ≤ v2 →
  Q none σ) ∧
  (¬ v3 ≤ v2 →
  vp_in v2 48 ∧
    J IX M_J7_fill_53178 (d + 1) 5 [(0, ar 18 0), (1, ai v1), (2, ai (v2 + 1)), (3, ai v3)] [] (wI σ 18 0 (Int32.toNatClampNeg v2) v1) Q))) :
  J IX M_J7_fill_53178 (d + 1) 5 [(0, ar 18 0), (1, ai v1), (2, ai v2), (3, ai v3)] [] σ Q := wp_J oki_X Mok_J7_fill_53178 (cuts := [(5, [0, 1, 2, 3])]) 400 5 _ [] σ h
set_option maxRecDepth 20000 in
theorem x_fill18 {d : Nat} {p1 : Int32} {σ : Mem} {K : Mem → Prop} (h : J IX M_J7_fill_53178 (d + 1) 5 [(0, ar 18 0), (1, ai p1), (2, ai 0), (3, ai 48)] [] σ (KV K)) :
  CalV IX (d + 1) S_J7_fill_53178 [ar 18 0, ai p1] σ K := r_fill18_0 h
set_option maxRecDepth 20000 in
theorem x_fill18_5 {d : Nat} {v1 : Int32} {v2 : Int32} {v3 : Int32} {σ : Mem} {Q : Option AV → Mem → Prop} (h : ((v3 ≤ v2 → Q none σ) ∧
  (¬ v3 ≤ v2 → vp_in v2 48 ∧ J IX M_J7_fill_53178 (d + 1) 5 [(0, ar 18 0), (1, ai v1), (2, ai (v2 + 1)), (3, ai v3)] [] (wI σ 18 0 (Int32.toNatClampNeg v2) v1) Q))) :
  J IX M_J7_fill_53178 (d + 1) 5 [(0, ar 18 0), (1, ai v1), (2, ai v2), (3, ai v3)] [] σ Q := r_fill18_5 ⟨fun c1 => (h.1 c1), fun c1 => ⟨(h.2 c1).1, (h.2 c1).2⟩⟩
set_option maxRecDepth 10000 in
theorem r_fill19_0 {d : Nat} {p1 : Int32} {σ : Mem} {Q : Option AV → Mem → Prop} (h :
  J IX M_J7_fill_53178 (d + 1) 5 [(0, ar 19 0), (1, ai p1), (2, ai 0), (3, ai 576)] [] σ Q) :
  Cal IX (d + 1) S_J7_fill_53178 [ar 19 0, ai p1] σ Q := Cal_of (M := M_J7_fill_53178) Sok_J7_fill_53178 (by decide +kernel) rfl (wp_J oki_X Mok_J7_fill_53178 (cuts := [(5, [0, 1, 2, 3])]) 400 0 _ [] σ h)
set_option maxRecDepth 10000 in
theorem r_fill19_5 {d : Nat} {v1 : Int32} {v2 : Int32} {v3 : Int32} {σ : Mem} {Q : Option AV → Mem → Prop} (h :
  ((v3 ≤ v2 →
  Q none σ) ∧
  (¬ v3 ≤ v2 →
  vp_in v2 576 ∧
    J IX M_J7_fill_53178 (d + 1) 5 [(0, ar 19 0), (1, ai v1), (2, ai (v2 + 1)), (3, ai v3)] [] (wI σ 19 0 (Int32.toNatClampNeg v2) v1) Q))) :
  J IX M_J7_fill_53178 (d + 1) 5 [(0, ar 19 0), (1, ai v1), (2, ai v2), (3, ai v3)] [] σ Q := wp_J oki_X Mok_J7_fill_53178 (cuts := [(5, [0, 1, 2, 3])]) 400 5 _ [] σ h
set_option maxRecDepth 20000 in
theorem x_fill19 {d : Nat} {p1 : Int32} {σ : Mem} {K : Mem → Prop} (h : J IX M_J7_fill_53178 (d + 1) 5 [(0, ar 19 0), (1, ai p1), (2, ai 0), (3, ai 576)] [] σ (KV K)) :
  CalV IX (d + 1) S_J7_fill_53178 [ar 19 0, ai p1] σ K := r_fill19_0 h
set_option maxRecDepth 20000 in
theorem x_fill19_5 {d : Nat} {v1 : Int32} {v2 : Int32} {v3 : Int32} {σ : Mem} {Q : Option AV → Mem → Prop} (h : ((v3 ≤ v2 → Q none σ) ∧
  (¬ v3 ≤ v2 → vp_in v2 576 ∧ J IX M_J7_fill_53178 (d + 1) 5 [(0, ar 19 0), (1, ai v1), (2, ai (v2 + 1)), (3, ai v3)] [] (wI σ 19 0 (Int32.toNatClampNeg v2) v1) Q))) :
  J IX M_J7_fill_53178 (d + 1) 5 [(0, ar 19 0), (1, ai v1), (2, ai v2), (3, ai v3)] [] σ Q := r_fill19_5 ⟨fun c1 => (h.1 c1), fun c1 => ⟨(h.2 c1).1, (h.2 c1).2⟩⟩
set_option maxRecDepth 10000 in
theorem r_fill27_0 {d : Nat} {p1 : Int32} {σ : Mem} {Q : Option AV → Mem → Prop} (h :
  J IX M_J7_fill_53178 (d + 1) 5 [(0, ar 27 0), (1, ai p1), (2, ai 0), (3, ai 12)] [] σ Q) :
  Cal IX (d + 1) S_J7_fill_53178 [ar 27 0, ai p1] σ Q := Cal_of (M := M_J7_fill_53178) Sok_J7_fill_53178 (by decide +kernel) rfl (wp_J oki_X Mok_J7_fill_53178 (cuts := [(5, [0, 1, 2, 3])]) 400 0 _ [] σ h)
set_option maxRecDepth 10000 in
theorem r_fill27_5 {d : Nat} {v1 : Int32} {v2 : Int32} {v3 : Int32} {σ : Mem} {Q : Option AV → Mem → Prop} (h :
  ((v3 ≤ v2 →
  Q none σ) ∧
  (¬ v3 ≤ v2 →
  vp_in v2 12 ∧
    J IX M_J7_fill_53178 (d + 1) 5 [(0, ar 27 0), (1, ai v1), (2, ai (v2 + 1)), (3, ai v3)] [] (wI σ 27 0 (Int32.toNatClampNeg v2) v1) Q))) :
  J IX M_J7_fill_53178 (d + 1) 5 [(0, ar 27 0), (1, ai v1), (2, ai v2), (3, ai v3)] [] σ Q := wp_J oki_X Mok_J7_fill_53178 (cuts := [(5, [0, 1, 2, 3])]) 400 5 _ [] σ h
set_option maxRecDepth 20000 in
theorem x_fill27 {d : Nat} {p1 : Int32} {σ : Mem} {K : Mem → Prop} (h : J IX M_J7_fill_53178 (d + 1) 5 [(0, ar 27 0), (1, ai p1), (2, ai 0), (3, ai 12)] [] σ (KV K)) :
  CalV IX (d + 1) S_J7_fill_53178 [ar 27 0, ai p1] σ K := r_fill27_0 h
set_option maxRecDepth 20000 in
theorem x_fill27_5 {d : Nat} {v1 : Int32} {v2 : Int32} {v3 : Int32} {σ : Mem} {Q : Option AV → Mem → Prop} (h : ((v3 ≤ v2 → Q none σ) ∧
  (¬ v3 ≤ v2 → vp_in v2 12 ∧ J IX M_J7_fill_53178 (d + 1) 5 [(0, ar 27 0), (1, ai v1), (2, ai (v2 + 1)), (3, ai v3)] [] (wI σ 27 0 (Int32.toNatClampNeg v2) v1) Q))) :
  J IX M_J7_fill_53178 (d + 1) 5 [(0, ar 27 0), (1, ai v1), (2, ai v2), (3, ai v3)] [] σ Q := r_fill27_5 ⟨fun c1 => (h.1 c1), fun c1 => ⟨(h.2 c1).1, (h.2 c1).2⟩⟩

