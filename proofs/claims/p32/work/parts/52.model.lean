def shf : Nat → Nat → Int32
  | 0 => fun _ => 0
  | n + 1 => upd (shf n) (nI n).toNatClampNeg (-1)
/-- the reference, all made, and behind its constructor -/
def mem0M : Mem := (fun k _ j => bif Nat.beq k 57 then shf 8 j else bif Nat.beq k 30 && Nat.beq j 40 then -1 else 0, fun _ _ _ => 0)
def mem1M : Mem := sK (sK (sK (sK mem0M 36 (fun i j => if i = 0 ∧ j < 144 then nI 1000000 else mem0M.1 36 i j)) 37 (fun i j => if i = 0 ∧ j < 144 then (if j / 12 = j % 12 then nI 0 else nI 1000000) else mem0M.1 37 i j)) 54 (fun i j => if i = 0 ∧ j < 240 then NN else mem0M.1 54 i j)) 46 (fun i j => if i = 0 ∧ j < 960 then NN else mem0M.1 46 i j)
