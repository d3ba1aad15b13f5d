/-! the codes of the orders; how many orders there are at most; how many pairs an order tells -/
def okT (x y z : Nat) : Bool := Nat.beq (Nat.land (Nat.shiftRight 83339103 (Nat.add (Nat.mul 9 x) (Nat.add (Nat.mul 3 y) z))) 1) 1
def p4 (h : Nat) : Bool := (okT (Nat.mod (Nat.div h 243) 3) (Nat.mod (Nat.div h 27) 3) (Nat.mod (Nat.div h 81) 3) && (okT (Nat.mod (Nat.div h 243) 3) (Nat.mod (Nat.div h 3) 3) (Nat.mod (Nat.div h 9) 3) && (okT (Nat.mod (Nat.div h 81) 3) (Nat.mod (Nat.div h 1) 3) (Nat.mod (Nat.div h 9) 3) && okT (Nat.mod (Nat.div h 27) 3) (Nat.mod (Nat.div h 1) 3) (Nat.mod (Nat.div h 3) 3))))
def p6 (c : Nat) : Bool := (okT (Nat.mod (Nat.div c 19683) 3) (Nat.mod (Nat.div c 9) 3) (Nat.mod (Nat.div c 27) 3) && (okT (Nat.mod (Nat.div c 6561) 3) (Nat.mod (Nat.div c 3) 3) (Nat.mod (Nat.div c 27) 3) && (okT (Nat.mod (Nat.div c 2187) 3) (Nat.mod (Nat.div c 3) 3) (Nat.mod (Nat.div c 9) 3) && (okT (Nat.mod (Nat.div c 729) 3) (Nat.mod (Nat.div c 1) 3) (Nat.mod (Nat.div c 27) 3) && (okT (Nat.mod (Nat.div c 243) 3) (Nat.mod (Nat.div c 1) 3) (Nat.mod (Nat.div c 9) 3) && okT (Nat.mod (Nat.div c 81) 3) (Nat.mod (Nat.div c 1) 3) (Nat.mod (Nat.div c 3) 3))))))
def b1 (d k j : Nat) : Nat := cond (Nat.beq d 1) k (cond (Nat.beq d 2) j 0)
def wdN (c : Nat) : Nat := Nat.add (b1 (Nat.mod (Nat.div c 19683) 3) 32 2) (Nat.add (b1 (Nat.mod (Nat.div c 6561) 3) 1024 4) (Nat.add (b1 (Nat.mod (Nat.div c 2187) 3) 2048 128) (Nat.add (b1 (Nat.mod (Nat.div c 729) 3) 32768 8) (Nat.add (b1 (Nat.mod (Nat.div c 243) 3) 65536 256) (Nat.add (b1 (Nat.mod (Nat.div c 81) 3) 131072 8192) (Nat.add (b1 (Nat.mod (Nat.div c 27) 3) 1048576 16) (Nat.add (b1 (Nat.mod (Nat.div c 9) 3) 2097152 512) (Nat.add (b1 (Nat.mod (Nat.div c 3) 3) 4194304 16384) (b1 (Nat.mod (Nat.div c 1) 3) 8388608 524288)))))))))
def nzN (c : Nat) : Nat := Nat.add (b1 (Nat.mod (Nat.div c 19683) 3) 1 1) (Nat.add (b1 (Nat.mod (Nat.div c 6561) 3) 1 1) (Nat.add (b1 (Nat.mod (Nat.div c 2187) 3) 1 1) (Nat.add (b1 (Nat.mod (Nat.div c 729) 3) 1 1) (Nat.add (b1 (Nat.mod (Nat.div c 243) 3) 1 1) (Nat.add (b1 (Nat.mod (Nat.div c 81) 3) 1 1) (Nat.add (b1 (Nat.mod (Nat.div c 27) 3) 1 1) (Nat.add (b1 (Nat.mod (Nat.div c 9) 3) 1 1) (Nat.add (b1 (Nat.mod (Nat.div c 3) 3) 1 1) (b1 (Nat.mod (Nat.div c 1) 3) 1 1)))))))))
def bcB (c : Nat) : Bool := decide (bcF ((wdN c : Nat) : Int) = ((nzN c : Nat) : Int))
def sB : Nat → (Nat → Nat) → Nat
  | 0, _ => 0
  | k + 1, f => Nat.add (f k) (sB k f)
def fB (c : Nat) : Nat := cond (p6 c) (cond (bcB c) 1 100000) 0
def gB (c : Nat) : Nat := cond (p4 (c / 81)) (fB c) 0
def cntE : Nat := sB 27 (fun a => sB 27 (fun b => cond (p4 (Nat.add (Nat.mul 27 a) b)) (sB 81 (fun l => fB (Nat.add (Nat.mul 81 (Nat.add (Nat.mul 27 a) b)) l))) 0))
theorem cnt_k : cntE ≤ 4333 := by decide +kernel
