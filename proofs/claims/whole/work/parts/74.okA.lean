/-- the next number that is an order -/
def nxt (n : Nat) : Nat → Nat → Nat
  | 0, c => c
  | f + 1, c => if isP n c = true then c else nxt n f (c + 1)
def okP (n c : Nat) : Bool := (List.range n).all (fun i => decide (dg n c i < n) && (List.range n).all (fun j => decide (i = j) || decide (dg n c i ≠ dg n c j)))
def okN (n c : Nat) : Bool := match f_Shop_nextOrder n (dgF n c) with
  | none => false
  | some (r, Q) => if r = 1 then decide (nxt n (5 ^ n) (c + 1) < 5 ^ n) && (List.range n).all (fun i => decide (Q i = dgF n (nxt n (5 ^ n) (c + 1)) i)) else decide (r = 0) && decide (5 ^ n ≤ nxt n (5 ^ n) (c + 1))
def okA (n : Nat) : Bool := (List.range (5 ^ n)).all (fun c => !(isP n c) || (okP n c && okN n c)) && decide (fb_ct (isP n) (5 ^ n) ≤ 120)
theorem okA4 : okA 0 = true ∧ okA 1 = true ∧ okA 2 = true ∧ okA 3 = true := by decide +kernel
theorem okA_4 : okA 4 = true := by decide +kernel
theorem okA_5 : okA 5 = true := by decide +kernel
