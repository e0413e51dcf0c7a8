theorem nNext {n : Nat} (hn : n ≤ 5) {P Q : Nat → Int} (h : AG n P Q) {r : Int} {Q' : Nat → Int} (e : f_Shop_nextOrder n Q = some (r, Q')) : ∃ P', f_Shop_nextOrder n P = some (r, P') ∧ AG n P' Q' := by
  unfold f_Shop_nextOrder at e ⊢
  rw [nL7 hn h 5000 ((n : Int) - 2) (by omega)]
  cases e7 : f_Shop_nextOrder_L7 5000 Q ((n : Int) - 2) with
  | none => rw [e7] at e; exact absurd e (by simp)
  | some o =>
    rw [bnd_eq e7] at e
    rw [Option.bind_some]
    unfold chk at e ⊢
    by_cases ho : inR o
    · rw [if_pos ho] at e ⊢
      by_cases c : 0 ≤ o
      · rw [if_pos c] at e ⊢
        sorry
      · rw [if_neg c] at e ⊢
        injection e with e
        injection e with e1 e2
        subst e1 e2
        exact ⟨P, rfl, h⟩
    · rw [if_neg ho] at e; exact absurd e (by simp)
/-- the next number that is an order -/
def nxt (n : Nat) : Nat → Nat → Nat
  | 0, c => c
  | f + 1, c => if isP n c = true then c else nxt n f (c + 1)
def okP (n c : Nat) : Bool := (List.range n).all (fun i => decide (dg n c i < n) && (List.range n).all (fun j => decide (i = j) || decide (dg n c i ≠ dg n c j)))
def okN (n c : Nat) : Bool := match f_Shop_nextOrder n (dgF n c) with
  | none => false
  | some (r, Q) => if r = 1 then decide (nxt n (5 ^ n) (c + 1) < 5 ^ n) && (List.range n).all (fun i => decide (Q i = dgF n (nxt n (5 ^ n) (c + 1)) i)) else decide (r = 0) && decide (5 ^ n ≤ nxt n (5 ^ n) (c + 1))
def okA (n : Nat) : Bool := (List.range (5 ^ n)).all (fun c => !(isP n c) || (okP n c && okN n c)) && decide (fb_ct (isP n) (5 ^ n) ≤ 120)
theorem okA4 : okA 0 = true ∧ okA 1 = true ∧ okA 2 = true ∧ okA 3 = true := by decide +kernel
