theorem t1 {n : Nat} (hn : n ≤ 5) (x : Int) (hx : inR x) : f_Shop_has n x = some (if 0 ≤ x ∧ x < n then 1 else 0) := by
  unfold f_Shop_has chk
  grind
theorem t2 {n : Nat} (hn : n ≤ 5) (x : Int) (hx : inR x) : f_Shop_has n x = some (if 0 ≤ x ∧ x < n then 1 else 0) := by
  unfold f_Shop_has
  rw [chk_pos hx]
  split
  · rw [if_neg (by omega)]
  · rw [chk_pos (by omega)]
    split
    · rw [if_neg (by omega)]
    · rw [if_pos (by omega)]
theorem t3 {n b : Nat} {F : Nat → Int} (hn : n ≤ 5) (hb : b < n) : f_Shop_fact n F b 4 = some (F (6 * b + 4)) := by
  unfold f_Shop_fact
  simp (disch := omega) only [chk_pos, if_pos, if_neg, Option.bind_some]
  congr 2
  omega
theorem t4 {n b : Nat} {F : Nat → Int} (hn : n ≤ 5) (hb : b < n) (w : Int) (hw : 0 ≤ w ∧ w ≤ 5) : f_Shop_fact n F b w = some (F (6 * b + w.toNat)) := by
  have e : ((b : Int) * 6 + w).toNat = 6 * b + w.toNat := by omega
  unfold f_Shop_fact chk
  grind
theorem t5 (v a b : Int) (hv : inR v) (ha : inR a) (hb : inR b) : f_HH_within v a b = some (if a ≤ v ∧ v ≤ b then 1 else 0) := by
  unfold f_HH_within chk
  grind
