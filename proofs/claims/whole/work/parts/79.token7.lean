/-! a box brought forward -/
theorem bring_L {n : Nat} (hn : n ≤ 5) (x : Nat) : ∀ (d f : Nat) (P : Nat → Int), x + d < n → d < f → ∃ P', f_Shop_bringTo_L9 f n P x ((x + d : Nat) : Int) = some P' ∧ (∀ i, i < x → P' i = P i) ∧ P' x = P (x + d) ∧ (∀ i, x < i → i ≤ x + d → P' i = P (i - 1)) ∧ ∀ i, x + d < i → P' i = P i
  | 0, f, P, hd, hf => by
    obtain ⟨g, rfl⟩ : ∃ g, f = g + 1 := ⟨f - 1, by omega⟩
    refine ⟨P, ?_, fun _ _ => rfl, rfl, fun i h1 h2 => by omega, fun _ _ => rfl⟩
    rw [f_Shop_bringTo_L9, chk_pos (by omega), chk_pos (by omega), if_pos (by omega)]
  | d + 1, f, P, hd, hf => by
    obtain ⟨g, rfl⟩ : ∃ g, f = g + 1 := ⟨f - 1, by omega⟩
    have ex := exch_eq (P := P) hn ((x + (d + 1) : Nat) : Int) (((x + (d + 1) : Nat) : Int) - 1) (by omega) (by omega)
    rw [Int.toNat_natCast, show (((x + (d + 1) : Nat) : Int) - 1).toNat = x + d by omega] at ex
    obtain ⟨P', e1, e2, e3, e4, e5⟩ := bring_L hn x d g (swp P (x + (d + 1)) (x + d)) (by omega) (by omega)
    have s1 : swp P (x + (d + 1)) (x + d) (x + d) = P (x + (d + 1)) := by rw [swp_at, if_pos rfl]
    have s2 : swp P (x + (d + 1)) (x + d) (x + (d + 1)) = P (x + d) := by rw [swp_at, if_neg (by omega), if_pos rfl]
    have s3 : ∀ i, i ≠ x + d → i ≠ x + (d + 1) → swp P (x + (d + 1)) (x + d) i = P i := fun i h1 h2 => by rw [swp_at, if_neg h1, if_neg h2]
    refine ⟨P', ?_, fun i hi => by rw [e2 i hi, s3 i (by omega) (by omega)], by rw [e3, s1], fun i h1 h2 => ?_, fun i hi => by rw [e5 i (by omega), s3 i (by omega) (by omega)]⟩
    · rw [f_Shop_bringTo_L9, chk_pos (by omega), chk_pos (by omega), if_neg (by omega), if_neg (by omega), bnd_eq ex, show ((x + (d + 1) : Nat) : Int) + -1 = ((x + d : Nat) : Int) by omega]
      exact e1
    · by_cases q : i = x + (d + 1)
      · subst q
        rw [e5 _ (by omega), s2, show x + (d + 1) - 1 = x + d by omega]
      · rw [e4 i h1 (by omega), s3 (i - 1) (by omega) (by omega)]
