/-! ===== the day of the class ===== -/
theorem tLASTS_bd (k : Nat) : 2 ≤ tLASTS k ∧ tLASTS k ≤ 8 := by
  unfold tLASTS; split <;> decide
theorem sLa_bd (F : Nat → Int) (b : Nat) : 2 ≤ sLa F b ∧ sLa F b ≤ 8 := tLASTS_bd _
theorem lastsOf_eq (k : Int) (hk : 0 ≤ k ∧ k ≤ 3) : f_Shop_lastsOf k = some (tLASTS k.toNat) := by
  unfold f_Shop_lastsOf
  simp (disch := omega) only [chk_pos, if_neg]
theorem sWin_bd {F : Nat → Int} {r h : Int} : ∀ n, sWin F r h n = -4 ∨ (0 ≤ sWin F r h n ∧ sWin F r h n < (n : Int))
  | 0 => Or.inl rfl
  | b + 1 => by
    have ih := sWin_bd (F := F) (r := r) (h := h) b
    unfold sWin
    split
    · right; omega
    · rcases ih with ih | ih
      · exact Or.inl ih
      · right; omega
theorem boxAt_eq {n : Nat} {F P : Nat → Int} {st : Int} (hV : VS n F P st) (r h : Int) (hr : inR r) (hh : 0 ≤ h ∧ h ≤ 23) : f_Shop_boxAt n F r h = some (sWin F r h n) := by
  have hn := hV.1
  have key : ∀ (k i fuel : Nat), i + k = n → k < fuel → f_Shop_boxAt_L9 fuel n F r h (sWin F r h i) (if sWin F r h i = -4 then 0 else F (6 * (sWin F r h i).toNat + 4)) i = some (sWin F r h n) := by
    intro k
    induction k with
    | zero =>
      intro i fuel hi hf
      obtain ⟨f, rfl⟩ : ∃ f, fuel = f + 1 := ⟨fuel - 1, by omega⟩
      obtain rfl : i = n := by omega
      rw [f_Shop_boxAt_L9]
      simp (disch := omega) only [chk_pos, if_pos]
    | succ k ih =>
      intro i fuel hi hf
      obtain ⟨f, rfl⟩ : ∃ f, fuel = f + 1 := ⟨fuel - 1, by omega⟩
      have hk := hV.2.2.1 i (by omega)
      obtain ⟨hk0, hk1, hk2, hk3, hk4, hk5⟩ := hk
      have hl := sLa_bd F i
      have hw := sWin_bd (F := F) (r := r) (h := h) i
      have ih := ih (i + 1) f (by omega) (by omega)
      rw [f_Shop_boxAt_L9, fact4 hn (i : Int) (by omega), fact5 hn (i : Int) (by omega), fact0 hn (i : Int) (by omega)]
      simp only [Option.bind_some, Int.toNat_natCast]
      have hlat : inR (if sWin F r h i = -4 then 0 else F (6 * (sWin F r h i).toNat + 4)) := by
        split
        · decide
        · rcases hw with hw | hw
          · exact absurd hw (by assumption)
          · have := (hV.2.2.1 (sWin F r h i).toNat (by omega)).2.2.2.2.1
            constructor <;> omega
      rw [lastsOf_eq (F (6 * i)) (by omega)]
      have hlast : tLASTS (F (6 * i)).toNat = sLa F i := rfl
      simp (disch := omega) only [chk_pos, if_neg, Option.bind_some]
      rw [hlast]
      have hstep : sWin F r h (i + 1) = if (F (6 * i + 5) = r ∧ F (6 * i + 4) ≤ h ∧ h - F (6 * i + 4) < sLa F i) ∧ (sWin F r h i = -4 ∨ F (6 * (sWin F r h i).toNat + 4) ≤ F (6 * i + 4)) then (i : Int) else sWin F r h i := rfl
      by_cases hc : (F (6 * i + 5) = r ∧ F (6 * i + 4) ≤ h ∧ h - F (6 * i + 4) < sLa F i) ∧ (sWin F r h i = -4 ∨ F (6 * (sWin F r h i).toNat + 4) ≤ F (6 * i + 4))
      · rw [if_pos hc] at hstep
        rw [hstep, if_neg (by omega), Int.toNat_natCast] at ih
        obtain ⟨⟨c1, c2, c3⟩, c4⟩ := hc
        have hlt : ¬ F (6 * i + 4) < (if sWin F r h i = -4 then 0 else F (6 * (sWin F r h i).toNat + 4)) := by
          split
          · omega
          · rcases c4 with c4 | c4
            · exact absurd c4 (by assumption)
            · omega
        rw [if_pos c1, if_neg hlt, if_neg (by omega), Option.bind_some, chk_pos (by decide), if_neg (by decide), if_neg (by omega)]
        exact ih
      · rw [if_neg hc] at hstep
        rw [hstep] at ih
        by_cases c1 : F (6 * i + 5) = r
        · rw [if_pos c1]
          by_cases c2 : F (6 * i + 4) < (if sWin F r h i = -4 then 0 else F (6 * (sWin F r h i).toNat + 4))
          · rw [if_pos c2, Option.bind_some, chk_pos (by decide), if_pos rfl]
            exact ih
          · rw [if_neg c2]
            by_cases c3 : h < F (6 * i + 4)
            · rw [if_pos c3, Option.bind_some, chk_pos (by decide), if_pos rfl]
              exact ih
            · rw [if_neg c3, Option.bind_some, chk_pos (by decide), if_neg (by decide)]
              have c4 : sWin F r h i = -4 ∨ F (6 * (sWin F r h i).toNat + 4) ≤ F (6 * i + 4) := by
                by_cases q : sWin F r h i = -4
                · exact Or.inl q
                · rw [if_neg q] at c2
                  right; omega
              rw [if_pos (by
                by_cases q : sLa F i ≤ h - F (6 * i + 4)
                · exact q
                · exact absurd ⟨⟨c1, by omega, by omega⟩, c4⟩ hc)]
              exact ih
        · rw [if_neg c1, Option.bind_some, chk_pos (by decide), if_pos rfl]
          exact ih
  unfold f_Shop_boxAt
  have h1 := key n 0 5000 (by omega) (by omega)
  exact (bnd_eq h1)
theorem oclockBy_eq {n : Nat} {F P : Nat → Int} {st : Int} (hV : VS n F P st) (b h : Int) (hb : 0 ≤ b ∧ b < n) (hh : 0 ≤ h ∧ h ≤ 23) : f_Shop_oclockBy n st F P b h = some (sBy F P st n b.toNat h) := by
  have hk := (hV.2.2.1 b.toNat (by omega)).2.2.2.2.1
  have ho := sOwn_bd (F := F) (P := P) (st := st) (n := n) (b := b.toNat)
  unfold f_Shop_oclockBy f_floorMod
  rw [own_eq hV b hb, fact4 hV.1 b hb]
  simp (disch := omega) only [chk_pos, Option.bind_some]
  rfl
theorem oclock_eq {n : Nat} {F P : Nat → Int} {st : Int} (hV : VS n F P st) (r h : Int) (hr : inR r) (hh : 0 ≤ h ∧ h ≤ 23) : f_Shop_oclock n st F P r h = some (sTold F P st n r h) := by
  have hw := sWin_bd (F := F) (r := r) (h := h) n
  have hn := hV.1
  unfold f_Shop_oclock sTold
  rw [boxAt_eq hV r h hr hh, Option.bind_some]
  rcases hw with hw | hw
  · rw [hw, chk_pos (by decide), if_pos rfl, if_pos rfl]
  · rw [chk_pos (by omega), if_neg (by omega), if_neg (by omega), oclockBy_eq hV _ h hw hh, Option.bind_some]
theorem sTold_bd {n : Nat} {F P : Nat → Int} {st : Int} (r h : Int) (hh : 0 ≤ h ∧ h ≤ 23) : 0 ≤ sTold F P st n r h ∧ sTold F P st n r h ≤ 23 := by
  unfold sTold sBy
  split <;> omega
