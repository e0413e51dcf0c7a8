/-! ===== yawns ===== -/
theorem sWin_spec {F : Nat → Int} {r h : Int} : ∀ (n : Nat), ¬ sWin F r h n = -4 → F (6 * (sWin F r h n).toNat + 5) = r ∧ F (6 * (sWin F r h n).toNat + 4) ≤ h ∧ h - F (6 * (sWin F r h n).toNat + 4) < sLa F (sWin F r h n).toNat
  | 0, hn => absurd rfl hn
  | b + 1, hn => by
    have ih := sWin_spec (F := F) (r := r) (h := h) b
    unfold sWin at hn ⊢
    by_cases c : (F (6 * b + 5) = r ∧ F (6 * b + 4) ≤ h ∧ h - F (6 * b + 4) < sLa F b) ∧ (sWin F r h b = -4 ∨ F (6 * (sWin F r h b).toNat + 4) ≤ F (6 * b + 4))
    · rw [if_pos c, Int.toNat_natCast]; exact c.1
    · rw [if_neg c] at hn ⊢; exact ih hn
def sInd (F P : Nat → Int) (st : Int) (n b h : Nat) : Int := if 6 ≤ h ∧ F (6 * b + 4) ≤ (h : Int) ∧ (h : Int) < F (6 * b + 4) + sLa F b ∧ sBy F P st n b h < 6 ∧ sWin F (F (6 * b + 5)) h n = (b : Int) then 1 else 0
def sY (F P : Nat → Int) (st : Int) (n b : Nat) : Int := fb_si (fun h => sInd F P st n b h) 24
theorem sInd_bd (F P : Nat → Int) (st : Int) (n b h : Nat) : 0 ≤ sInd F P st n b h ∧ sInd F P st n b h ≤ 1 := by unfold sInd; split <;> omega
theorem si_bd01 {f : Nat → Int} (hf : ∀ k, 0 ≤ f k ∧ f k ≤ 1) : ∀ n : Nat, 0 ≤ fb_si f n ∧ fb_si f n ≤ n
  | 0 => by show (0 : Int) ≤ 0 ∧ (0 : Int) ≤ 0; omega
  | n + 1 => by
    have h1 := si_bd01 hf n
    have h2 := hf n
    rw [fb_si_succ]; omega
theorem sY_bd (F P : Nat → Int) (st : Int) (n b : Nat) : 0 ≤ sY F P st n b ∧ sY F P st n b ≤ 24 := si_bd01 (fun k => sInd_bd F P st n b k) 24
theorem yawnsBy_eq {n : Nat} {F P : Nat → Int} {st : Int} (hV : VS n F P st) (b : Nat) (hb : b < n) : f_Shop_yawnsBy n st F P b = some (sY F P st n b) := by
  have hn := hV.1
  obtain ⟨hk0, hk1, hk2, hk3, hk4, hk5⟩ := hV.2.2.1 b hb
  have hl := sLa_bd F b
  have how := sOwn_bd (F := F) (P := P) (st := st) (n := n) (b := b)
  obtain ⟨o, ho⟩ := Int.eq_ofNat_of_zero_le hk4.1
  have f4 := fact4 (F := F) hn (b : Int) (by omega)
  have f5 := fact5 (F := F) hn (b : Int) (by omega)
  have f0 := fact0 (F := F) hn (b : Int) (by omega)
  have fo := own_eq hV (b : Int) (by omega)
  have fl := lastsOf_eq (F (6 * b)) (by omega)
  rw [Int.toNat_natCast] at f4 f5 f0 fo
  have key : ∀ (k i fuel : Nat) (acc : Int), i + k = min 24 (o + (sLa F b).toNat) → o ≤ i → 6 ≤ i → k < fuel → f_Shop_yawnsBy_L50 fuel n F b o (F (6 * b + 5)) ((min 24 (o + (sLa F b).toNat) : Nat) : Int) (sOwn F P st n b) acc i = some (acc + (fb_si (fun h => sInd F P st n b h) (min 24 (o + (sLa F b).toNat)) - fb_si (fun h => sInd F P st n b h) i)) := by
    intro k
    induction k with
    | zero =>
      intro i fuel acc hi hoi h6 hf
      obtain ⟨f, rfl⟩ : ∃ f, fuel = f + 1 := ⟨fuel - 1, by omega⟩
      have hi : i = min 24 (o + (sLa F b).toNat) := by omega
      rw [← hi, f_Shop_yawnsBy_L50, chk_pos (by omega), chk_pos (by omega), if_pos (by omega)]
      exact congrArg some (by omega)
    | succ k ih =>
      intro i fuel acc hi hoi h6 hf
      obtain ⟨f, rfl⟩ : ∃ f, fuel = f + 1 := ⟨fuel - 1, by omega⟩
      have hbx := boxAt_eq hV (F (6 * b + 5)) i (by constructor <;> omega) (by omega)
      have hwb := sWin_bd (F := F) (r := F (6 * b + 5)) (h := (i : Int)) n
      have hm : sBy F P st n b i = (sOwn F P st n b + (i : Int) - (o : Int)) % 24 := by unfold sBy; rw [ho]
      rw [f_Shop_yawnsBy_L50, chk_pos (by omega), chk_pos (by omega), if_neg (by omega), chk_pos (by omega), chk_pos (by omega)]
      by_cases c : 6 ≤ (sOwn F P st n b + (i : Int) - (o : Int)) % 24
      · rw [if_pos c]
        have h1 := ih (i + 1) f acc (by omega) (by omega) (by omega) (by omega)
        rw [fb_si_succ] at h1
        have e : sInd F P st n b i = 0 := by
          unfold sInd; exact if_neg (fun q => by omega)
        refine h1.trans (congrArg some ?_)
        omega
      · rw [if_neg c, bnd_eq hbx, chk_pos (by omega), chk_pos (by omega)]
        by_cases c2 : sWin F (F (6 * b + 5)) i n = (b : Int)
        · rw [if_pos c2]
          have h1 := ih (i + 1) f (acc + 1) (by omega) (by omega) (by omega) (by omega)
          rw [fb_si_succ] at h1
          have e : sInd F P st n b i = 1 := by
            unfold sInd; exact if_pos ⟨h6, by omega, by omega, by omega, c2⟩
          refine h1.trans (congrArg some ?_)
          omega
        · rw [if_neg c2]
          have h1 := ih (i + 1) f acc (by omega) (by omega) (by omega) (by omega)
          rw [fb_si_succ] at h1
          have e : sInd F P st n b i = 0 := by
            unfold sInd; exact if_neg (fun q => c2 q.2.2.2.2)
          refine h1.trans (congrArg some ?_)
          omega
  have z1 : ∀ a, a ≤ 6 ∨ a ≤ o → fb_si (fun h => sInd F P st n b h) a = 0 := fun a ha => si_zero (fun k hk => by
    show sInd F P st n b k = 0
    unfold sInd; exact if_neg (fun q => by omega))
  have z2 : ∀ k, min 24 (o + (sLa F b).toNat) + k ≤ 24 → fb_si (fun h => sInd F P st n b h) (min 24 (o + (sLa F b).toNat) + k) = fb_si (fun h => sInd F P st n b h) (min 24 (o + (sLa F b).toNat)) := fun k => by
    induction k with
    | zero => intro _; rfl
    | succ k ih =>
      intro hk
      rw [← Nat.add_assoc, fb_si_succ, ih (by omega)]
      have e : sInd F P st n b (min 24 (o + (sLa F b).toNat) + k) = 0 := by
        unfold sInd; exact if_neg (fun q => by omega)
      omega
  have z3 := z2 (24 - min 24 (o + (sLa F b).toNat)) (by omega)
  rw [show min 24 (o + (sLa F b).toNat) + (24 - min 24 (o + (sLa F b).toNat)) = 24 by omega] at z3
  have em : (if (o : Int) + sLa F b < 24 then (o : Int) + sLa F b else 24) = ((min 24 (o + (sLa F b).toNat) : Nat) : Int) := by split <;> omega
  have eo : (if (o : Int) < 6 then (6 : Int) else (o : Int)) = ((max 6 o : Nat) : Int) := by split <;> omega
  unfold f_Shop_yawnsBy
  rw [ho] at f4
  have fl : f_Shop_lastsOf (F (6 * b)) = some (sLa F b) := fl
  rw [bnd_eq f4, bnd_eq f5, bnd_eq f0, bnd_eq fl, chk_pos (by omega), bnd_eq fo, chk_pos (by omega), em, eo]
  unfold sY
  rcases Nat.lt_or_ge (min 24 (o + (sLa F b).toNat)) (max 6 o) with q | q
  · have hz := z1 (min 24 (o + (sLa F b).toNat)) (by omega)
    have e9 : f_Shop_yawnsBy_L50 5000 n F b o (F (6 * b + 5)) ((min 24 (o + (sLa F b).toNat) : Nat) : Int) (sOwn F P st n b) 0 ((max 6 o : Nat) : Int) = some 0 := by
      rw [f_Shop_yawnsBy_L50, chk_pos (by omega), chk_pos (by omega), if_pos (by omega)]
    rw [bnd_eq e9]
    exact congrArg some (by omega)
  · have h1 := key (min 24 (o + (sLa F b).toNat) - max 6 o) (max 6 o) 5000 0 (by omega) (by omega) (by omega) (by omega)
    rw [bnd_eq h1]
    have hz : fb_si (fun h => sInd F P st n b h) (max 6 o) = 0 := by
      rcases Nat.le_total 6 o with r | r
      · rw [show max 6 o = o by omega]; exact z1 o (Or.inr (Nat.le_refl _))
      · rw [show max 6 o = 6 by omega]; exact z1 6 (Or.inl (Nat.le_refl _))
    exact congrArg some (by omega)
