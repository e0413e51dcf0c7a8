/-! ===== out ===== -/
theorem nMask_test (p : Nat → Bool) (k i : Nat) : (nMask p k).testBit i = (decide (i < k) && p i) := by
  by_cases c : i < k
  · rw [Nat.testBit_eq_decide_div_mod_eq, nMask_bit p i k c, decide_eq_true c, Bool.true_and]
    by_cases d : p i = true
    · rw [if_pos d, d]; rfl
    · rw [if_neg d]; cases e : p i with
      | false => rfl
      | true => exact absurd e d
  · rw [Nat.testBit_lt_two_pow (Nat.lt_of_lt_of_le (nMask_lt p k) (Nat.pow_le_pow_right (by omega) (by omega))), decide_eq_false c, Bool.false_and]
theorem sM_or (p : Nat → Bool) (h : Nat) (hh : h < 24) : zor (sMask p 24) (zshl 1 h) = sMask (fun i => p i || decide (i = h)) 24 := by
  have h1 := nMask_lt p 24
  have h2 : 2 ^ h < 2 ^ 24 := Nat.pow_lt_pow_right (by omega) hh
  rw [show (2 : Nat) ^ 24 = 16777216 from rfl] at h1 h2
  rw [sMask_nat _ 24 (by omega), sMask_nat _ 24 (by omega), zshl_nat h (by omega), zor_nat _ _ (by omega) (by omega)]
  refine congrArg Int.ofNat (Nat.eq_of_testBit_eq (fun i => ?_))
  rw [Nat.testBit_or, nMask_test, nMask_test, Nat.testBit_two_pow]
  by_cases c : i = h
  · subst c; rw [decide_eq_true hh]; simp
  · have : ¬ h = i := fun e => c e.symm
    simp [c, this]
theorem sMask_skip {p : Nat → Bool} {a : Nat} : ∀ k, (∀ i, a ≤ i → i < a + k → p i = false) → sMask p (a + k) = sMask p a
  | 0, _ => rfl
  | k + 1, h => by
    show (if p (a + k) = true then zor (sMask p (a + k)) (zshl 1 ((a + k : Nat) : Int)) else sMask p (a + k)) = _
    rw [h (a + k) (by omega) (by omega), if_neg (by decide)]
    exact sMask_skip k (fun i h1 h2 => h i h1 (by omega))
/-- bits gathered over the rooms -/
def gth (c : Nat → Bool) : Nat → Nat → Bool
  | 0, _ => false
  | j + 1, i => gth c j i || (decide (i = j % 24) && c j)
theorem gth_iff (c : Nat → Bool) (i : Nat) : ∀ j, gth c j i = true ↔ ∃ k, k < j ∧ k % 24 = i ∧ c k = true
  | 0 => ⟨fun h => (Bool.noConfusion h), fun ⟨k, hk, _⟩ => by omega⟩
  | j + 1 => by
    show (gth c j i || (decide (i = j % 24) && c j)) = true ↔ _
    rw [Bool.or_eq_true, gth_iff c i j, Bool.and_eq_true, decide_eq_true_eq]
    constructor
    · rintro (⟨k, h1, h2⟩ | ⟨h1, h2⟩)
      · exact ⟨k, by omega, h2⟩
      · exact ⟨j, by omega, h1.symm, h2⟩
    · rintro ⟨k, h1, h2, h3⟩
      by_cases e : k = j
      · subst e; exact Or.inr ⟨h2.symm, h3⟩
      · exact Or.inl ⟨k, by omega, h2, h3⟩
theorem hoursBy_eq {n : Nat} {F P : Nat → Int} {st : Int} (hV : VS n F P st) (b : Nat) (hb : b < n) : f_Shop_hoursBy n F b = some (sMask (fun i => decide (sWin F (F (6 * b + 5)) (i : Nat) n = (b : Int))) 24) := by
  have hn := hV.1
  obtain ⟨hk0, hk1, hk2, hk3, hk4, hk5⟩ := hV.2.2.1 b hb
  have hl := sLa_bd F b
  obtain ⟨o, ho⟩ : ∃ o : Nat, F (6 * b + 4) = o := ⟨(F (6 * b + 4)).toNat, by omega⟩
  obtain ⟨la, hla⟩ : ∃ la : Nat, sLa F b = la := ⟨(sLa F b).toNat, by omega⟩
  have hsp : ∀ i : Nat, decide (sWin F (F (6 * b + 5)) (i : Nat) n = (b : Int)) = true → o ≤ i ∧ i < o + la := fun i q => by
    rw [decide_eq_true_eq] at q
    have h := sWin_spec (F := F) (r := F (6 * b + 5)) (h := i) n (by omega)
    rw [q, Int.toNat_natCast, ho, hla] at h
    omega
  have hsp2 : ∀ i : Nat, ¬ (o ≤ i ∧ i < o + la) → decide (sWin F (F (6 * b + 5)) (i : Nat) n = (b : Int)) = false := fun i q => by
    cases e : decide (sWin F (F (6 * b + 5)) (i : Nat) n = (b : Int)) with
    | false => rfl
    | true => exact absurd (hsp i e) q
  have e0 := fact0 (F := F) hn b (by omega)
  have e4 := fact4 (F := F) hn b (by omega)
  have e5 := fact5 (F := F) hn b (by omega)
  rw [Int.toNat_natCast] at e0 e4 e5
  have hmx : (if 0 < (o : Int) then (o : Int) else 0) = o := by split <;> omega
  have hlast : (if (o : Int) + tLASTS (F (6 * b)).toNat < 24 then (o : Int) + tLASTS (F (6 * b)).toNat else 24) = ((min 24 (o + la) : Nat) : Int) := by
    have : tLASTS (F (6 * b)).toNat = la := hla
    rw [this]
    split <;> omega
  have hla2 : tLASTS (F (6 * b)).toNat = la := hla
  unfold f_Shop_hoursBy
  rw [bnd_eq e4, chk_pos (by omega), bnd_eq e5, bnd_eq e0, bnd_eq (lastsOf_eq _ hk0), ho, hmx, hlast, chk_pos (by omega)]
  have h := lup (fun fuel acc i => f_Shop_hoursBy_L42 fuel n F b (F (6 * b + 5)) ((min 24 (o + la) : Nat) : Int) acc i) (min 24 (o + la)) (fun i acc => if decide (sWin F (F (6 * b + 5)) (i : Nat) n = (b : Int)) = true then zor acc (zshl 1 (i : Nat)) else acc) some (fun i acc => acc = sMask (fun i => decide (sWin F (F (6 * b + 5)) (i : Nat) n = (b : Int))) i)
    (fun fuel i acc hi hI => ⟨by
      have w1 := sWin_bd (F := F) (r := F (6 * b + 5)) (h := i) n
      show f_Shop_hoursBy_L42 (fuel + 1) n F b (F (6 * b + 5)) ((min 24 (o + la) : Nat) : Int) acc i = _
      rw [f_Shop_hoursBy_L42, chk_pos (by omega), chk_pos (by omega), if_neg (by omega), bnd_eq (boxAt_eq hV (F (6 * b + 5)) i (by omega) (by omega)), chk_pos (by omega), chk_pos (by omega)]
      by_cases c : sWin F (F (6 * b + 5)) (i : Nat) n = (b : Int)
      · rw [if_pos c, if_pos (decide_eq_true c)]
      · rw [if_neg c, if_neg (by rw [decide_eq_true_eq]; exact c)], by
      subst hI; rfl⟩)
    (fun fuel acc _ => by
      show f_Shop_hoursBy_L42 (fuel + 1) n F b (F (6 * b + 5)) ((min 24 (o + la) : Nat) : Int) acc ((min 24 (o + la) : Nat) : Int) = _
      rw [f_Shop_hoursBy_L42, chk_pos (by omega), chk_pos (by omega), if_pos (by omega)])
    (min 24 (o + la) - o) o 0 5000 (by omega) (by omega) (by
      have := sMask_skip (p := fun i => decide (sWin F (F (6 * b + 5)) (i : Nat) n = (b : Int))) (a := 0) o (fun i h1 h2 => hsp2 i (by omega))
      rw [Nat.zero_add] at this
      exact this.symm)
  rw [bnd_eq h.1, h.2]
  have := sMask_skip (p := fun i => decide (sWin F (F (6 * b + 5)) (i : Nat) n = (b : Int))) (a := min 24 (o + la)) (24 - min 24 (o + la)) (fun i h1 h2 => hsp2 i (by omega))
  rw [show min 24 (o + la) + (24 - min 24 (o + la)) = 24 by omega] at this
  rw [this]
theorem mout_eq {n : Nat} {st : Int} {F P N y t : Nat → Int} (hV : VS n F P st) (h : RD n st F P N y t) (b : Nat) (hb : b < n) : f_M_out_L18 5000 y b 0 0 = some (sMask (fun i => decide (sWin F (F (6 * b + 5)) (i : Nat) n = (b : Int))) 24) := by
  have hn := hV.1
  have h1 := lup0 (fun fuel acc i => f_M_out_L18 fuel y b acc i) 120 (fun j acc => if y j = (b : Int) then zor acc (zshl 1 ((j % 24 : Nat) : Int)) else acc) some (fun j acc => acc = sMask (gth (fun j => decide (y j = (b : Int))) j) 24)
    (fun fuel i acc hi hI => ⟨by
      have e := h.wy (i / 24) (i % 24) (by omega) (by omega)
      rw [show 24 * (i / 24) + i % 24 = i by omega] at e
      have hw := sWin_bd (F := F) (r := ((i / 24 : Nat) : Int)) (h := ((i % 24 : Nat) : Int)) n
      have hr : inR acc := by rw [hI]; exact sMask_in _ _
      show f_M_out_L18 (fuel + 1) y b acc i = _
      rw [f_M_out_L18, Int.toNat_natCast, chk_pos (by omega), if_neg (by omega), chk_pos (by omega), chk_pos (by omega), chk_pos (by omega), show ((i : Int) % 24) = ((i % 24 : Nat) : Int) by omega]
      by_cases c : y i = (b : Int)
      · rw [if_pos c, if_pos c, Option.bind_some, bnd_eq (flag_eq 1 (Or.inr rfl)), chk_pos (by omega)]
      · rw [if_neg c, if_neg c, Option.bind_some, bnd_eq (flag_eq 0 (Or.inl rfl)), chk_pos (by omega), zshl_0, zor_0 hr], by
      subst hI
      by_cases c : y i = (b : Int)
      · rw [if_pos c, sM_or _ _ (by omega)]
        exact sMask_cong (fun k _ => by
          show (gth _ i k || decide (k = i % 24)) = (gth _ i k || (decide (k = i % 24) && decide (y i = (b : Int))))
          rw [decide_eq_true c, Bool.and_true])
      · rw [if_neg c]
        exact sMask_cong (fun k _ => by
          show gth _ i k = (gth _ i k || (decide (k = i % 24) && decide (y i = (b : Int))))
          rw [decide_eq_false c, Bool.and_false, Bool.or_false])⟩)
    (fun fuel acc _ => by
      show f_M_out_L18 (fuel + 1) y b acc ((120 : Nat) : Int) = _
      rw [f_M_out_L18, chk_pos (by decide), if_pos (by decide)]) 0 5000 (by omega) (by
      have := sMask_skip (p := gth (fun j => decide (y j = (b : Int))) 0) (a := 0) 24 (fun _ _ _ => rfl)
      exact this.symm)
  refine Eq.trans h1.1 ?_
  rw [h1.2]
  refine congrArg some (sMask_cong (fun i hi => ?_))
  have hk5 := (hV.2.2.1 b hb).2.2.2.2.2
  rw [Bool.eq_iff_iff, gth_iff, decide_eq_true_eq]
  constructor
  · rintro ⟨k, h1, h2, h3⟩
    rw [decide_eq_true_eq] at h3
    have e := h.wy (k / 24) (k % 24) (by omega) (by omega)
    rw [show 24 * (k / 24) + k % 24 = k by omega, h3, h2] at e
    have hs := (sWin_spec (F := F) (r := ((k / 24 : Nat) : Int)) (h := i) n (by omega)).1
    rw [← e, Int.toNat_natCast] at hs
    rw [hs]; exact e.symm
  · intro q
    obtain ⟨R, hR⟩ : ∃ R : Nat, F (6 * b + 5) = R := ⟨(F (6 * b + 5)).toNat, by omega⟩
    refine ⟨24 * R + i, by omega, by omega, ?_⟩
    rw [decide_eq_true_eq, h.wy R i (by omega) hi, ← hR]
    exact q
theorem p_out {n : Nat} {st : Int} {F P S : Nat → Int} (h : RS n st F P S) (x : Int) (hx : inR x) (y N t : Nat → Int) : ∃ v w, inR v ∧ f_HH_out n F x = some v ∧ f_M_out y N S t x = some (v, w) := by
  have hV := h.1
  have hn := hV.1
  unfold f_HH_out f_M_out
  rw [gb (has_eq hn x hx), gb (mbox_eq h.2.2.1 hn x hx)]
  by_cases c : 0 ≤ x ∧ x < (n : Int)
  · rw [if_pos c, if_pos c]
    obtain ⟨b, rfl⟩ : ∃ b : Nat, x = b := ⟨x.toNat, by omega⟩
    obtain ⟨y', N', t', hl, hD⟩ := h.look y N t
    rw [bnd_eq hl, bnd_eq (hoursBy_eq hV b (by omega)), bnd_eq (mout_eq hV hD b (by omega))]
    exact ⟨_, _, sMask_in _ _, rfl, rfl⟩
  · rw [if_neg c, if_neg c]
    exact ⟨-1, _, by decide, rfl, rfl⟩
