/-! ===== the shop: what its functions come to ===== -/
def VK (F : Nat → Int) (b : Nat) : Prop := (0 ≤ F (6 * b) ∧ F (6 * b) ≤ 3) ∧ (1 ≤ F (6 * b + 1) ∧ F (6 * b + 1) ≤ 13) ∧ (0 ≤ F (6 * b + 2) ∧ F (6 * b + 2) ≤ 23) ∧ (1 ≤ F (6 * b + 3) ∧ F (6 * b + 3) ≤ 9) ∧ (0 ≤ F (6 * b + 4) ∧ F (6 * b + 4) ≤ 23) ∧ (0 ≤ F (6 * b + 5) ∧ F (6 * b + 5) ≤ 4)
def VS (n : Nat) (F P : Nat → Int) (st : Int) : Prop := n ≤ 5 ∧ (0 ≤ st ∧ st ≤ 23) ∧ (∀ b, b < n → VK F b) ∧ (∀ i, i < n → 0 ≤ P i ∧ P i < (n : Int)) ∧ (∀ i j, i < n → j < n → P i = P j → i = j)
/-- when the box in the i-th place is done: so much behind i boxes -/
def sDn (F P : Nat → Int) (st : Int) : Nat → Int
  | 0 => st
  | i + 1 => sDn F P st i + F (6 * (P i).toNat + 1)
def sPl (P : Nat → Int) (n b : Nat) : Nat := fnd (fun i => decide (P i = (b : Int))) (fun i => i) n 0 n
def sOwn (F P : Nat → Int) (st : Int) (n b : Nat) : Int := sDn F P st (sPl P n b + 1) % 24
def dst (d : Int) : Int := if 24 - d < d then 24 - d else d
def sWr (F : Nat → Int) (b : Nat) (done : Int) : Int := F (6 * b + 3) * dst ((done - F (6 * b + 2)) % 24)
def sAll (F P : Nat → Int) (st : Int) (n : Nat) : Int := fb_si (fun b => sWr F b (sOwn F P st n b)) n
def sLa (F : Nat → Int) (b : Nat) : Int := tLASTS (F (6 * b)).toNat
def sWin (F : Nat → Int) (r h : Int) : Nat → Int
  | 0 => -4
  | b + 1 => if (F (6 * b + 5) = r ∧ F (6 * b + 4) ≤ h ∧ h - F (6 * b + 4) < sLa F b) ∧ (sWin F r h b = -4 ∨ F (6 * (sWin F r h b).toNat + 4) ≤ F (6 * b + 4)) then (b : Int) else sWin F r h b
def sBy (F P : Nat → Int) (st : Int) (n b : Nat) (h : Int) : Int := (sOwn F P st n b + h - F (6 * b + 4)) % 24
def sTold (F P : Nat → Int) (st : Int) (n : Nat) (r h : Int) : Int := if sWin F r h n = -4 then h else sBy F P st n (sWin F r h n).toNat h
theorem within_eq (v a b : Int) (hv : inR v) (ha : inR a) (hb : inR b) : f_HH_within v a b = some (if a ≤ v ∧ v ≤ b then 1 else 0) := by
  unfold f_HH_within chk
  grind
theorem either_eq (v : Int) (hv : inR v) : f_HH_isEither v = some (if v = 0 ∨ v = 1 then 1 else 0) := by
  unfold f_HH_isEither chk
  grind
theorem hour_eq (v : Int) (hv : inR v) : f_HH_isHour v = some (if 0 ≤ v ∧ v ≤ 23 then 1 else 0) := by
  unfold f_HH_isHour
  rw [within_eq v 0 23 hv (by decide) (by decide)]
  unfold chk
  grind
theorem room_eq (v : Int) (hv : inR v) : f_HH_isRoom v = some (if 0 ≤ v ∧ v ≤ 4 then 1 else 0) := by
  unfold f_HH_isRoom
  rw [within_eq v 0 4 hv (by decide) (by decide)]
  unfold chk
  grind
theorem has_eq {n : Nat} (hn : n ≤ 5) (x : Int) (hx : inR x) : f_Shop_has n x = some (if 0 ≤ x ∧ x < n then 1 else 0) := by
  unfold f_Shop_has chk
  grind
theorem fact_eq {n : Nat} {F : Nat → Int} (hn : n ≤ 5) (b w : Int) (hb : 0 ≤ b ∧ b < n) (hw : 0 ≤ w ∧ w ≤ 5) : f_Shop_fact n F b w = some (F (6 * b.toNat + w.toNat)) := by
  have e : (b * 6 + w).toNat = 6 * b.toNat + w.toNat := by omega
  unfold f_Shop_fact chk
  grind
theorem fact0 {n : Nat} {F : Nat → Int} (hn : n ≤ 5) (b : Int) (hb : 0 ≤ b ∧ b < n) : f_Shop_fact n F b 0 = some (F (6 * b.toNat)) := fact_eq hn b 0 hb (by decide)
theorem fact1 {n : Nat} {F : Nat → Int} (hn : n ≤ 5) (b : Int) (hb : 0 ≤ b ∧ b < n) : f_Shop_fact n F b 1 = some (F (6 * b.toNat + 1)) := fact_eq hn b 1 hb (by decide)
theorem fact2 {n : Nat} {F : Nat → Int} (hn : n ≤ 5) (b : Int) (hb : 0 ≤ b ∧ b < n) : f_Shop_fact n F b 2 = some (F (6 * b.toNat + 2)) := fact_eq hn b 2 hb (by decide)
theorem fact3 {n : Nat} {F : Nat → Int} (hn : n ≤ 5) (b : Int) (hb : 0 ≤ b ∧ b < n) : f_Shop_fact n F b 3 = some (F (6 * b.toNat + 3)) := fact_eq hn b 3 hb (by decide)
theorem fact4 {n : Nat} {F : Nat → Int} (hn : n ≤ 5) (b : Int) (hb : 0 ≤ b ∧ b < n) : f_Shop_fact n F b 4 = some (F (6 * b.toNat + 4)) := fact_eq hn b 4 hb (by decide)
theorem fact5 {n : Nat} {F : Nat → Int} (hn : n ≤ 5) (b : Int) (hb : 0 ≤ b ∧ b < n) : f_Shop_fact n F b 5 = some (F (6 * b.toNat + 5)) := fact_eq hn b 5 hb (by decide)
theorem setFact_eq {n : Nat} {F : Nat → Int} (hn : n ≤ 5) (b w v : Int) (hb : 0 ≤ b ∧ b < n) (hw : 0 ≤ w ∧ w ≤ 5) : f_Shop_setFact n F b w v = some (upZ F (6 * b.toNat + w.toNat) v) := by
  have e : (b * 6 + w).toNat = 6 * b.toNat + w.toNat := by omega
  unfold f_Shop_setFact chk
  grind
theorem sumOf_eq {n : Nat} {F : Nat → Int} (hn : n ≤ 5) (w : Int) (hw : 0 ≤ w ∧ w ≤ 5) : f_Shop_sumOf n F w = some (fb_si (fun b => F (6 * b + w.toNat)) n) := by
  unfold f_Shop_sumOf
  have h := lup0 (fun fuel acc i => f_Shop_sumOf_L4 fuel n F w acc i) n (fun b acc => acc + F (6 * b + w.toNat)) some (fun _ _ => True)
    (fun fuel i b hi _ => ⟨by
      show f_Shop_sumOf_L4 (fuel + 1) n F w b i = _
      rw [f_Shop_sumOf_L4, fact_eq hn (i : Int) w (by omega) hw]
      simp (disch := omega) only [chk_pos, if_neg, Option.bind_some, Int.toNat_natCast], trivial⟩)
    (fun fuel b _ => by
      show f_Shop_sumOf_L4 (fuel + 1) n F w b n = _
      rw [f_Shop_sumOf_L4]
      simp (disch := omega) only [chk_pos, if_pos]) 0 5000 (by omega) trivial
  rw [bnd_eq h.1, itr_sum, Int.zero_add]
theorem sDn_bd {n : Nat} {F P : Nat → Int} {st : Int} (hV : VS n F P st) : ∀ i, i ≤ n → st ≤ sDn F P st i ∧ sDn F P st i ≤ st + 13 * i
  | 0, _ => by show st ≤ st ∧ st ≤ st + 13 * 0; omega
  | i + 1, h => by
    have h1 := sDn_bd hV i (by omega)
    have h2 := hV.2.2.2.1 i (by omega)
    have h3 := (hV.2.2.1 (P i).toNat (by omega)).2.1
    show st ≤ sDn F P st i + F (6 * (P i).toNat + 1) ∧ sDn F P st i + F (6 * (P i).toNat + 1) ≤ st + 13 * ((i + 1 : Nat) : Int)
    omega
theorem doneIn_eq {n : Nat} {F P : Nat → Int} {st : Int} (hV : VS n F P st) {x : Nat} (hx : x < n) : f_Shop_doneIn n st F P x = some (sDn F P st (x + 1)) := by
  have hn := hV.1
  unfold f_Shop_doneIn
  have h := lup0 (fun fuel acc i => f_Shop_doneIn_L7 fuel n F P x acc i) (x + 1) (fun i acc => acc + F (6 * (P i).toNat + 1)) some (fun _ _ => True)
    (fun fuel i b hi _ => ⟨by
      show f_Shop_doneIn_L7 (fuel + 1) n F P x b i = _
      have hp := hV.2.2.2.1 i (by omega)
      rw [f_Shop_doneIn_L7, Int.toNat_natCast, fact_eq hn (P i) 1 hp (by decide)]
      simp (disch := omega) only [chk_pos, if_neg, Option.bind_some]
      rfl, trivial⟩)
    (fun fuel b _ => by
      show f_Shop_doneIn_L7 (fuel + 1) n F P x b ((x + 1 : Nat) : Int) = _
      rw [f_Shop_doneIn_L7]
      by_cases c : (n : Int) ≤ ((x + 1 : Nat) : Int)
      · simp (disch := omega) only [chk_pos, if_pos]
      · simp (disch := omega) only [chk_pos, if_pos]) st 5000 (by omega) trivial
  rw [bnd_eq h.1]
  congr 1
  have hg : ∀ k, itr (fun i acc => acc + F (6 * (P i).toNat + 1)) 0 k st = sDn F P st k := fun k => by
    induction k with
    | zero => rfl
    | succ k ih => rw [itr_succ, ih, Nat.zero_add]; rfl
  exact hg (x + 1)
theorem sPl_spec {n : Nat} {F P : Nat → Int} {st : Int} (hV : VS n F P st) {b : Nat} (hb : b < n) : sPl P n b < n ∧ P (sPl P n b) = (b : Int) := by
  obtain ⟨i, hi, he⟩ := fb_onto (n := n) (f := fun i => (P i).toNat) (fun i hi => by have := hV.2.2.2.1 i hi; omega) (fun i j hij hj e => by
    have h1 := hV.2.2.2.1 i (by omega)
    have h2 := hV.2.2.2.1 j hj
    have h3 := hV.2.2.2.2 i j (by omega) hj (by omega)
    omega) hb
  have h1 := hV.2.2.2.1 i hi
  have e : sPl P n b = i := fnd_at n 0 i (by omega) (by omega) (by simp only [decide_eq_true_eq]; omega) (fun m _ hm => by
    simp only [decide_eq_false_iff_not]
    intro q
    have := hV.2.2.2.2 m i (by omega) hi (by omega)
    omega)
  rw [e]
  exact ⟨hi, by omega⟩
theorem sPl_of {n : Nat} {F P : Nat → Int} {st : Int} (hV : VS n F P st) {i : Nat} (hi : i < n) : sPl P n (P i).toNat = i := by
  have h1 := hV.2.2.2.1 i hi
  have h := sPl_spec hV (b := (P i).toNat) (by omega)
  exact hV.2.2.2.2 _ _ h.1 hi (by omega)
theorem own_at {n : Nat} {F P : Nat → Int} {st : Int} (hV : VS n F P st) {i0 : Nat} (h0 : i0 < n) : f_Shop_ownHour n st F P (P i0) = some (sDn F P st (i0 + 1) % 24) := by
  have hn := hV.1
  have hp0 := hV.2.2.2.1 i0 h0
  have key : ∀ (k i fuel : Nat), i + k = i0 → k < fuel → f_Shop_ownHour_L7 fuel n st F P (P i0) (sDn F P st i) i = some (sDn F P st (i0 + 1) % 24) := by
    intro k
    induction k with
    | zero =>
      intro i fuel hi hf
      obtain ⟨f, rfl⟩ : ∃ f, fuel = f + 1 := ⟨fuel - 1, by omega⟩
      obtain rfl : i = i0 := by omega
      have hb := sDn_bd hV (i + 1) (by omega)
      have hs := hV.2.1
      have e : sDn F P st i + F (6 * (P i).toNat + 1) = sDn F P st (i + 1) := rfl
      rw [f_Shop_ownHour_L7, Int.toNat_natCast, fact_eq hn (P i) 1 hp0 (by decide)]
      simp (disch := omega) only [chk_pos, if_neg, if_pos, Option.bind_some]
      show chk (0 ≤ sDn F P st (i + 1) ∧ sDn F P st (i + 1) < 2147483648) (some (sDn F P st (i + 1) % 24)) = _
      rw [chk_pos (by omega)]
    | succ k ih =>
      intro i fuel hi hf
      obtain ⟨f, rfl⟩ : ∃ f, fuel = f + 1 := ⟨fuel - 1, by omega⟩
      have hp := hV.2.2.2.1 i (by omega)
      have hne : P i ≠ P i0 := fun e => by have := hV.2.2.2.2 i i0 (by omega) h0 e; omega
      rw [f_Shop_ownHour_L7, Int.toNat_natCast, fact_eq hn (P i) 1 hp (by decide)]
      simp (disch := omega) only [chk_pos, if_neg, Option.bind_some]
      exact ih (i + 1) f (by omega) (by omega)
  exact key i0 0 5000 (by omega) (by omega)
theorem own_eq {n : Nat} {F P : Nat → Int} {st : Int} (hV : VS n F P st) (b : Int) (hb : 0 ≤ b ∧ b < n) : f_Shop_ownHour n st F P b = some (sOwn F P st n b.toNat) := by
  have h := sPl_spec hV (b := b.toNat) (by omega)
  have h2 := own_at hV h.1
  rw [h.2, Int.toNat_of_nonneg hb.1] at h2
  exact h2
theorem sOwn_bd {n : Nat} {F P : Nat → Int} {st : Int} {b : Nat} : 0 ≤ sOwn F P st n b ∧ sOwn F P st n b ≤ 23 := by unfold sOwn; omega
theorem wrongOf_eq {n : Nat} {F P : Nat → Int} {st : Int} (hV : VS n F P st) (b own : Int) (hb : 0 ≤ b ∧ b < n) (ho : 0 ≤ own ∧ own ≤ 1000) : f_Shop_wrongOf n F b own = some (sWr F b.toNat own) := by
  have hn := hV.1
  have hk := (hV.2.2.1 b.toNat (by omega)).2.2.1
  unfold f_Shop_wrongOf f_floorMod
  rw [fact_eq hn b 2 hb (by decide), fact_eq hn b 3 hb (by decide)]
  show Option.bind (chk (inR (own - F (6 * b.toNat + 2))) _) _ = _
  simp (disch := omega) only [chk_pos, Option.bind_some]
  rfl
theorem wrongOfAll_eq {n : Nat} {F P : Nat → Int} {st : Int} (hV : VS n F P st) : f_Shop_wrongOfAll n st F P = some (fb_si (fun i => sWr F (P i).toNat (sDn F P st (i + 1))) n) := by
  have hn := hV.1
  have hst := hV.2.1
  have key : ∀ (k i fuel : Nat) (acc : Int), i + k = n → k < fuel → f_Shop_wrongOfAll_L9 fuel n F P acc (sDn F P st i) i = some (acc + (fb_si (fun i => sWr F (P i).toNat (sDn F P st (i + 1))) n - fb_si (fun i => sWr F (P i).toNat (sDn F P st (i + 1))) i)) := by
    intro k
    induction k with
    | zero =>
      intro i fuel acc hi hf
      obtain ⟨f, rfl⟩ : ∃ f, fuel = f + 1 := ⟨fuel - 1, by omega⟩
      obtain rfl : i = n := by omega
      rw [f_Shop_wrongOfAll_L9]
      simp (disch := omega) only [chk_pos, if_pos]
      congr 1; omega
    | succ k ih =>
      intro i fuel acc hi hf
      obtain ⟨f, rfl⟩ : ∃ f, fuel = f + 1 := ⟨fuel - 1, by omega⟩
      have hp := hV.2.2.2.1 i (by omega)
      have hb := sDn_bd hV (i + 1) (by omega)
      rw [f_Shop_wrongOfAll_L9, Int.toNat_natCast, fact_eq hn (P i) 1 hp (by decide)]
      have e : sDn F P st i + F (6 * (P i).toNat + (1 : Int).toNat) = sDn F P st (i + 1) := rfl
      simp (disch := omega) only [chk_pos, if_neg, Option.bind_some]
      rw [e, wrongOf_eq hV (P i) _ hp (by omega), Option.bind_some]
      have h := ih (i + 1) f (acc + sWr F (P i).toNat (sDn F P st (i + 1))) (by omega) (by omega)
      rw [fb_si_succ] at h
      refine h.trans ?_
      congr 1; omega
  unfold f_Shop_wrongOfAll
  have h := key n 0 5000 0 (by omega) (by omega)
  refine (bnd_eq h).trans ?_
  exact congrArg some (by show 0 + (fb_si _ n - 0) = _; omega)
theorem sWr_mod (F : Nat → Int) (b : Nat) (d : Int) : sWr F b (d % 24) = sWr F b d := by
  unfold sWr
  rw [show (d % 24 - F (6 * b + 2)) % 24 = (d - F (6 * b + 2)) % 24 by omega]
theorem wrongAll_eq {n : Nat} {F P : Nat → Int} {st : Int} (hV : VS n F P st) : f_Shop_wrongOfAll n st F P = some (sAll F P st n) := by
  rw [wrongOfAll_eq hV]
  congr 1
  unfold sAll
  rw [← si_perm (fun b => sWr F b (sOwn F P st n b)) n (fun i => (P i).toNat) (fun i hi => by have := hV.2.2.2.1 i hi; omega) (fun i j hij hj e => by
    have h1 := hV.2.2.2.1 i (by omega)
    have h2 := hV.2.2.2.1 j hj
    have h3 := hV.2.2.2.2 i j (by omega) hj (by omega)
    omega)]
  refine fb_si_cong (fun i hi => ?_)
  show _ = sWr F (P i).toNat (sOwn F P st n (P i).toNat)
  unfold sOwn
  rw [sPl_of hV hi, sWr_mod]
