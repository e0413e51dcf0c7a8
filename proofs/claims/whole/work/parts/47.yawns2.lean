/-! ===== yawns of a room, of all; both sides ===== -/
def sYin (F P : Nat → Int) (st : Int) (n : Nat) (r : Int) : Int := fb_si (fun h => if 6 ≤ h ∧ sTold F P st n r (h : Nat) < 6 then 1 else 0) 24
def sYall (F P : Nat → Int) (st : Int) (n : Nat) : Int := fb_si (fun r => sYin F P st n (r : Nat)) 5
theorem sYin_bd (F P : Nat → Int) (st : Int) (n : Nat) (r : Int) : 0 ≤ sYin F P st n r ∧ sYin F P st n r ≤ 24 := si_bd01 (fun k => by
  show 0 ≤ (if 6 ≤ k ∧ sTold F P st n r (k : Nat) < 6 then (1 : Int) else 0) ∧ (if 6 ≤ k ∧ sTold F P st n r (k : Nat) < 6 then (1 : Int) else 0) ≤ 1
  split <;> omega) 24
/-- a yawn in a room at an hour is by one box -/
theorem yawn_one {n : Nat} {F P : Nat → Int} {st : Int} (r : Int) (h : Nat) : fb_si (fun b => if F (6 * b + 5) = r then sInd F P st n b h else 0) n = (if 6 ≤ h ∧ sTold F P st n r h < 6 then 1 else 0) := by
  have hw := sWin_bd (F := F) (r := r) (h := (h : Int)) n
  by_cases c : sWin F r h n = -4
  · rw [if_neg (fun q => by
      have := q.2
      unfold sTold at this
      rw [if_pos c] at this
      omega)]
    refine si_zero (fun b hb => ?_)
    by_cases q : F (6 * b + 5) = r
    · rw [if_pos q]
      unfold sInd
      rw [q]
      exact if_neg (fun z => by omega)
    · exact if_neg q
  · have hs := sWin_spec (F := F) (r := r) (h := (h : Int)) n c
    generalize hg : (sWin F r h n).toNat = b0 at hs
    have hw2 : sWin F r h n = (b0 : Int) := by omega
    have hb0 : b0 < n := by omega
    have e := si_one (f := fun b => if F (6 * b + 5) = r then sInd F P st n b h else 0) hb0 (fun b hb hne => by
      by_cases q : F (6 * b + 5) = r
      · show (if F (6 * b + 5) = r then sInd F P st n b h else 0) = 0
        rw [if_pos q]
        unfold sInd
        rw [q]
        exact if_neg (fun z => by omega)
      · exact if_neg q)
    rw [e]
    show (if F (6 * b0 + 5) = r then sInd F P st n b0 h else 0) = _
    rw [if_pos hs.1]
    have ht : sTold F P st n r h = sBy F P st n b0 h := by
      unfold sTold
      rw [if_neg c, hg]
    rw [ht]
    unfold sInd
    rw [hs.1, hw2]
    by_cases q : 6 ≤ h ∧ sBy F P st n b0 h < 6
    · rw [if_pos q, if_pos ⟨q.1, by omega, by omega, q.2, rfl⟩]
    · rw [if_neg q, if_neg (fun z => q ⟨z.1, z.2.2.2.1⟩)]
theorem yin_sum {n : Nat} {F P : Nat → Int} {st : Int} (r : Int) : sYin F P st n r = fb_si (fun b => if F (6 * b + 5) = r then sY F P st n b else 0) n := by
  unfold sYin
  have e1 : fb_si (fun h => if 6 ≤ h ∧ sTold F P st n r (h : Nat) < 6 then (1 : Int) else 0) 24 = fb_si (fun h => fb_si (fun b => if F (6 * b + 5) = r then sInd F P st n b h else 0) n) 24 := fb_si_cong (fun h _ => (yawn_one r h).symm)
  rw [e1, si_swap]
  refine fb_si_cong (fun b _ => ?_)
  by_cases q : F (6 * b + 5) = r
  · simp only [if_pos q]; rfl
  · simp only [if_neg q]; exact si_zero (fun _ _ => rfl)
theorem yall_sum {n : Nat} {F P : Nat → Int} {st : Int} (hV : VS n F P st) : sYall F P st n = fb_si (fun b => sY F P st n b) n := by
  unfold sYall
  have e1 : fb_si (fun r => sYin F P st n (r : Nat)) 5 = fb_si (fun r => fb_si (fun b => if F (6 * b + 5) = ((r : Nat) : Int) then sY F P st n b else 0) n) 5 := fb_si_cong (fun r _ => yin_sum _)
  rw [e1, si_swap]
  refine fb_si_cong (fun b hb => ?_)
  have hk := (hV.2.2.1 b hb).2.2.2.2.2
  have e := si_one (f := fun r => if F (6 * b + 5) = ((r : Nat) : Int) then sY F P st n b else 0) (n := 5) (i := (F (6 * b + 5)).toNat) (by omega) (fun r hr hne => by
    exact if_neg (fun q => hne (by omega)))
  rw [e]
  exact if_pos (by omega)
theorem yawnsIn_eq {n : Nat} {F P : Nat → Int} {st : Int} (hV : VS n F P st) (r : Int) (hr : inR r) : f_Shop_yawnsIn n st F P r = some (sYin F P st n r) := by
  have hn := hV.1
  unfold f_Shop_yawnsIn
  have h := lup0 (fun fuel acc i => f_Shop_yawnsIn_L4 fuel n st F P r acc i) n (fun b acc => acc + (if F (6 * b + 5) = r then sY F P st n b else 0)) some (fun _ _ => True)
    (fun fuel i b hi _ => ⟨by
      show f_Shop_yawnsIn_L4 (fuel + 1) n st F P r b i = _
      have hk := (hV.2.2.1 i hi).2.2.2.2.2
      have f5 := fact5 (F := F) hn (i : Int) (by omega)
      rw [Int.toNat_natCast] at f5
      rw [f_Shop_yawnsIn_L4, chk_pos (by omega), chk_pos (by omega), if_neg (by omega), bnd_eq f5, chk_pos (by omega), chk_pos hr]
      by_cases c : F (6 * i + 5) = r
      · rw [if_pos c, if_pos c, bnd_eq (yawnsBy_eq hV i hi)]
      · rw [if_neg c, if_neg c, Int.add_zero], trivial⟩)
    (fun fuel b _ => by
      show f_Shop_yawnsIn_L4 (fuel + 1) n st F P r b n = _
      rw [f_Shop_yawnsIn_L4, chk_pos (by omega), chk_pos (by omega), if_pos (by omega)]) 0 5000 (by omega) trivial
  rw [bnd_eq h.1, itr_sum, Int.zero_add, yin_sum]
theorem yawnsAll_eq {n : Nat} {F P : Nat → Int} {st : Int} (hV : VS n F P st) : f_Shop_yawnsOfAll n st F P = some (sYall F P st n) := by
  have hn := hV.1
  unfold f_Shop_yawnsOfAll
  have h := lup0 (fun fuel acc i => f_Shop_yawnsOfAll_L4 fuel n st F P acc i) n (fun b acc => acc + sY F P st n b) some (fun _ _ => True)
    (fun fuel i b hi _ => ⟨by
      show f_Shop_yawnsOfAll_L4 (fuel + 1) n st F P b i = _
      rw [f_Shop_yawnsOfAll_L4, chk_pos (by omega), chk_pos (by omega), if_neg (by omega), bnd_eq (yawnsBy_eq hV i hi)], trivial⟩)
    (fun fuel b _ => by
      show f_Shop_yawnsOfAll_L4 (fuel + 1) n st F P b n = _
      rw [f_Shop_yawnsOfAll_L4, chk_pos (by omega), chk_pos (by omega), if_pos (by omega)]) 0 5000 (by omega) trivial
  rw [bnd_eq h.1, itr_sum, Int.zero_add, yall_sum hV]
/-- a table of the reference that holds the day -/
def TD (S : Nat → Int) (n : Nat) (y t : Nat → Int) : Prop := ∀ j, j < 120 → y j = tW S n j ∧ t j = tT S n n j
theorem TD.at {S : Nat → Int} {n : Nat} {y t : Nat → Int} (h : TD S n y t) (r x : Nat) (hr : r < 5) (hx : x < 24) : y (24 * r + x) = sWin S r x n ∧ t (24 * r + x) = sTold S (oP S) (S 36) n r x := by
  have h1 := h (24 * r + x) (by omega)
  unfold tT tW at h1
  rw [show (24 * r + x) / 24 = r by omega, show (24 * r + x) % 24 = x by omega] at h1
  exact h1
theorem myawnsOf_eq {S : Nat → Int} {n : Nat} {y t : Nat → Int} (h : TD S n y t) (r : Nat) (hr : r < 5) : f_M_yawnsOf t r = some (sYin S (oP S) (S 36) n r) := by
  have key : ∀ (k i fuel : Nat) (acc : Int), i + k = 24 → 6 ≤ i → k < fuel → f_M_yawnsOf_L5 fuel t r acc i = some (acc + (sYin S (oP S) (S 36) n r - fb_si (fun h => if 6 ≤ h ∧ sTold S (oP S) (S 36) n r (h : Nat) < 6 then 1 else 0) i)) := by
    intro k
    induction k with
    | zero =>
      intro i fuel acc hi h6 hf
      obtain ⟨f, rfl⟩ : ∃ f, fuel = f + 1 := ⟨fuel - 1, by omega⟩
      obtain rfl : i = 24 := by omega
      rw [f_M_yawnsOf_L5, chk_pos (by decide), if_pos (by decide)]
      unfold sYin
      exact congrArg some (by omega)
    | succ k ih =>
      intro i fuel acc hi h6 hf
      obtain ⟨f, rfl⟩ : ∃ f, fuel = f + 1 := ⟨fuel - 1, by omega⟩
      have ht := (h.at r i hr (by omega)).2
      have hb := sTold_bd (F := S) (P := oP S) (st := S 36) (n := n) (r : Int) (i : Int) (by omega)
      rw [f_M_yawnsOf_L5, chk_pos (by omega), if_neg (by omega), chk_pos (by omega), show (24 * (r : Int) + (i : Int)).toNat = 24 * r + i by omega, ht, chk_pos (by omega)]
      by_cases c : 6 ≤ sTold S (oP S) (S 36) n r i
      · rw [if_pos c, Option.bind_some, bnd_eq (flag_eq 0 (Or.inl rfl))]
        have h1 := ih (i + 1) f (acc + 0) (by omega) (by omega) (by omega)
        rw [fb_si_succ, if_neg (fun q => by omega)] at h1
        refine h1.trans (congrArg some ?_)
        omega
      · rw [if_neg c, Option.bind_some, bnd_eq (flag_eq 1 (Or.inr rfl))]
        have h1 := ih (i + 1) f (acc + 1) (by omega) (by omega) (by omega)
        rw [fb_si_succ, if_pos ⟨h6, by omega⟩] at h1
        refine h1.trans (congrArg some ?_)
        omega
  unfold f_M_yawnsOf
  have h1 := key 18 6 5000 0 (by omega) (by omega) (by omega)
  have h1 : f_M_yawnsOf_L5 5000 t r 0 6 = _ := h1
  rw [bnd_eq h1]
  have hz : fb_si (fun h => if 6 ≤ h ∧ sTold S (oP S) (S 36) n r (h : Nat) < 6 then (1 : Int) else 0) 6 = 0 := si_zero (fun k hk => if_neg (fun q => by omega))
  exact congrArg some (by omega)
theorem myawns_eq {S : Nat → Int} {n : Nat} {y t : Nat → Int} (h : TD S n y t) : f_M_yawns t = some (sYall S (oP S) (S 36) n) := by
  unfold f_M_yawns
  have h1 := lup0 (fun fuel acc i => f_M_yawns_L4 fuel t acc i) 5 (fun r acc => acc + sYin S (oP S) (S 36) n (r : Nat)) some (fun _ _ => True)
    (fun fuel i b hi _ => ⟨by
      show f_M_yawns_L4 (fuel + 1) t b i = _
      rw [f_M_yawns_L4, chk_pos (by omega), if_neg (by omega), bnd_eq (myawnsOf_eq h i hi)], trivial⟩)
    (fun fuel b _ => by
      show f_M_yawns_L4 (fuel + 1) t b ((5 : Nat) : Int) = _
      rw [f_M_yawns_L4, chk_pos (by decide), if_pos (by decide)]) 0 5000 (by omega) trivial
  rw [bnd_eq h1.1, itr_sum, Int.zero_add]
  rfl
