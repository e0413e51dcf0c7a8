/-! ===== the class beside the reference ===== -/
def RS (n : Nat) (st : Int) (F P S : Nat → Int) : Prop := VS n F P st ∧ (∀ b, b < n → F (6 * b + 1) ≤ 12) ∧ S 30 = (n : Int) ∧ S 36 = st ∧ (∀ k, k < 6 * n → F k = S k) ∧ ∀ i, i < n → P i = S (31 + i)
theorem fetch_eq (N S : Nat → Int) : ∃ N', f_M_fetches N S = some N' ∧ ∀ j, j < 56 → N' j = S j := by
  unfold f_M_fetches
  have h := lup0 (fun fuel (b : Nat → Int) i => f_M_fetches_L2 fuel b S i) 56 (fun i b => upZ b i (S i)) some (fun i b => ∀ j, j < i → b j = S j)
    (fun fuel i b hi hI => ⟨by
      show f_M_fetches_L2 (fuel + 1) b S i = _
      rw [f_M_fetches_L2, Int.toNat_natCast]
      simp (disch := omega) only [chk_pos, if_neg], fun j hj => by
      by_cases c : j = i
      · subst c; exact upZ_same _ _ _
      · show upZ b i _ j = _
        rw [upZ_ne _ _ c]; exact hI j (by omega)⟩)
    (fun fuel b _ => by
      show f_M_fetches_L2 (fuel + 1) b S ((56 : Nat) : Int) = _
      rw [f_M_fetches_L2, chk_pos (by decide), if_pos (by decide)]) N 5000 (by omega) (fun j hj => by omega)
  exact ⟨_, bnd_eq h.1, h.2⟩
/-- the row at hand is the kept one -/
def RN (n : Nat) (st : Int) (F P N : Nat → Int) : Prop := VN n N ∧ ES n N (oP N) F P ∧ N 36 = st
theorem RN.vn {n : Nat} {st : Int} {F P N : Nat → Int} (h : RN n st F P N) : VN n N := h.1
theorem RN.es {n : Nat} {st : Int} {F P N : Nat → Int} (h : RN n st F P N) : ES n N (oP N) F P := h.2.1
theorem RN.e36 {n : Nat} {st : Int} {F P N : Nat → Int} (h : RN n st F P N) : N 36 = st := h.2.2
theorem RS.rn {n : Nat} {st : Int} {F P S N : Nat → Int} (h : RS n st F P S) (hN : ∀ j, j < 56 → N j = S j) : RN n st F P N := by
  obtain ⟨hV, _, h30, h36, hF, hP⟩ := h
  have hn := hV.1
  have es : ES n N (oP N) F P := ⟨fun k hk => by rw [hN k (by omega), hF k hk], fun i hi => by show N (31 + i) = _; rw [hN _ (by omega), hP i hi]⟩
  have e36 : N 36 = st := by rw [hN 36 (by omega), h36]
  refine ⟨⟨by rw [hN 30 (by omega), h30], ?_⟩, es, e36⟩
  rw [e36]
  exact hV.cong es.symm
/-- the day at hand -/
def RD (n : Nat) (st : Int) (F P N y t : Nat → Int) : Prop := RN n st F P N ∧ (∀ r x : Nat, r < 5 → x < 24 → y (24 * r + x) = sWin F r x n) ∧ (∀ r x : Nat, r < 5 → x < 24 → t (24 * r + x) = sTold F P st n r x) ∧ TD N n y t
theorem RD.vn {n : Nat} {st : Int} {F P N y t : Nat → Int} (h : RD n st F P N y t) : VN n N := h.1.1
theorem RD.es {n : Nat} {st : Int} {F P N y t : Nat → Int} (h : RD n st F P N y t) : ES n N (oP N) F P := h.1.2.1
theorem RD.e36 {n : Nat} {st : Int} {F P N y t : Nat → Int} (h : RD n st F P N y t) : N 36 = st := h.1.2.2
theorem RD.wy {n : Nat} {st : Int} {F P N y t : Nat → Int} (h : RD n st F P N y t) (r x : Nat) (hr : r < 5) (hx : x < 24) : y (24 * r + x) = sWin F r x n := h.2.1 r x hr hx
theorem RD.wt {n : Nat} {st : Int} {F P N y t : Nat → Int} (h : RD n st F P N y t) (r x : Nat) (hr : r < 5) (hx : x < 24) : t (24 * r + x) = sTold F P st n r x := h.2.2.1 r x hr hx
theorem RD.td {n : Nat} {st : Int} {F P N y t : Nat → Int} (h : RD n st F P N y t) : TD N n y t := h.2.2.2
theorem RN.told {n : Nat} {st : Int} {F P N : Nat → Int} (h : RN n st F P N) (r x : Int) : sTold N (oP N) (N 36) n r x = sTold F P st n r x := by
  rw [sTold_cong h.vn.2 h.es, h.e36]
theorem RN.day {n : Nat} {st : Int} {F P N : Nat → Int} (h : RN n st F P N) (y t : Nat → Int) : ∃ y' t', f_M_dayGoes y N t = some (y', t') ∧ RD n st F P N y' t' := by
  obtain ⟨y', t', h1, h2⟩ := day_eq h.vn y t
  have td : TD N n y' t' := h2
  exact ⟨y', t', h1, h, fun r x hr hx => by rw [(td.at r x hr hx).1, sWin_cong h.es _ _ n (Nat.le_refl n)], fun r x hr hx => by rw [(td.at r x hr hx).2, h.told], td⟩
theorem RS.look {n : Nat} {st : Int} {F P S : Nat → Int} (h : RS n st F P S) (y N t : Nat → Int) : ∃ y' N' t', f_M_looksAtDay y N S t = some (y', N', t') ∧ RD n st F P N' y' t' := by
  obtain ⟨N', h1, h2⟩ := fetch_eq N S
  obtain ⟨y', t', h3, h4⟩ := (h.rn h2).day y t
  refine ⟨y', N', t', ?_, h4⟩
  unfold f_M_looksAtDay
  rw [bnd_eq h1, bnd_eq h3]
/-! feed, end, fault, torn -/
theorem RN.all {n : Nat} {st : Int} {F P N : Nat → Int} (h : RN n st F P N) : f_M_allWrong N = some (sAll F P st n) := by
  rw [mall_eq h.vn, sAll_cong h.vn.2 h.es, h.e36]
theorem RN.own {n : Nat} {st : Int} {F P N : Nat → Int} (h : RN n st F P N) (b : Int) (hb : 0 ≤ b ∧ b < n) : f_M_ownHour N b = some (sOwn F P st n b.toNat) := by
  rw [mown_eq h.vn b hb, sOwn_cong h.vn.2 h.es (by omega), h.e36]
theorem RN.wrong {n : Nat} {st : Int} {F P N : Nat → Int} (h : RN n st F P N) (b : Int) (hb : 0 ≤ b ∧ b < n) : f_M_wrong N b = some (sWr F b.toNat (sOwn F P st n b.toNat)) := by
  rw [mwrong_eq h.vn b hb, sOwn_cong h.vn.2 h.es (by omega), h.e36, sWr_cong h.es (by omega)]
theorem RN.place {n : Nat} {st : Int} {F P N : Nat → Int} (h : RN n st F P N) (b : Int) (hb : 0 ≤ b ∧ b < n) : f_M_placeOf N b = some ((sPl P n b.toNat : Nat) : Int) := by
  rw [mplace_eq h.vn b hb, sPl_cong h.es]
theorem RN.done {n : Nat} {st : Int} {F P N : Nat → Int} (h : RN n st F P N) {x : Nat} (hx : x < n) : f_M_doneIn N x = some (sDn F P st (x + 1)) := by
  rw [mdone_eq h.vn hx, sDn_cong h.vn.2 h.es _ (by omega), h.e36]
theorem RN.of {n : Nat} {st : Int} {F P N : Nat → Int} (h : RN n st F P N) (b w : Int) (hb : 0 ≤ b ∧ b < n) (hw : 0 ≤ w ∧ w ≤ 5) : f_M_of N b w = some (F (6 * b.toNat + w.toNat)) := by
  have hn := h.vn.2.1
  rw [of_eq b w (by omega) hw, h.es.1 _ (by omega)]
theorem RN.allOf {n : Nat} {st : Int} {F P N : Nat → Int} (h : RN n st F P N) (w : Int) (hw : 0 ≤ w ∧ w ≤ 5) : f_M_allOf N w = some (fb_si (fun b => F (6 * b + w.toNat)) n) := by
  rw [mallOf_eq h.vn.1 h.vn.2.1 w hw]
  exact congrArg some (fb_si_cong (fun k hk => h.es.1 _ (by omega)))
theorem RN.lasts {n : Nat} {st : Int} {F P N : Nat → Int} (h : RN n st F P N) (b : Int) (hb : 0 ≤ b ∧ b < n) : f_M_lasts N b = some (sLa F b.toNat) := by
  have hn := h.vn.2.1
  rw [mlasts_eq b (by omega) (h.vn.2.2.2.1 b.toNat (by omega)).1, sLa_cong h.es (by omega)]
theorem RD.yawnsOf {n : Nat} {st : Int} {F P N y t : Nat → Int} (h : RD n st F P N y t) (r : Nat) (hr : r < 5) : f_M_yawnsOf t r = some (sYin F P st n r) := by
  rw [myawnsOf_eq h.td r hr, sYin_cong h.vn.2 h.es, h.e36]
theorem RD.yawns {n : Nat} {st : Int} {F P N y t : Nat → Int} (h : RD n st F P N y t) : f_M_yawns t = some (sYall F P st n) := by
  rw [myawns_eq h.td, sYall_cong h.vn.2 h.es, h.e36]
theorem RD.otherwise {n : Nat} {st : Int} {F P N y t : Nat → Int} (h : RD n st F P N y t) (r : Nat) (hr : r < 5) : f_M_otherwise t r = some (sMask (fun x => decide (sTold F P st n r (x : Nat) ≠ (x : Int))) 24) := by
  rw [motherwise_eq h.td r hr]
  exact congrArg some (sMask_cong (fun k hk => by rw [h.1.told]))
