/-! ===== what the words depend on ===== -/
def ES (n : Nat) (F P F' P' : Nat → Int) : Prop := (∀ k, k < 6 * n → F k = F' k) ∧ ∀ i, i < n → P i = P' i
theorem ES.symm {n : Nat} {F P F' P' : Nat → Int} (h : ES n F P F' P') : ES n F' P' F P := ⟨fun k hk => (h.1 k hk).symm, fun i hi => (h.2 i hi).symm⟩
theorem VS.cong {n : Nat} {F P F' P' : Nat → Int} {st : Int} (hV : VS n F P st) (h : ES n F P F' P') : VS n F' P' st := by
  refine ⟨hV.1, hV.2.1, fun b hb => ?_, fun i hi => ?_, fun i j hi hj e => ?_⟩
  · have hk := hV.2.2.1 b hb
    unfold VK at hk ⊢
    rw [← h.1 (6 * b) (by omega), ← h.1 (6 * b + 1) (by omega), ← h.1 (6 * b + 2) (by omega), ← h.1 (6 * b + 3) (by omega), ← h.1 (6 * b + 4) (by omega), ← h.1 (6 * b + 5) (by omega)]
    exact hk
  · rw [← h.2 i hi]; exact hV.2.2.2.1 i hi
  · rw [← h.2 i hi, ← h.2 j hj] at e; exact hV.2.2.2.2 i j hi hj e
theorem sDn_cong {n : Nat} {F P F' P' : Nat → Int} {st : Int} (hV : VS n F P st) (h : ES n F P F' P') : ∀ i, i ≤ n → sDn F P st i = sDn F' P' st i
  | 0, _ => rfl
  | i + 1, hi => by
    have h1 := sDn_cong hV h i (by omega)
    have hp := hV.2.2.2.1 i (by omega)
    show sDn F P st i + F (6 * (P i).toNat + 1) = sDn F' P' st i + F' (6 * (P' i).toNat + 1)
    rw [h1, h.1 _ (by omega), h.2 i (by omega)]
theorem sPl_cong {n : Nat} {F P F' P' : Nat → Int} (h : ES n F P F' P') (b : Nat) : sPl P n b = sPl P' n b := fnd_cong n 0 (fun j _ hj => by
  refine ⟨?_, rfl⟩
  show decide (P j = (b : Int)) = decide (P' j = (b : Int))
  rw [h.2 j (by omega)])
theorem sOwn_cong {n : Nat} {F P F' P' : Nat → Int} {st : Int} (hV : VS n F P st) (h : ES n F P F' P') {b : Nat} (hb : b < n) : sOwn F P st n b = sOwn F' P' st n b := by
  have hs := sPl_spec hV hb
  unfold sOwn
  rw [sDn_cong hV h _ (by omega), sPl_cong h]
theorem sWr_cong {n : Nat} {F P F' P' : Nat → Int} (h : ES n F P F' P') {b : Nat} (hb : b < n) (d : Int) : sWr F b d = sWr F' b d := by
  unfold sWr
  rw [h.1 (6 * b + 2) (by omega), h.1 (6 * b + 3) (by omega)]
theorem sAll_cong {n : Nat} {F P F' P' : Nat → Int} {st : Int} (hV : VS n F P st) (h : ES n F P F' P') : sAll F P st n = sAll F' P' st n :=
  fb_si_cong (fun b hb => by
    show sWr F b (sOwn F P st n b) = sWr F' b (sOwn F' P' st n b)
    rw [sOwn_cong hV h hb, sWr_cong h hb])
theorem sLa_cong {n : Nat} {F P F' P' : Nat → Int} (h : ES n F P F' P') {b : Nat} (hb : b < n) : sLa F b = sLa F' b := by
  unfold sLa; rw [h.1 (6 * b) (by omega)]
theorem sWin_cong {n : Nat} {F P F' P' : Nat → Int} (h : ES n F P F' P') (r x : Int) : ∀ b, b ≤ n → sWin F r x b = sWin F' r x b
  | 0, _ => rfl
  | b + 1, hb => by
    have ih := sWin_cong h r x b (by omega)
    have hw := sWin_bd (F := F') (r := r) (h := x) b
    unfold sWin
    rw [ih, h.1 (6 * b + 5) (by omega), h.1 (6 * b + 4) (by omega), sLa_cong h (by omega)]
    by_cases c : sWin F' r x b = -4
    · simp only [c, true_or, and_true]
    · rw [h.1 (6 * (sWin F' r x b).toNat + 4) (by omega)]
theorem sBy_cong {n : Nat} {F P F' P' : Nat → Int} {st : Int} (hV : VS n F P st) (h : ES n F P F' P') {b : Nat} (hb : b < n) (x : Int) : sBy F P st n b x = sBy F' P' st n b x := by
  unfold sBy; rw [sOwn_cong hV h hb, h.1 (6 * b + 4) (by omega)]
theorem sTold_cong {n : Nat} {F P F' P' : Nat → Int} {st : Int} (hV : VS n F P st) (h : ES n F P F' P') (r x : Int) : sTold F P st n r x = sTold F' P' st n r x := by
  have hw := sWin_bd (F := F') (r := r) (h := x) n
  unfold sTold
  rw [sWin_cong h r x n (Nat.le_refl _)]
  by_cases c : sWin F' r x n = -4
  · rw [if_pos c, if_pos c]
  · rw [if_neg c, if_neg c, sBy_cong hV h (by omega)]
theorem sYin_cong {n : Nat} {F P F' P' : Nat → Int} {st : Int} (hV : VS n F P st) (h : ES n F P F' P') (r : Int) : sYin F P st n r = sYin F' P' st n r :=
  fb_si_cong (fun x _ => by
    show (if 6 ≤ x ∧ sTold F P st n r (x : Nat) < 6 then (1 : Int) else 0) = (if 6 ≤ x ∧ sTold F' P' st n r (x : Nat) < 6 then (1 : Int) else 0)
    rw [sTold_cong hV h])
theorem sYall_cong {n : Nat} {F P F' P' : Nat → Int} {st : Int} (hV : VS n F P st) (h : ES n F P F' P') : sYall F P st n = sYall F' P' st n :=
  fb_si_cong (fun r _ => sYin_cong hV h _)
/-! ===== bits by hours ===== -/
theorem zor_0 {x : Int} (h : inR x) : zor x 0 = x := by
  unfold zor
  rw [show zI 0 = 0 from rfl, Int32.or_zero, zI_toInt h]
theorem zshl_0 (x : Int) : zshl 0 x = 0 := by
  unfold zshl
  rw [show zI 0 = 0 from rfl, Int32.zero_shiftLeft]
  rfl
def sMask (p : Nat → Bool) : Nat → Int
  | 0 => 0
  | h + 1 => if p h = true then zor (sMask p h) (zshl 1 (h : Nat)) else sMask p h
theorem sMask_in (p : Nat → Bool) : ∀ h, inR (sMask p h)
  | 0 => by show inR 0; decide
  | h + 1 => by
    unfold sMask
    split
    · exact inR_of _
    · exact sMask_in p h
theorem sMask_cong {p q : Nat → Bool} : ∀ {n : Nat}, (∀ k, k < n → p k = q k) → sMask p n = sMask q n
  | 0, _ => rfl
  | n + 1, h => by
    unfold sMask
    rw [sMask_cong (fun k hk => h k (by omega)), h n (by omega)]
theorem itr_mask (p : Nat → Bool) : ∀ k, itr (fun i b => if p i = true then zor b (zshl 1 (i : Nat)) else b) 0 k 0 = sMask p k
  | 0 => rfl
  | k + 1 => by rw [itr_succ, itr_mask p k, Nat.zero_add]; rfl
theorem strangeIn_eq {n : Nat} {F P : Nat → Int} {st : Int} (hV : VS n F P st) (r : Int) (hr : inR r) : f_Shop_strangeHoursIn n st F P r = some (sMask (fun h => decide (sTold F P st n r (h : Nat) ≠ (h : Int))) 24) := by
  unfold f_Shop_strangeHoursIn
  have h := lup0 (fun fuel acc i => f_Shop_strangeHoursIn_L4 fuel n st F P r acc i) 24 (fun i b => if decide (sTold F P st n r (i : Nat) ≠ (i : Int)) = true then zor b (zshl 1 (i : Nat)) else b) some (fun _ _ => True)
    (fun fuel i b hi _ => ⟨by
      show f_Shop_strangeHoursIn_L4 (fuel + 1) n st F P r b i = _
      have hb := sTold_bd (F := F) (P := P) (st := st) (n := n) r (i : Int) (by omega)
      rw [f_Shop_strangeHoursIn_L4, chk_pos (by omega), if_neg (by omega), bnd_eq (oclock_eq hV r i hr (by omega)), chk_pos (by omega)]
      by_cases c : sTold F P st n r i = (i : Int)
      · rw [if_pos c, if_neg (by simp [c])]
      · rw [if_neg c, if_pos (by simp [c])], trivial⟩)
    (fun fuel b _ => by
      show f_Shop_strangeHoursIn_L4 (fuel + 1) n st F P r b ((24 : Nat) : Int) = _
      rw [f_Shop_strangeHoursIn_L4, chk_pos (by decide), if_pos (by decide)]) 0 5000 (by omega) trivial
  rw [bnd_eq h.1, itr_mask]
theorem motherwise_eq {S : Nat → Int} {n : Nat} {y t : Nat → Int} (h : TD S n y t) (r : Nat) (hr : r < 5) : f_M_otherwise t r = some (sMask (fun h => decide (sTold S (oP S) (S 36) n r (h : Nat) ≠ (h : Int))) 24) := by
  unfold f_M_otherwise
  have h1 := lup0 (fun fuel acc i => f_M_otherwise_L4 fuel t r acc i) 24 (fun i b => if decide (sTold S (oP S) (S 36) n r (i : Nat) ≠ (i : Int)) = true then zor b (zshl 1 (i : Nat)) else b) some (fun _ b => inR b)
    (fun fuel i b hi hb0 => by
      have ht := (h.at r i hr hi).2
      have hb := sTold_bd (F := S) (P := oP S) (st := S 36) (n := n) (r : Int) (i : Int) (by omega)
      refine ⟨?_, ?_⟩
      · show f_M_otherwise_L4 (fuel + 1) t r b i = _
        rw [f_M_otherwise_L4, chk_pos (by omega), if_neg (by omega), chk_pos (by omega), show (24 * (r : Int) + (i : Int)).toNat = 24 * r + i by omega, ht, chk_pos (by omega)]
        by_cases c : sTold S (oP S) (S 36) n r i = (i : Int)
        · rw [if_pos c, if_neg (by simp [c]), Option.bind_some, bnd_eq (flag_eq 0 (Or.inl rfl)), zshl_0, zor_0 hb0]
        · rw [if_neg c, if_pos (by simp [c]), Option.bind_some, bnd_eq (flag_eq 1 (Or.inr rfl))]
      · show inR (if _ then _ else _)
        split
        · exact inR_of _
        · exact hb0)
    (fun fuel b _ => by
      show f_M_otherwise_L4 (fuel + 1) t r b ((24 : Nat) : Int) = _
      rw [f_M_otherwise_L4, chk_pos (by decide), if_pos (by decide)]) 0 5000 (by omega) (by decide)
  rw [bnd_eq h1.1, itr_mask]
