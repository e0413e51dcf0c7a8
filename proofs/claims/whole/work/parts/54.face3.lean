/-! ===== rule, out, meet, first ===== -/
theorem si_grid (f : Nat → Int) (m : Nat) : ∀ n, fb_si f (m * n) = fb_si (fun r => fb_si (fun x => f (m * r + x)) m) n
  | 0 => rfl
  | n + 1 => by rw [Nat.mul_succ, fb_si_split, si_grid f m n]; rfl
theorem ct_si (p : Nat → Bool) : ∀ n, (fb_ct p n : Int) = fb_si (fun x => if p x = true then 1 else 0) n
  | 0 => rfl
  | n + 1 => by
    rw [fb_ct_succ, fb_si_succ, ← ct_si p n]
    by_cases c : p n = true
    · rw [if_pos c, if_pos c]; omega
    · rw [if_neg c, if_neg c]; omega
/-- how many hours are told otherwise -/
def sStr (F P : Nat → Int) (st : Int) (n : Nat) : Int := fb_si (fun r => (fb_ct (fun x => decide (sTold F P st n (r : Nat) (x : Nat) ≠ (x : Int))) 24 : Int)) 5
theorem strangeAll_eq {n : Nat} {F P : Nat → Int} {st : Int} (hV : VS n F P st) : f_Shop_strangeHoursOfAll n st F P = some (sStr F P st n) := by
  unfold f_Shop_strangeHoursOfAll
  have h := lup0 (fun fuel acc i => f_Shop_strangeHoursOfAll_L4 fuel n st F P acc i) 5 (fun r b => b + (fb_ct (fun x => decide (sTold F P st n (r : Nat) (x : Nat) ≠ (x : Int))) 24 : Int)) some (fun _ _ => True)
    (fun fuel i b hi _ => ⟨by
      show f_Shop_strangeHoursOfAll_L4 (fuel + 1) n st F P b i = _
      rw [f_Shop_strangeHoursOfAll_L4, chk_pos (by omega), if_neg (by omega), bnd_eq (strangeIn_eq hV i (by omega)), bnd_eq (bitCount_eq _)], trivial⟩)
    (fun fuel b _ => by
      show f_Shop_strangeHoursOfAll_L4 (fuel + 1) n st F P b ((5 : Nat) : Int) = _
      rw [f_Shop_strangeHoursOfAll_L4, chk_pos (by decide), if_pos (by decide)]) 0 5000 (by omega) trivial
  rw [bnd_eq h.1, itr_sum, Int.zero_add]
  rfl
theorem mstrange_eq {n : Nat} {st : Int} {F P N y t : Nat → Int} (h : RD n st F P N y t) : f_M_rule_L8 5000 t 0 0 = some (sStr F P st n) := by
  have h1 := lup0 (fun fuel acc i => f_M_rule_L8 fuel t acc i) 120 (fun j b => b + (if t j = ((j % 24 : Nat) : Int) then 0 else 1)) some (fun _ _ => True)
    (fun fuel i b hi _ => ⟨by
      have e := h.wt (i / 24) (i % 24) (by omega) (by omega)
      rw [show 24 * (i / 24) + i % 24 = i by omega] at e
      have hb := sTold_bd (F := F) (P := P) (st := st) (n := n) ((i / 24 : Nat) : Int) ((i % 24 : Nat) : Int) (by omega)
      show f_M_rule_L8 (fuel + 1) t b i = _
      rw [f_M_rule_L8, Int.toNat_natCast, chk_pos (by omega), if_neg (by omega), chk_pos (by omega), chk_pos (by omega), chk_pos (by omega), chk_pos (by omega), show ((i : Int) % 24) = ((i % 24 : Nat) : Int) by omega]
      by_cases c : t i = ((i % 24 : Nat) : Int)
      · rw [if_pos c, if_pos c, Option.bind_some, bnd_eq (flag_eq 0 (Or.inl rfl))]
      · rw [if_neg c, if_neg c, Option.bind_some, bnd_eq (flag_eq 1 (Or.inr rfl))], trivial⟩)
    (fun fuel b _ => by
      show f_M_rule_L8 (fuel + 1) t b ((120 : Nat) : Int) = _
      rw [f_M_rule_L8, chk_pos (by decide), if_pos (by decide)]) 0 5000 (by omega) trivial
  refine Eq.trans h1.1 ?_
  rw [itr_sum, Int.zero_add, show 120 = 24 * 5 from rfl, si_grid]
  refine congrArg some (fb_si_cong (fun r hr => ?_))
  rw [ct_si]
  refine fb_si_cong (fun x hx => ?_)
  rw [h.wt r x hr hx, show (24 * r + x) % 24 = x by omega]
  by_cases c : sTold F P st n r x = (x : Int)
  · rw [if_pos c, if_neg (by simp [c])]
  · rw [if_neg c, if_pos (by simp [c])]
theorem sStr_bd (F P : Nat → Int) (st : Int) (n : Nat) : 0 ≤ sStr F P st n ∧ sStr F P st n ≤ 120 := by
  have h := fb_si_bound (f := fun r => (fb_ct (fun x => decide (sTold F P st n (r : Nat) (x : Nat) ≠ (x : Int))) 24 : Int)) (c := 24) (by decide) (n := 5) (fun k _ => by
    have := fb_ct_le (fun x => decide (sTold F P st n (k : Nat) (x : Nat) ≠ (x : Int))) 24
    omega)
  have h0 : ∀ m, 0 ≤ fb_si (fun r => (fb_ct (fun x => decide (sTold F P st n (r : Nat) (x : Nat) ≠ (x : Int))) 24 : Int)) m := fun m => by
    induction m with
    | zero => exact Int.le_refl 0
    | succ m ih => rw [fb_si_succ]; omega
  have := h0 5
  unfold sStr
  omega
theorem si_nn {f : Nat → Int} {c : Int} : ∀ {n : Nat}, (∀ k, k < n → 0 ≤ f k ∧ f k ≤ c) → 0 ≤ fb_si f n ∧ fb_si f n ≤ n * c
  | 0, _ => by show (0 : Int) ≤ 0 ∧ (0 : Int) ≤ 0 * c; omega
  | n + 1, h => by
    have ih := si_nn (n := n) (fun k hk => h k (by omega))
    have h1 := h n (by omega)
    have e : ((n + 1 : Nat) : Int) * c = n * c + c := by rw [Int.natCast_add, Int.add_mul]; omega
    rw [fb_si_succ, e]
    omega
theorem sWr_bd {n : Nat} {F P : Nat → Int} {st : Int} (hV : VS n F P st) {b : Nat} (hb : b < n) (d : Int) : 0 ≤ sWr F b d ∧ sWr F b d ≤ 108 := by
  have hd : ∀ d : Int, 0 ≤ dst (d % 24) ∧ dst (d % 24) ≤ 12 := fun d => by unfold dst; split <;> omega
  have h1 := hd (d - F (6 * b + 2))
  have h3 := (hV.2.2.1 b hb).2.2.2.1
  unfold sWr
  have h4 : 0 ≤ F (6 * b + 3) * dst ((d - F (6 * b + 2)) % 24) := Int.mul_nonneg (by omega) h1.1
  have h5 : F (6 * b + 3) * dst ((d - F (6 * b + 2)) % 24) ≤ 9 * 12 := Int.mul_le_mul (by omega) h1.2 h1.1 (by decide)
  omega
theorem sAll_bd {n : Nat} {F P : Nat → Int} {st : Int} (hV : VS n F P st) : 0 ≤ sAll F P st n ∧ sAll F P st n ≤ 540 := by
  have h := si_nn (f := fun b => sWr F b (sOwn F P st n b)) (c := 108) (n := n) (fun k hk => sWr_bd hV hk _)
  have hn := hV.1
  unfold sAll
  omega
theorem sYall_bd (F P : Nat → Int) (st : Int) (n : Nat) : 0 ≤ sYall F P st n ∧ sYall F P st n ≤ 120 := by
  have h := si_nn (f := fun r => sYin F P st n (r : Nat)) (c := 24) (n := 5) (fun k _ => sYin_bd F P st n k)
  unfold sYall
  omega
theorem p_rule {n : Nat} {st : Int} {F P S : Nat → Int} (h : RS n st F P S) (x : Int) (hx : inR x) (y N t : Nat → Int) : ∃ v w, inR v ∧ f_HH_rule n st F P x = some v ∧ f_M_rule y N S t x = some (v, w) := by
  have hV := h.1
  have hn := hV.1
  have hst := hV.2.1
  obtain ⟨y', N', t', hl, hD⟩ := h.look y N t
  unfold f_HH_rule f_M_rule
  rw [bnd_eq hl, bnd_eq (mstrange_eq hD), chk_pos (by omega), chk_pos (by omega)]
  by_cases c0 : x = 0
  · rw [if_pos c0, if_pos c0, h.2.2.1]
    exact ⟨n, _, by omega, rfl, rfl⟩
  rw [if_neg c0, if_neg c0]
  by_cases c1 : x = 1
  · rw [if_pos c1, if_pos c1, h.2.2.2.1]
    exact ⟨st, _, by omega, rfl, rfl⟩
  rw [if_neg c1, if_neg c1]
  by_cases c2 : x = 2
  · rw [if_pos c2, if_pos c2, bnd_eq (sumOf_eq hn 1 (by decide)), bnd_eq (hD.1.allOf 1 (by decide))]
    have hb := si_nn (f := fun b => F (6 * b + (1 : Int).toNat)) (c := 13) (n := n) (fun k hk => by
      have := (hV.2.2.1 k hk).2.1
      show 0 ≤ F (6 * k + 1) ∧ F (6 * k + 1) ≤ 13
      omega)
    refine ⟨_, _, ?_, rfl, rfl⟩
    omega
  rw [if_neg c2, if_neg c2]
  by_cases c3 : x = 3
  · rw [if_pos c3, if_pos c3, bnd_eq (wrongAll_eq hV), bnd_eq hD.1.all]
    have hb := sAll_bd hV
    exact ⟨_, _, by omega, rfl, rfl⟩
  rw [if_neg c3, if_neg c3]
  by_cases c4 : x = 4
  · rw [if_pos c4, if_pos c4, bnd_eq (yawnsAll_eq hV), bnd_eq hD.yawns]
    have hb := sYall_bd F P st n
    exact ⟨_, _, by omega, rfl, rfl⟩
  rw [if_neg c4, if_neg c4]
  by_cases c5 : x = 5
  · rw [if_pos c5, if_pos c5, bnd_eq (strangeAll_eq hV)]
    have hb := sStr_bd F P st n
    exact ⟨_, _, by omega, rfl, rfl⟩
  rw [if_neg c5, if_neg c5]
  exact ⟨-1, _, by decide, rfl, rfl⟩
/-! meet, first -/
theorem fnd_pair {α β : Type} (p : Nat → Bool) (r : Nat → α) (d : α) (w : β) : ∀ k i, fnd p (fun i => (r i, w)) (d, w) i k = (fnd p r d i k, w)
  | 0, _ => rfl
  | k + 1, i => by
    show (if p i = true then (r i, w) else fnd p (fun i => (r i, w)) (d, w) (i + 1) k) = (if p i = true then r i else fnd p r d (i + 1) k, w)
    rw [fnd_pair p r d w k (i + 1)]
    split <;> rfl
theorem fnd_P {α : Type} {Q : α → Prop} {p : Nat → Bool} {r : Nat → α} {d : α} (hd : Q d) : ∀ k i, (∀ j, i ≤ j → j < i + k → Q (r j)) → Q (fnd p r d i k)
  | 0, _, _ => hd
  | k + 1, i, h => by
    show Q (if p i = true then r i else fnd p r d (i + 1) k)
    split
    · exact h i (by omega) (by omega)
    · exact fnd_P hd k (i + 1) (fun j h1 h2 => h j (by omega) (by omega))
theorem p_meet {n : Nat} {st : Int} {F P S : Nat → Int} (h : RS n st F P S) (x1 x2 : Int) (h1 : inR x1) (h2 : inR x2) (y N t : Nat → Int) : ∃ v w, inR v ∧ f_HH_meet n st F P x1 x2 = some v ∧ f_M_meet y N S t x1 x2 = some (v, w) := by
  have hV := h.1
  have hn := hV.1
  unfold f_HH_meet f_M_meet
  rw [gb (room_eq x1 h1), gb (room_eq x2 h2), gb (mroom_eq x1 h1), gb (mroom_eq x2 h2)]
  by_cases c1 : 0 ≤ x1 ∧ x1 ≤ 4
  · rw [if_pos c1, if_pos c1]
    by_cases c2 : 0 ≤ x2 ∧ x2 ≤ 4
    · rw [if_pos c2, if_pos c2, chk_pos (by omega), chk_pos (by omega), chk_pos (by omega), chk_pos (by omega)]
      by_cases c3 : x1 = x2
      · rw [if_pos c3, if_pos c3]
        exact ⟨-1, _, by decide, rfl, rfl⟩
      · rw [if_neg c3, if_neg c3]
        obtain ⟨y', N', t', hl, hD⟩ := h.look y N t
        rw [bnd_eq hl]
        obtain ⟨r1, rfl⟩ : ∃ r : Nat, x1 = r := ⟨x1.toNat, by omega⟩
        obtain ⟨r2, rfl⟩ : ∃ r : Nat, x2 = r := ⟨x2.toNat, by omega⟩
        have hp : ∀ i : Nat, (decide (¬ sWin F r1 i n = -4 ∧ ¬ sWin F r2 i n = -4 ∧ sTold F P st n r1 i = sTold F P st n r2 i) : Bool) = true ↔ (¬ sWin F r1 i n = -4 ∧ ¬ sWin F r2 i n = -4 ∧ sTold F P st n r1 i = sTold F P st n r2 i) := fun i => by rw [decide_eq_true_eq]
        have k1 := lfnd (fun fuel i => f_HH_meet_L23 fuel n st F P r1 r2 i) 24 (fun i => decide (¬ sWin F r1 i n = -4 ∧ ¬ sWin F r2 i n = -4 ∧ sTold F P st n r1 i = sTold F P st n r2 i)) (fun i => (i : Int)) (-4)
          (fun fuel i hi => by
            have w1 := sWin_bd (F := F) (r := r1) (h := i) n
            have w2 := sWin_bd (F := F) (r := r2) (h := i) n
            have b1 := sTold_bd (F := F) (P := P) (st := st) (n := n) r1 i (by omega)
            have b2 := sTold_bd (F := F) (P := P) (st := st) (n := n) r2 i (by omega)
            show f_HH_meet_L23 (fuel + 1) n st F P r1 r2 i = _
            rw [f_HH_meet_L23, chk_pos (by omega), if_neg (by omega), bnd_eq (boxAt_eq hV r1 i h1 (by omega)), chk_pos (by omega)]
            by_cases d1 : sWin F r1 i n = -4
            · rw [if_pos d1, Option.bind_some, chk_pos (by decide), if_pos rfl, if_neg (fun q => ((hp i).mp q).1 d1)]
            · rw [if_neg d1, bnd_eq (boxAt_eq hV r2 i h2 (by omega)), chk_pos (by omega)]
              by_cases d2 : sWin F r2 i n = -4
              · rw [if_pos d2, Option.bind_some, chk_pos (by decide), if_pos rfl, if_neg (fun q => ((hp i).mp q).2.1 d2)]
              · rw [if_neg d2, Option.bind_some, chk_pos (by decide), if_neg (by decide), bnd_eq (oclock_eq hV r1 i h1 (by omega)), bnd_eq (oclock_eq hV r2 i h2 (by omega)), chk_pos (by omega), chk_pos (by omega)]
                by_cases d3 : sTold F P st n r1 i = sTold F P st n r2 i
                · rw [if_pos d3, if_pos ((hp i).mpr ⟨d1, d2, d3⟩)]
                · rw [if_neg d3, if_neg (fun q => d3 ((hp i).mp q).2.2)])
          (fun fuel => by
            show f_HH_meet_L23 (fuel + 1) n st F P r1 r2 ((24 : Nat) : Int) = _
            rw [f_HH_meet_L23, chk_pos (by decide), if_pos (by decide)]) 24 0 5000 (by omega) (by omega)
        have k2 := lfnd (fun fuel i => f_M_meet_L27 fuel y' N' S t' r1 r2 i) 24 (fun i => decide (¬ sWin F r1 i n = -4 ∧ ¬ sWin F r2 i n = -4 ∧ sTold F P st n r1 i = sTold F P st n r2 i)) (fun i => ((i : Int), y', N', t')) (-4, y', N', t')
          (fun fuel i hi => by
            have w1 := sWin_bd (F := F) (r := r1) (h := i) n
            have w2 := sWin_bd (F := F) (r := r2) (h := i) n
            have b1 := sTold_bd (F := F) (P := P) (st := st) (n := n) r1 i (by omega)
            have b2 := sTold_bd (F := F) (P := P) (st := st) (n := n) r2 i (by omega)
            show f_M_meet_L27 (fuel + 1) y' N' S t' r1 r2 i = _
            rw [f_M_meet_L27, show (24 * (r1 : Int) + (i : Int)).toNat = 24 * r1 + i by omega, show (24 * (r2 : Int) + (i : Int)).toNat = 24 * r2 + i by omega, hD.wy r1 i (by omega) hi, hD.wy r2 i (by omega) hi, hD.wt r1 i (by omega) hi, hD.wt r2 i (by omega) hi, chk_pos (by omega), if_neg (by omega), chk_pos (by omega), chk_pos (by omega)]
            by_cases d1 : sWin F r1 i n = -4
            · rw [if_pos d1, if_neg (fun q => ((hp i).mp q).1 d1)]
            · rw [if_neg d1, chk_pos (by omega), chk_pos (by omega)]
              by_cases d2 : sWin F r2 i n = -4
              · rw [if_pos d2, if_neg (fun q => ((hp i).mp q).2.1 d2)]
              · rw [if_neg d2, chk_pos (by omega), chk_pos (by omega)]
                by_cases d3 : sTold F P st n r1 i = sTold F P st n r2 i
                · rw [if_pos d3, if_pos ((hp i).mpr ⟨d1, d2, d3⟩)]
                · rw [if_neg d3, if_neg (fun q => d3 ((hp i).mp q).2.2)])
          (fun fuel => by
            show f_M_meet_L27 (fuel + 1) y' N' S t' r1 r2 ((24 : Nat) : Int) = _
            rw [f_M_meet_L27, chk_pos (by decide), if_pos (by decide)]) 24 0 5000 (by omega) (by omega)
        rw [fnd_pair] at k2
        exact ⟨_, _, fnd_P (Q := inR) (by decide) 24 0 (fun j _ hj => by omega), k1, k2⟩
    · rw [if_neg c2, if_neg c2]
      exact ⟨-1, _, by decide, rfl, rfl⟩
  · rw [if_neg c1, if_neg c1]
    exact ⟨-1, _, by decide, rfl, rfl⟩
theorem p_first {n : Nat} {st : Int} {F P S : Nat → Int} (h : RS n st F P S) (x1 x2 : Int) (h1 : inR x1) (h2 : inR x2) (y N t : Nat → Int) : ∃ v w, inR v ∧ f_HH_first n st F P x1 x2 = some v ∧ f_M_first y N S t x1 x2 = some (v, w) := by
  have hV := h.1
  have hn := hV.1
  unfold f_HH_first f_M_first
  rw [gb (room_eq x1 h1), gb (hour_eq x2 h2), gb (mroom_eq x1 h1), gb (mhour_eq x2 h2)]
  by_cases c1 : 0 ≤ x1 ∧ x1 ≤ 4
  · rw [if_pos c1, if_pos c1]
    by_cases c2 : 0 ≤ x2 ∧ x2 ≤ 23
    · rw [if_pos c2, if_pos c2]
      obtain ⟨y', N', t', hl, hD⟩ := h.look y N t
      rw [bnd_eq hl]
      obtain ⟨r1, rfl⟩ : ∃ r : Nat, x1 = r := ⟨x1.toNat, by omega⟩
      have k1 := lfnd (fun fuel i => f_HH_first_L18 fuel n st F P r1 x2 i) 24 (fun i => decide (sTold F P st n r1 i = x2)) (fun i => (i : Int)) (-4)
        (fun fuel i hi => by
          have b1 := sTold_bd (F := F) (P := P) (st := st) (n := n) r1 i (by omega)
          show f_HH_first_L18 (fuel + 1) n st F P r1 x2 i = _
          rw [f_HH_first_L18, chk_pos (by omega), if_neg (by omega), bnd_eq (oclock_eq hV r1 i h1 (by omega)), chk_pos (by omega), chk_pos (by omega)]
          by_cases d1 : sTold F P st n r1 i = x2
          · rw [if_pos d1, if_pos (decide_eq_true d1)]
          · rw [if_neg d1, if_neg (by rw [decide_eq_true_eq]; exact d1)])
        (fun fuel => by
          show f_HH_first_L18 (fuel + 1) n st F P r1 x2 ((24 : Nat) : Int) = _
          rw [f_HH_first_L18, chk_pos (by decide), if_pos (by decide)]) 24 0 5000 (by omega) (by omega)
      have k2 := lfnd (fun fuel i => f_M_first_L22 fuel y' N' S t' r1 x2 i) 24 (fun i => decide (sTold F P st n r1 i = x2)) (fun i => ((i : Int), y', N', t')) (-4, y', N', t')
        (fun fuel i hi => by
          have b1 := sTold_bd (F := F) (P := P) (st := st) (n := n) r1 i (by omega)
          show f_M_first_L22 (fuel + 1) y' N' S t' r1 x2 i = _
          rw [f_M_first_L22, show (24 * (r1 : Int) + (i : Int)).toNat = 24 * r1 + i by omega, hD.wt r1 i (by omega) hi, chk_pos (by omega), if_neg (by omega), chk_pos (by omega), chk_pos (by omega), chk_pos (by omega)]
          by_cases d1 : sTold F P st n r1 i = x2
          · rw [if_pos d1, if_pos (decide_eq_true d1)]
          · rw [if_neg d1, if_neg (by rw [decide_eq_true_eq]; exact d1)])
        (fun fuel => by
          show f_M_first_L22 (fuel + 1) y' N' S t' r1 x2 ((24 : Nat) : Int) = _
          rw [f_M_first_L22, chk_pos (by decide), if_pos (by decide)]) 24 0 5000 (by omega) (by omega)
      rw [fnd_pair] at k2
      exact ⟨_, _, fnd_P (Q := inR) (by decide) 24 0 (fun j _ hj => by omega), k1, k2⟩
    · rw [if_neg c2, if_neg c2]
      exact ⟨-1, _, by decide, rfl, rfl⟩
  · rw [if_neg c1, if_neg c1]
    exact ⟨-1, _, by decide, rfl, rfl⟩
