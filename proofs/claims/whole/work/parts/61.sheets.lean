/-! ===== sheets ===== -/
def RH (C L Z C' L' Z' : Nat → Int) : Prop := ∀ s, s < 4 → (Z s = -4 ∧ L' s = -4) ∨ ((0 ≤ Z s ∧ Z s ≤ 40) ∧ Z' s = Z s ∧ L' s = L s ∧ (0 ≤ L s ∧ L s ≤ 2) ∧ ∀ c : Nat, (c : Int) < Z s → C (40 * s + c) = C' (40 * s + c) ∧ inR (C (40 * s + c)))
theorem bool1 {x : Option Int} {c : Prop} [Decidable c] (h : x = some (if c then 1 else 0)) : Option.bind x (fun o => chk (o = 0 ∨ o = 1) (some o)) = some (if c then 1 else 0) := by
  rw [h, Option.bind_some, chk_pos (by split <;> simp)]
theorem shas_eq (x : Int) (hx : inR x) : f_Sheets_has x = some (if 0 ≤ x ∧ x ≤ 3 then 1 else 0) := bool1 (within_eq x 0 3 hx (by decide) (by decide))
theorem slane_eq (x : Int) (hx : inR x) : f_Sheets_isLane x = some (if 0 ≤ x ∧ x ≤ 2 then 1 else 0) := bool1 (within_eq x 0 2 hx (by decide) (by decide))
theorem msheet_eq (x y : Int) (hx : inR x) (hy : inR y) : f_M_isSheet x y = some (if (0 ≤ x ∧ x ≤ 3) ∧ 0 ≤ y ∧ y ≤ 2 then 1 else 0) := by
  unfold f_M_isSheet
  rw [chk_pos hx, gb (in_eq x 0 3 (inL_of hx) (by decide) (by decide)), chk_pos hy, gb (in_eq y 0 2 (inL_of hy) (by decide) (by decide))]
  by_cases c : 0 ≤ x ∧ x ≤ 3
  · rw [if_pos c]
    by_cases d : 0 ≤ y ∧ y ≤ 2
    · rw [if_pos d, if_pos ⟨c, d⟩]
    · rw [if_neg d, if_neg (fun q => d q.2)]
  · rw [if_neg c, if_neg (fun q => c q.1)]
theorem renew_L (s m : Nat) (hs : s < 4) (hm : m ≤ 40) (C : Nat → Int) : ∃ C', f_Sheets_renew_L20 5000 C s m 0 = some C' ∧ (∀ c, c < m → C' (40 * s + c) = 0) ∧ ∀ j, (j < 40 * s ∨ 40 * s + 40 ≤ j) → C' j = C j := by
  have h := lup0 (fun fuel (b : Nat → Int) i => f_Sheets_renew_L20 fuel b s m i) m (fun i b => upZ b (40 * s + i) 0) some (fun i b => (∀ c, c < i → b (40 * s + c) = 0) ∧ ∀ j, (j < 40 * s ∨ 40 * s + 40 ≤ j) → b j = C j)
    (fun fuel i b hi hI => ⟨by
      show f_Sheets_renew_L20 (fuel + 1) b s m i = _
      rw [f_Sheets_renew_L20, chk_pos (by omega), chk_pos (by omega), if_neg (by omega), chk_pos (by omega), show ((s : Int) * 40 + i).toNat = 40 * s + i by omega], fun c hc => by
      by_cases e : c = i
      · subst e; exact upZ_same _ _ _
      · show upZ b _ _ _ = _
        rw [upZ_ne _ _ (by omega)]; exact hI.1 c (by omega), fun j hj => by
      show upZ b _ _ _ = _
      rw [upZ_ne _ _ (by omega)]; exact hI.2 j hj⟩)
    (fun fuel b _ => by
      show f_Sheets_renew_L20 (fuel + 1) b s m m = _
      rw [f_Sheets_renew_L20, chk_pos (by omega), chk_pos (by omega), if_pos (by omega)]) C 5000 (by omega) ⟨fun c hc => by omega, fun j _ => rfl⟩
  exact ⟨_, h.1, h.2⟩
theorem msheet_L (s : Nat) (hs : s < 4) (C : Nat → Int) : ∃ C', f_M_sheet_L40 5000 C s 0 = some C' ∧ (∀ c, c < 40 → C' (40 * s + c) = 0) ∧ ∀ j, (j < 40 * s ∨ 40 * s + 40 ≤ j) → C' j = C j := by
  have h := lup0 (fun fuel (b : Nat → Int) i => f_M_sheet_L40 fuel b s i) 40 (fun i b => upZ b (40 * s + i) 0) some (fun i b => (∀ c, c < i → b (40 * s + c) = 0) ∧ ∀ j, (j < 40 * s ∨ 40 * s + 40 ≤ j) → b j = C j)
    (fun fuel i b hi hI => ⟨by
      show f_M_sheet_L40 (fuel + 1) b s i = _
      rw [f_M_sheet_L40, chk_pos (by omega), if_neg (by omega), chk_pos (by omega), show (40 * (s : Int) + i).toNat = 40 * s + i by omega], fun c hc => by
      by_cases e : c = i
      · subst e; exact upZ_same _ _ _
      · show upZ b _ _ _ = _
        rw [upZ_ne _ _ (by omega)]; exact hI.1 c (by omega), fun j hj => by
      show upZ b _ _ _ = _
      rw [upZ_ne _ _ (by omega)]; exact hI.2 j hj⟩)
    (fun fuel b _ => by
      show f_M_sheet_L40 (fuel + 1) b s ((40 : Nat) : Int) = _
      rw [f_M_sheet_L40, chk_pos (by decide), if_pos (by decide)]) C 5000 (by omega) ⟨fun c hc => by omega, fun j _ => rfl⟩
  exact ⟨_, h.1, h.2⟩
theorem p_sheet {C L Z C' L' Z' : Nat → Int} (h : RH C L Z C' L' Z') (x1 x2 x3 : Int) (h1 : inR x1) (h2 : inR x2) (h3 : inR x3) : ∃ v D M Y D' M' Y', inR v ∧ f_HH_sheet C L Z x1 x2 x3 = some (v, D, M, Y) ∧ f_M_sheet C' L' Z' x1 x2 x3 = some (v, D', M', Y') ∧ RH D M Y D' M' Y' := by
  unfold f_HH_sheet f_M_sheet
  rw [gb (shas_eq x1 h1), gb (slane_eq x2 h2), gb (msheet_eq x1 x2 h1 h2)]
  by_cases c1 : 0 ≤ x1 ∧ x1 ≤ 3
  · rw [if_pos c1]
    by_cases c2 : 0 ≤ x2 ∧ x2 ≤ 2
    · rw [if_pos c2, if_pos (show (0 ≤ x1 ∧ x1 ≤ 3) ∧ 0 ≤ x2 ∧ x2 ≤ 2 from ⟨c1, c2⟩), chk_pos h3, chk_pos h3]
      by_cases c3 : x3 ≤ 40
      · rw [if_pos c3, if_pos c3]
        by_cases c4 : 0 ≤ x3
        · obtain ⟨s, rfl⟩ : ∃ s : Nat, x1 = s := ⟨x1.toNat, by omega⟩
          obtain ⟨m, rfl⟩ : ∃ m : Nat, x3 = m := ⟨x3.toNat, by omega⟩
          obtain ⟨D, e1, e2, e3⟩ := renew_L s m (by omega) (by omega) C
          obtain ⟨D', f1, f2, f3⟩ := msheet_L s (by omega) C'
          have g : f_Sheets_renew C L Z s x2 m = some (D, upZ L s x2, upZ Z s m) := by
            unfold f_Sheets_renew
            rw [gb (shas_eq _ h1), if_pos c1, gb (within_eq _ 0 40 h3 (by decide) (by decide)), if_pos ⟨c4, c3⟩, bnd_eq e1, chk_pos (by omega), Int.toNat_natCast]
          rw [if_pos c4, if_pos c4, bnd_eq g, chk_pos (by omega), bnd_eq f1, Int.toNat_natCast]
          refine ⟨1, D, upZ L s x2, upZ Z s m, D', upZ L' s x2, upZ Z' s m, by decide, rfl, rfl, fun r hr => ?_⟩
          by_cases e : r = s
          · subst e
            refine Or.inr ?_
            rw [upZ_same, upZ_same, upZ_same, upZ_same]
            exact ⟨⟨c4, c3⟩, rfl, rfl, c2, fun c hc => by rw [e2 c (by omega), f2 c (by omega)]; exact ⟨rfl, by decide⟩⟩
          · rw [upZ_ne _ _ e, upZ_ne _ _ e, upZ_ne _ _ e, upZ_ne _ _ e]
            rcases h r hr with q | ⟨q1, q2, q3, q4, q5⟩
            · exact Or.inl q
            · exact Or.inr ⟨q1, q2, q3, q4, fun c hc => by rw [e3 _ (by omega), f3 _ (by omega)]; exact q5 c hc⟩
        · rw [if_neg c4, if_neg c4]
          exact ⟨-14, _, _, _, _, _, _, by decide, rfl, rfl, h⟩
      · rw [if_neg c3, if_neg c3]
        exact ⟨-1, _, _, _, _, _, _, by decide, rfl, rfl, h⟩
    · rw [if_neg c2, if_neg (fun q : (0 ≤ x1 ∧ x1 ≤ 3) ∧ 0 ≤ x2 ∧ x2 ≤ 2 => c2 q.2)]
      exact ⟨-1, _, _, _, _, _, _, by decide, rfl, rfl, h⟩
  · rw [if_neg c1, if_neg (fun q : (0 ≤ x1 ∧ x1 ≤ 3) ∧ 0 ≤ x2 ∧ x2 ≤ 2 => c1 q.1)]
    exact ⟨-1, _, _, _, _, _, _, by decide, rfl, rfl, h⟩
theorem sizeOf_eq {Z : Nat → Int} (s : Nat) (hs : s < 4) : f_Sheets_sizeOf Z s = some (Z s) := by
  unfold f_Sheets_sizeOf
  rw [gb (shas_eq _ (by omega)), if_pos (by omega), chk_pos (by omega), Int.toNat_natCast]
theorem laneOf_eq {L : Nat → Int} (s : Nat) (hs : s < 4) : f_Sheets_laneOf L s = some (L s) := by
  unfold f_Sheets_laneOf
  rw [gb (shas_eq _ (by omega)), if_pos (by omega), chk_pos (by omega), Int.toNat_natCast]
theorem hasCell_eq {Z : Nat → Int} (s : Nat) (hs : s < 4) (hz : inR (Z s)) (e : Int) (he : inR e) : f_Sheets_hasCell Z s e = some (if 0 ≤ e ∧ e < Z s then 1 else 0) := by
  unfold f_Sheets_hasCell
  rw [gb (shas_eq _ (by omega)), if_pos (by omega), chk_pos he, chk_pos (by omega), Int.toNat_natCast, chk_pos hz]
  by_cases c : e < 0
  · rw [if_pos c, if_neg (by omega)]
  · rw [if_neg c]
    by_cases d : Z s ≤ e
    · rw [if_pos d, if_neg (by omega)]
    · rw [if_neg d, if_pos (by omega)]
/-- what is wrong with a cell -/
def flt (L Z : Nat → Int) (s : Nat) (lane e : Int) : Int := if Z s = -4 then 1 else if L s = lane then (if 0 ≤ e ∧ e < Z s then 0 else 2) else 3
theorem flt_bd (L Z : Nat → Int) (s : Nat) (lane e : Int) : 0 ≤ flt L Z s lane e ∧ flt L Z s lane e ≤ 3 := by
  unfold flt
  split
  · omega
  · split
    · split <;> omega
    · omega
theorem faultAt_eq {C L Z C' L' Z' : Nat → Int} (h : RH C L Z C' L' Z') (s : Nat) (hs : s < 4) (lane e : Int) (hl : inR lane ∨ Z s = -4) (he : inR e) : f_Sheets_faultAt L Z s lane e = some (flt L Z s lane e) := by
  unfold f_Sheets_faultAt flt
  rw [bnd_eq (sizeOf_eq s hs)]
  rcases h s hs with ⟨q1, q2⟩ | ⟨q1, q2, q3, q4, q5⟩
  · rw [chk_pos (by omega), if_pos q1, if_pos q1]
  · have hl2 : inR lane := by
      rcases hl with q | q
      · exact q
      · omega
    rw [chk_pos (by omega), if_neg (by omega), if_neg (by omega), bnd_eq (laneOf_eq s hs), chk_pos (by omega), chk_pos hl2]
    by_cases c : L s = lane
    · rw [if_pos c, if_pos c, gb (hasCell_eq s hs (by omega) e he)]
      split <;> rfl
    · rw [if_neg c, if_neg c]
theorem z8_in (a : Int) : inR (z8 a) := inR_of _
theorem z16_in (a : Int) : inR (z16 a) := inR_of _
theorem p_lay {C L Z C' L' Z' : Nat → Int} (h : RH C L Z C' L' Z') (x1 x2 x3 : Int) (h1 : inR x1) (h2 : inR x2) (h3 : inR x3) : ∃ v D D', inR v ∧ f_HH_lay C L Z x1 x2 x3 = some (v, D) ∧ f_M_lay C' L' Z' x1 x2 x3 = some (v, D') ∧ RH D L Z D' L' Z' := by
  unfold f_HH_lay f_M_lay
  rw [gb (shas_eq x1 h1), gb (msheet_eq x1 0 h1 (by decide))]
  by_cases c1 : 0 ≤ x1 ∧ x1 ≤ 3
  · obtain ⟨s, rfl⟩ : ∃ s : Nat, x1 = s := ⟨x1.toNat, by omega⟩
    have hs : s < 4 := by omega
    rw [if_pos c1, if_pos (show (0 ≤ (s : Int) ∧ (s : Int) ≤ 3) ∧ (0 : Int) ≤ 0 ∧ (0 : Int) ≤ 2 from ⟨c1, by decide⟩), bnd_eq (laneOf_eq s hs), chk_pos (show 0 ≤ (s : Int) ∧ (s : Int) < 4 by omega), Int.toNat_natCast]
    rcases h s hs with ⟨q1, q2⟩ | ⟨q1, q2, q3, q4, q5⟩
    · have hf : flt L Z s (L s) x2 = 1 := by unfold flt; rw [if_pos q1]
      rw [bnd_eq (faultAt_eq h s hs (L s) x2 (Or.inr q1) h2), hf, q2, chk_pos (show inR 1 by decide), if_neg (show ¬ (1 : Int) = 0 by decide), chk_pos (show inR (-4) by decide), if_pos (show (-4 : Int) = -4 from rfl)]
      exact ⟨-11, C, C', by decide, rfl, rfl, h⟩
    · have hf : flt L Z s (L s) x2 = if 0 ≤ x2 ∧ x2 < Z s then 0 else 2 := by unfold flt; rw [if_neg (by omega), if_pos rfl]
      rw [bnd_eq (faultAt_eq h s hs (L s) x2 (Or.inl (by omega)) h2), hf, q3, q2, chk_pos (show inR (L s) by omega), if_neg (show ¬ L s = -4 by omega), chk_pos h2, chk_pos (show inR (Z s - 1) by omega), gb (in_eq x2 0 (Z s - 1) (inL_of h2) (by decide) (by constructor <;> omega))]
      by_cases c2 : 0 ≤ x2 ∧ x2 < Z s
      · obtain ⟨c, rfl⟩ : ∃ c : Nat, x2 = c := ⟨x2.toNat, by omega⟩
        rw [if_pos c2, if_pos (show 0 ≤ (c : Int) ∧ (c : Int) ≤ Z s - 1 by omega), chk_pos (show inR 0 by decide), if_pos (show (0 : Int) = 0 from rfl)]
        have key : ∀ u : Int, inR u → RH (upZ C (40 * s + c) u) L Z (upZ C' (40 * s + c) u) L' Z' := fun u hu r hr => by
          rcases h r hr with p | ⟨p1, p2, p3, p4, p5⟩
          · exact Or.inl p
          · refine Or.inr ⟨p1, p2, p3, p4, fun d hd => ?_⟩
            by_cases e : 40 * r + d = 40 * s + c
            · rw [e, upZ_same, upZ_same]; exact ⟨rfl, hu⟩
            · rw [upZ_ne _ _ e, upZ_ne _ _ e]; exact p5 d hd
        have gp : ∀ u, f_Sheets_narrowed (L s) x3 = some u → f_Sheets_put C L Z s c x3 = some (upZ C (40 * s + c) u) := fun u hu => by
          unfold f_Sheets_put
          rw [gb (hasCell_eq s hs (by omega) c h2), if_pos c2, chk_pos (by omega), Int.toNat_natCast, bnd_eq hu, chk_pos (by omega), show ((s : Int) * 40 + c).toNat = 40 * s + c by omega]
        rw [show (40 * (s : Int) + c).toNat = 40 * s + c by omega, chk_pos (by omega), chk_pos (by omega), chk_pos (by omega)]
        by_cases d0 : L s = 0
        · have hu : f_Sheets_narrowed (L s) x3 = some (z8 x3) := by unfold f_Sheets_narrowed; rw [chk_pos (by omega), if_pos d0]
          rw [bnd_eq (gp _ hu), if_pos d0]
          exact ⟨1, _, _, by decide, rfl, rfl, key _ (z8_in _)⟩
        · by_cases d1 : L s = 1
          · have hu : f_Sheets_narrowed (L s) x3 = some (z16 x3) := by unfold f_Sheets_narrowed; rw [chk_pos (by omega), if_neg d0, if_pos d1]
            rw [bnd_eq (gp _ hu), if_neg d0, if_pos d1]
            exact ⟨1, _, _, by decide, rfl, rfl, key _ (z16_in _)⟩
          · have hu : f_Sheets_narrowed (L s) x3 = some x3 := by unfold f_Sheets_narrowed; rw [chk_pos (by omega), if_neg d0, if_neg d1]
            rw [bnd_eq (gp _ hu), if_neg d0, if_neg d1]
            exact ⟨1, _, _, by decide, rfl, rfl, key _ h3⟩
      · rw [if_neg c2, if_neg (show ¬ (0 ≤ x2 ∧ x2 ≤ Z s - 1) by omega), chk_pos (show inR 2 by decide), if_neg (show ¬ (2 : Int) = 0 by decide)]
        exact ⟨-12, C, C', by decide, rfl, rfl, h⟩
  · rw [if_neg c1, if_neg (fun q : (0 ≤ x1 ∧ x1 ≤ 3) ∧ (0 : Int) ≤ 0 ∧ (0 : Int) ≤ 2 => c1 q.1)]
    exact ⟨-1, C, C', by decide, rfl, rfl, h⟩
