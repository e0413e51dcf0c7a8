/-! ===== what was seen ===== -/
theorem RS.congS {n : Nat} {st : Int} {F P S S' : Nat → Int} (h : RS n st F P S) (e : ∀ j, j < 37 → S' j = S j) : RS n st F P S' := by
  have hn := h.1.1
  exact ⟨h.1, h.2.1, by rw [e 30 (by omega)]; exact h.2.2.1, by rw [e 36 (by omega)]; exact h.2.2.2.1, fun k hk => by rw [e k (by omega)]; exact h.2.2.2.2.1 k hk, fun i hi => by rw [e _ (by omega)]; exact h.2.2.2.2.2 i hi⟩
def RQ (k : Nat) (H O R S : Nat → Int) : Prop := k ≤ 6 ∧ S 37 = (k : Int) ∧ ∀ i, i < k → ((0 ≤ R i ∧ R i ≤ 4) ∧ R i = S (38 + 3 * i)) ∧ ((0 ≤ H i ∧ H i ≤ 23) ∧ H i = S (38 + 3 * i + 1)) ∧ ((0 ≤ O i ∧ O i ≤ 23) ∧ O i = S (38 + 3 * i + 2))
theorem RQ.congS {k : Nat} {H O R S S' : Nat → Int} (h : RQ k H O R S) (e : ∀ j, 37 ≤ j → j < 56 → S' j = S j) : RQ k H O R S' :=
  ⟨h.1, by rw [e 37 (by omega) (by omega)]; exact h.2.1, fun i hi => by
    have := h.1
    rw [e _ (by omega) (by omega), e _ (by omega) (by omega), e _ (by omega) (by omega)]; exact h.2.2 i hi⟩
theorem sfull_eq {k : Nat} (hk : k ≤ 6) : f_Sightings_isFull k = some (if 6 ≤ (k : Int) then 1 else 0) := by
  unfold f_Sightings_isFull chk
  grind
theorem p_see {k : Nat} {H O R S : Nat → Int} (h : RQ k H O R S) (x1 x2 x3 : Int) (h1 : inR x1) (h2 : inR x2) (h3 : inR x3) : ∃ (v : Int) (k' : Nat) (H' O' R' S' : Nat → Int), inR v ∧ f_HH_see k H O R x1 x2 x3 = some (v, (k' : Int), H', O', R') ∧ f_M_see S x1 x2 x3 = some (v, S') ∧ RQ k' H' O' R' S' ∧ (∀ j, j < 37 → S' j = S j) ∧ ∀ j, 56 ≤ j → S' j = S j := by
  have hk := h.1
  unfold f_HH_see f_M_see
  rw [gb (room_eq x1 h1), gb (hour_eq x2 h2), gb (hour_eq x3 h3), gb (sfull_eq hk), gb (mroom_eq x1 h1), gb (mhour_eq x2 h2), gb (mhour_eq x3 h3)]
  by_cases c1 : 0 ≤ x1 ∧ x1 ≤ 4
  · rw [if_pos c1, if_pos c1]
    by_cases c2 : 0 ≤ x2 ∧ x2 ≤ 23
    · rw [if_pos c2, if_pos c2]
      by_cases c3 : 0 ≤ x3 ∧ x3 ≤ 23
      · rw [if_pos c3, if_pos c3, h.2.1, chk_pos (show inR (k : Int) by omega)]
        by_cases c4 : (6 : Int) ≤ k
        · rw [if_pos c4, if_pos (show (k : Int) = 6 by omega)]
          exact ⟨-3, k, H, O, R, S, by decide, rfl, rfl, h, fun _ _ => rfl, fun _ _ => rfl⟩
        · have e1 : f_Sightings_add k H O R x1 x2 x3 = some ((k : Int) + 1, upZ H k x2, upZ O k x3, upZ R k x1) := by
            unfold f_Sightings_add
            rw [gb (sfull_eq hk), if_neg c4, chk_pos (by omega), Int.toNat_natCast]
          have e3 : (upZ (upZ (upZ S (38 + 3 * k) x1) (38 + 3 * k + 1) x2) (38 + 3 * k + 2) x3) 37 = (k : Int) := by
            rw [upZ_ne _ _ (by omega), upZ_ne _ _ (by omega), upZ_ne _ _ (by omega)]; exact h.2.1
          rw [if_neg c4, if_neg (show ¬ (k : Int) = 6 by omega), bnd_eq e1, show (38 + 3 * (k : Int)).toNat = 38 + 3 * k by omega, show (38 + 3 * (k : Int) + 1).toNat = 38 + 3 * k + 1 by omega, show (38 + 3 * (k : Int) + 2).toNat = 38 + 3 * k + 2 by omega, e3, upZ_same, chk_pos (by omega), chk_pos (by omega), chk_pos (by omega)]
          refine ⟨(k : Int) + 1, k + 1, upZ H k x2, upZ O k x3, upZ R k x1, _, by omega, rfl, rfl, ⟨by omega, upZ_same _ _ _, fun i hi => ?_⟩, fun j hj => ?_, fun j hj => ?_⟩
          · by_cases e : i = k
            · subst e
              rw [upZ_same, upZ_same, upZ_same, upZ_ne _ _ (by omega), upZ_ne _ _ (by omega), upZ_ne _ _ (by omega), upZ_same, upZ_ne _ _ (by omega), upZ_ne _ _ (by omega), upZ_same, upZ_ne _ _ (by omega), upZ_same]
              exact ⟨⟨c1, rfl⟩, ⟨c2, rfl⟩, c3, rfl⟩
            · have hi2 : i < k := by omega
              rw [upZ_ne _ _ e, upZ_ne _ _ e, upZ_ne _ _ e, upZ_ne _ _ (by omega), upZ_ne _ _ (by omega), upZ_ne _ _ (by omega), upZ_ne _ _ (by omega), upZ_ne _ _ (by omega), upZ_ne _ _ (by omega), upZ_ne _ _ (by omega), upZ_ne _ _ (by omega), upZ_ne _ _ (by omega), upZ_ne _ _ (by omega), upZ_ne _ _ (by omega), upZ_ne _ _ (by omega)]
              exact h.2.2 i hi2
          · rw [upZ_ne _ _ (by omega), upZ_ne _ _ (by omega), upZ_ne _ _ (by omega), upZ_ne _ _ (by omega)]
          · rw [upZ_ne _ _ (by omega), upZ_ne _ _ (by omega), upZ_ne _ _ (by omega), upZ_ne _ _ (by omega)]
      · rw [if_neg c3, if_neg c3]
        exact ⟨-1, k, H, O, R, S, by decide, rfl, rfl, h, fun _ _ => rfl, fun _ _ => rfl⟩
    · rw [if_neg c2, if_neg c2]
      exact ⟨-1, k, H, O, R, S, by decide, rfl, rfl, h, fun _ _ => rfl, fun _ _ => rfl⟩
  · rw [if_neg c1, if_neg c1]
    exact ⟨-1, k, H, O, R, S, by decide, rfl, rfl, h, fun _ _ => rfl, fun _ _ => rfl⟩
theorem scut_eq (k : Nat) (hk : k ≤ 160) (x : Int) (hx : inR x) : f_Sightings_cut k x = some (if 0 ≤ x ∧ x ≤ (k : Int) then x else k) := by
  unfold f_Sightings_cut
  rw [gb (within_eq x 0 k hx (by decide) (by omega))]
  split <;> rfl
theorem p_forget {k : Nat} {H O R S : Nat → Int} (h : RQ k H O R S) (x : Int) (hx : inR x) : ∃ (v : Int) (k' : Nat) (S' : Nat → Int), inR v ∧ f_HH_forget k x = some (v, (k' : Int)) ∧ f_M_forget S x = some (v, S') ∧ RQ k' H O R S' ∧ (∀ j, j < 37 → S' j = S j) ∧ ∀ j, 56 ≤ j → S' j = S j := by
  have hk := h.1
  have e0 : f_Sightings_size k = some (k : Int) := rfl
  unfold f_HH_forget f_M_forget
  rw [bnd_eq e0, gb (within_eq x 0 k hx (by decide) (by omega)), h.2.1, chk_pos hx, chk_pos (show inR (k : Int) by omega), gb (in_eq x 0 k (inL_of hx) (by decide) (by constructor <;> omega))]
  by_cases c : 0 ≤ x ∧ x ≤ (k : Int)
  · rw [if_pos c, if_pos c, bnd_eq (scut_eq k (by omega) x hx), if_pos c]
    unfold f_M_becomes
    rw [chk_pos (by omega)]
    refine ⟨k, x.toNat, upZ S 37 x, by omega, by rw [Int.toNat_of_nonneg c.1], by rw [← h.2.1]; rfl, ⟨by omega, by rw [Int.toNat_of_nonneg c.1]; exact upZ_same _ _ _, fun i hi => ?_⟩, fun j hj => upZ_ne _ _ (by omega), fun j hj => upZ_ne _ _ (by omega)⟩
    rw [upZ_ne _ _ (by omega), upZ_ne _ _ (by omega), upZ_ne _ _ (by omega)]
    exact h.2.2 i (by omega)
  · rw [if_neg c, if_neg c]
    exact ⟨-1, k, S, by decide, rfl, rfl, h, fun _ _ => rfl, fun _ _ => rfl⟩
/-! all agree -/
def agr (c : Nat → Bool) : Nat → Bool
  | 0 => true
  | i + 1 => agr c i && c i
theorem fnd_agr (c : Nat → Bool) (k : Nat) : ∀ m i, i + m = k → agr c i = true → fnd (fun i => !c i) (fun _ => (0 : Int)) 1 i m = if agr c k = true then 1 else 0
  | 0, i, h, h1 => by
    obtain rfl : i = k := by omega
    rw [if_pos h1]; rfl
  | m + 1, i, h, h1 => by
    show (if (!c i) = true then (0 : Int) else fnd (fun i => !c i) (fun _ => (0 : Int)) 1 (i + 1) m) = _
    cases e : c i with
    | true =>
      rw [if_neg (by decide)]
      exact fnd_agr c k m (i + 1) (by omega) (by show (agr c i && c i) = true; rw [h1, e]; rfl)
    | false =>
      rw [if_pos (by decide)]
      have hf : ∀ j, agr c (i + 1 + j) = false := fun j => by
        induction j with
        | zero => show (agr c i && c i) = false; rw [e, Bool.and_false]
        | succ j ih => show (agr c (i + 1 + j) && c (i + 1 + j)) = false; rw [ih, Bool.false_and]
      have := hf m
      rw [show i + 1 + m = k by omega] at this
      rw [this, if_neg (by decide)]
abbrev agC (F P : Nat → Int) (st : Int) (n : Nat) (H O R : Nat → Int) : Nat → Bool := fun i => decide (sTold F P st n (R i) (H i) = O i)
theorem agree_eq {n : Nat} {F P : Nat → Int} {st : Int} (hV : VS n F P st) {k : Nat} {H O R S : Nat → Int} (h : RQ k H O R S) : f_Sightings_agreeWith k H O R n st F P = some (if agr (agC F P st n H O R) k = true then 1 else 0) := by
  have hk := h.1
  unfold f_Sightings_agreeWith
  have h1 := lfnd (fun fuel i => f_Sightings_agreeWith_L2 fuel k H O R n st F P i) k (fun i => !(agC F P st n H O R i)) (fun _ => (0 : Int)) 1
    (fun fuel i hi => by
      obtain ⟨⟨a1, _⟩, ⟨a2, _⟩, ⟨a3, _⟩⟩ := h.2.2 i hi
      have hb := sTold_bd (F := F) (P := P) (st := st) (n := n) (R i) (H i) a2
      show f_Sightings_agreeWith_L2 (fuel + 1) k H O R n st F P i = _
      rw [f_Sightings_agreeWith_L2, Int.toNat_natCast, chk_pos (by omega), chk_pos (by omega), if_neg (by omega), chk_pos (by omega), bnd_eq (oclock_eq hV (R i) (H i) (by omega) a2), chk_pos (by omega), chk_pos (by omega)]
      by_cases c : sTold F P st n (R i) (H i) = O i
      · rw [if_pos c, if_neg (by simp [c])]
      · rw [if_neg c, if_pos (by simp [c])])
    (fun fuel => by
      show f_Sightings_agreeWith_L2 (fuel + 1) k H O R n st F P k = _
      rw [f_Sightings_agreeWith_L2, chk_pos (by omega), chk_pos (by omega), if_pos (by omega)]) k 0 5000 (by omega) (by omega)
  refine Eq.trans h1 ?_
  rw [fnd_agr (agC F P st n H O R) k k 0 (by omega) rfl]
theorem isSo_eq {n : Nat} {st : Int} {F P N : Nat → Int} (hN : RN n st F P N) {k : Nat} {H O R S : Nat → Int} (h : RQ k H O R S) (y t : Nat → Int) : ∃ y' t', f_M_isSo y N S t = some (if agr (agC F P st n H O R) k = true then 1 else 0, y', t') ∧ RD n st F P N y' t' := by
  have hk := h.1
  obtain ⟨y', t', ed, hD⟩ := hN.day y t
  refine ⟨y', t', ?_, hD⟩
  unfold f_M_isSo
  rw [bnd_eq ed]
  have h1 := lup0 (fun fuel acc i => f_M_isSo_L8 fuel S t' acc i) k (fun i acc => if acc = 0 then 0 else if agC F P st n H O R i = true then 1 else 0) some (fun i acc => acc = if agr (agC F P st n H O R) i = true then 1 else 0)
    (fun fuel i acc hi hI => ⟨by
      obtain ⟨⟨a1, b1⟩, ⟨a2, b2⟩, ⟨a3, b3⟩⟩ := h.2.2 i hi
      have hb := sTold_bd (F := F) (P := P) (st := st) (n := n) (R i) (H i) a2
      have et := hD.wt (R i).toNat (H i).toNat (by omega) (by omega)
      rw [Int.toNat_of_nonneg a1.1, Int.toNat_of_nonneg a2.1] at et
      have hac : acc = 0 ∨ acc = 1 := by rw [hI]; split <;> simp
      show f_M_isSo_L8 (fuel + 1) S t' acc i = _
      rw [f_M_isSo_L8, h.2.1, chk_pos (by omega), chk_pos (by omega), if_neg (by omega), chk_pos (by omega)]
      by_cases c0 : acc = 0
      · rw [if_pos c0, if_pos c0]
      · rw [if_neg c0, if_neg c0, show (38 + 3 * (i : Int)).toNat = 38 + 3 * i by omega, show (38 + 3 * (i : Int) + 1).toNat = 38 + 3 * i + 1 by omega, show (38 + 3 * (i : Int) + 2).toNat = 38 + 3 * i + 2 by omega, ← b1, ← b2, ← b3, show (24 * R i + H i).toNat = 24 * (R i).toNat + (H i).toNat by omega, et, chk_pos (by omega), chk_pos (by omega), chk_pos (by omega), chk_pos (by omega), chk_pos (by omega), chk_pos (by omega)]
        by_cases c : sTold F P st n (R i) (H i) = O i
        · rw [if_pos c, if_pos (decide_eq_true c)]
        · rw [if_neg c, if_neg (by rw [decide_eq_true_eq]; exact c)], by
      subst hI
      show (if (if agr (agC F P st n H O R) i = true then (1 : Int) else 0) = 0 then (0 : Int) else if agC F P st n H O R i = true then 1 else 0) = if (agr (agC F P st n H O R) i && agC F P st n H O R i) = true then 1 else 0
      cases agr (agC F P st n H O R) i <;> cases agC F P st n H O R i <;> rfl⟩)
    (fun fuel acc _ => by
      show f_M_isSo_L8 (fuel + 1) S t' acc k = _
      rw [f_M_isSo_L8, h.2.1, chk_pos (by omega), chk_pos (by omega), if_pos (by omega)]) 1 5000 (by omega) rfl
  have e1 : f_M_isSo_L8 5000 S t' 1 0 = some (if agr (agC F P st n H O R) k = true then 1 else 0) := by
    refine Eq.trans h1.1 ?_
    rw [h1.2]
  rw [bnd_eq e1, chk_pos (by split <;> simp)]
