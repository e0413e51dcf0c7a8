/-! ===== the reference: the same words ===== -/
theorem in_eq (v a b : Int) (hv : inL v) (ha : inL a) (hb : inL b) : f_M_in v a b = some (if a ≤ v ∧ v ≤ b then 1 else 0) := by
  unfold f_M_in cmpZ chk
  grind
theorem mhour_eq (v : Int) (hv : inR v) : f_M_isHour v = some (if 0 ≤ v ∧ v ≤ 23 then 1 else 0) := by
  unfold f_M_isHour
  rw [in_eq v 0 23 (inL_of hv) (by decide) (by decide)]
  unfold chk
  grind
theorem mroom_eq (v : Int) (hv : inR v) : f_M_isRoom v = some (if 0 ≤ v ∧ v ≤ 4 then 1 else 0) := by
  unfold f_M_isRoom
  rw [in_eq v 0 4 (inL_of hv) (by decide) (by decide)]
  unfold chk
  grind
theorem mpart_eq (v : Int) (hv : inR v) : f_M_isPart v = some (if v = 0 ∨ v = 1 then 1 else 0) := by
  unfold f_M_isPart
  rw [in_eq v 0 1 (inL_of hv) (by decide) (by decide)]
  unfold chk
  grind
theorem mbox_eq {n : Nat} {S : Nat → Int} (hS : S 30 = (n : Int)) (hn : n ≤ 5) (v : Int) (hv : inR v) : f_M_isBox S v = some (if 0 ≤ v ∧ v < n then 1 else 0) := by
  unfold f_M_isBox
  rw [hS, in_eq v 0 ((n : Int) - 1) (inL_of hv) (by decide) (by constructor <;> omega)]
  unfold chk
  grind
theorem flag_eq (v : Int) (h : v = 0 ∨ v = 1) : f_M_flag v = some v := by
  unfold f_M_flag chk
  grind
theorem lesser_eq (a b : Int) (ha : inR a) (hb : inR b) : f_M_lesser a b = some (if b ≤ a then b else a) := by
  unfold f_M_lesser chk
  grind
theorem of_eq {S : Nat → Int} (b w : Int) (hb : 0 ≤ b ∧ b < 5) (hw : 0 ≤ w ∧ w ≤ 5) : f_M_of S b w = some (S (6 * b.toNat + w.toNat)) := by
  have e : (6 * b + w).toNat = 6 * b.toNat + w.toNat := by omega
  unfold f_M_of
  rw [chk_pos (by omega), e]
theorem of0 {S : Nat → Int} (b : Int) (hb : 0 ≤ b ∧ b < 5) : f_M_of S b 0 = some (S (6 * b.toNat)) := of_eq b 0 hb (by decide)
theorem of1 {S : Nat → Int} (b : Int) (hb : 0 ≤ b ∧ b < 5) : f_M_of S b 1 = some (S (6 * b.toNat + 1)) := of_eq b 1 hb (by decide)
theorem of2 {S : Nat → Int} (b : Int) (hb : 0 ≤ b ∧ b < 5) : f_M_of S b 2 = some (S (6 * b.toNat + 2)) := of_eq b 2 hb (by decide)
theorem of3 {S : Nat → Int} (b : Int) (hb : 0 ≤ b ∧ b < 5) : f_M_of S b 3 = some (S (6 * b.toNat + 3)) := of_eq b 3 hb (by decide)
theorem of4 {S : Nat → Int} (b : Int) (hb : 0 ≤ b ∧ b < 5) : f_M_of S b 4 = some (S (6 * b.toNat + 4)) := of_eq b 4 hb (by decide)
theorem of5 {S : Nat → Int} (b : Int) (hb : 0 ≤ b ∧ b < 5) : f_M_of S b 5 = some (S (6 * b.toNat + 5)) := of_eq b 5 hb (by decide)
/-- the reference's row at hand: boxes, order, start -/
abbrev oP (S : Nat → Int) : Nat → Int := fun i => S (31 + i)
def VN (n : Nat) (S : Nat → Int) : Prop := S 30 = (n : Int) ∧ VS n S (oP S) (S 36)
theorem mdone_eq {n : Nat} {S : Nat → Int} (hN : VN n S) {x : Nat} (hx : x < n) : f_M_doneIn S x = some (sDn S (oP S) (S 36) (x + 1)) := by
  have hn := hN.2.1
  unfold f_M_doneIn
  have h := lup0 (fun fuel acc i => f_M_doneIn_L10 fuel S x acc i) (x + 1) (fun i acc => acc + S (6 * (oP S i).toNat + 1)) some (fun _ _ => True)
    (fun fuel i b hi _ => ⟨by
      show f_M_doneIn_L10 (fuel + 1) S x b i = _
      have hp := hN.2.2.2.2.1 i (by omega)
      rw [f_M_doneIn_L10, show (31 + (i : Int)).toNat = 31 + i by omega]
      have hp2 : S (31 + i) = oP S i := rfl
      rw [of1 (S (31 + i)) (by omega)]
      simp (disch := omega) only [chk_pos, if_neg, Option.bind_some], trivial⟩)
    (fun fuel b _ => by
      show f_M_doneIn_L10 (fuel + 1) S x b ((x + 1 : Nat) : Int) = _
      rw [f_M_doneIn_L10]
      simp (disch := omega) only [chk_pos, if_pos]) (S 36) 5000 (by omega) trivial
  rw [bnd_eq h.1]
  congr 1
  have hg : ∀ k, itr (fun i acc => acc + S (6 * (oP S i).toNat + 1)) 0 k (S 36) = sDn S (oP S) (S 36) k := fun k => by
    induction k with
    | zero => rfl
    | succ k ih => rw [itr_succ, ih, Nat.zero_add]; rfl
  exact hg (x + 1)
theorem mplace_eq {n : Nat} {S : Nat → Int} (hN : VN n S) (b : Int) (hb : 0 ≤ b ∧ b < n) : f_M_placeOf S b = some ((sPl (oP S) n b.toNat : Nat) : Int) := by
  have hn := hN.2.1
  have hs := sPl_spec hN.2 (b := b.toNat) (by omega)
  generalize sPl (oP S) n b.toNat = j at hs
  have key : ∀ (k i fuel : Nat) (acc : Int), i + k = n → k < fuel → (j < i → acc = j) → f_M_placeOf_L4 fuel S b acc i = some (j : Int) := by
    intro k
    induction k with
    | zero =>
      intro i fuel acc hi hf ha
      obtain ⟨f, rfl⟩ : ∃ f, fuel = f + 1 := ⟨fuel - 1, by omega⟩
      rw [f_M_placeOf_L4, hN.1]
      simp (disch := omega) only [chk_pos, if_pos]
      rw [ha (by omega)]
    | succ k ih =>
      intro i fuel acc hi hf ha
      obtain ⟨f, rfl⟩ : ∃ f, fuel = f + 1 := ⟨fuel - 1, by omega⟩
      have hp := hN.2.2.2.2.1 i (by omega)
      have hp2 : S (31 + i) = oP S i := rfl
      rw [f_M_placeOf_L4, hN.1, show (31 + (i : Int)).toNat = 31 + i by omega]
      simp (disch := omega) only [chk_pos, if_neg]
      by_cases c : S (31 + i) = b
      · rw [if_pos c]
        have hij : i = j := hN.2.2.2.2.2 i j (by omega) hs.1 (by omega)
        exact ih (i + 1) f i (by omega) (by omega) (fun _ => by omega)
      · rw [if_neg c]
        exact ih (i + 1) f acc (by omega) (by omega) (fun q => by
          have hij : i ≠ j := fun e => c (by subst e; omega)
          exact ha (by omega))
  unfold f_M_placeOf
  exact bnd_eq (key n 0 5000 0 (by omega) (by omega) (fun q => by omega))
theorem mown_eq {n : Nat} {S : Nat → Int} (hN : VN n S) (b : Int) (hb : 0 ≤ b ∧ b < n) : f_M_ownHour S b = some (sOwn S (oP S) (S 36) n b.toNat) := by
  have hs := sPl_spec hN.2 (b := b.toNat) (by omega)
  have hd := sDn_bd hN.2 (sPl (oP S) n b.toNat + 1) (by omega)
  have hst := hN.2.2.1
  have hn := hN.2.1
  unfold f_M_ownHour
  rw [mplace_eq hN b hb, Option.bind_some, mdone_eq hN hs.1, Option.bind_some, chk_pos (by omega)]
  rfl
theorem mwrong_eq {n : Nat} {S : Nat → Int} (hN : VN n S) (b : Int) (hb : 0 ≤ b ∧ b < n) : f_M_wrong S b = some (sWr S b.toNat (sOwn S (oP S) (S 36) n b.toNat)) := by
  have hk := (hN.2.2.2.1 b.toNat (by omega)).2.2.1
  have ho := sOwn_bd (F := S) (P := oP S) (st := S 36) (n := n) (b := b.toNat)
  have hn := hN.2.1
  unfold f_M_wrong
  rw [mown_eq hN b hb, of2 b (by omega), of3 b (by omega)]
  simp (disch := omega) only [chk_pos, Option.bind_some]
  have e : ∀ d : Int, -24 < d → d < 24 → Option.bind (if 0 ≤ d then some d else some (-d)) (fun o6 => Option.bind (f_M_lesser o6 (24 - o6)) (fun o11 => some (S (6 * b.toNat + 3) * o11))) = some (S (6 * b.toNat + 3) * dst (d % 24)) := by
    intro d h1 h2
    by_cases c : 0 ≤ d
    · rw [if_pos c, Option.bind_some, lesser_eq _ _ (by constructor <;> omega) (by constructor <;> omega), Option.bind_some]
      unfold dst
      congr 2
      split <;> split <;> omega
    · rw [if_neg c, Option.bind_some, lesser_eq _ _ (by constructor <;> omega) (by constructor <;> omega), Option.bind_some]
      unfold dst
      congr 2
      split <;> split <;> omega
  exact e _ (by omega) (by omega)
theorem mall_eq {n : Nat} {S : Nat → Int} (hN : VN n S) : f_M_allWrong S = some (sAll S (oP S) (S 36) n) := by
  have hn := hN.2.1
  unfold f_M_allWrong
  have h := lup0 (fun fuel acc i => f_M_allWrong_L4 fuel S acc i) n (fun b acc => acc + sWr S b (sOwn S (oP S) (S 36) n b)) some (fun _ _ => True)
    (fun fuel i b hi _ => ⟨by
      show f_M_allWrong_L4 (fuel + 1) S b i = _
      rw [f_M_allWrong_L4, hN.1, mwrong_eq hN i (by omega), Int.toNat_natCast]
      simp (disch := omega) only [chk_pos, if_neg, Option.bind_some], trivial⟩)
    (fun fuel b _ => by
      show f_M_allWrong_L4 (fuel + 1) S b n = _
      rw [f_M_allWrong_L4, hN.1]
      simp (disch := omega) only [chk_pos, if_pos]) 0 5000 (by omega) trivial
  rw [bnd_eq h.1, itr_sum, Int.zero_add]
  rfl
theorem mallOf_eq {n : Nat} {S : Nat → Int} (hS : S 30 = (n : Int)) (hn : n ≤ 5) (w : Int) (hw : 0 ≤ w ∧ w ≤ 5) : f_M_allOf S w = some (fb_si (fun b => S (6 * b + w.toNat)) n) := by
  unfold f_M_allOf
  have h := lup0 (fun fuel acc i => f_M_allOf_L4 fuel S w acc i) n (fun b acc => acc + S (6 * b + w.toNat)) some (fun _ _ => True)
    (fun fuel i b hi _ => ⟨by
      show f_M_allOf_L4 (fuel + 1) S w b i = _
      rw [f_M_allOf_L4, hS, of_eq i w (by omega) hw, Int.toNat_natCast]
      simp (disch := omega) only [chk_pos, if_neg, Option.bind_some], trivial⟩)
    (fun fuel b _ => by
      show f_M_allOf_L4 (fuel + 1) S w b n = _
      rw [f_M_allOf_L4, hS]
      simp (disch := omega) only [chk_pos, if_pos]) 0 5000 (by omega) trivial
  rw [bnd_eq h.1, itr_sum, Int.zero_add]
theorem mlasts_eq {S : Nat → Int} (b : Int) (hb : 0 ≤ b ∧ b < 5) (hk : 0 ≤ S (6 * b.toNat) ∧ S (6 * b.toNat) ≤ 3) : f_M_lasts S b = some (sLa S b.toNat) := by
  unfold f_M_lasts sLa
  rw [of0 b hb, Option.bind_some, chk_pos (by omega)]
  generalize S (6 * b.toNat) = k at hk
  rcases (show k = 0 ∨ k = 1 ∨ k = 2 ∨ k = 3 by omega) with rfl | rfl | rfl | rfl <;> rfl
