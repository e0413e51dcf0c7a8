/-! ===== best: orders as numbers ===== -/
def dg (n c i : Nat) : Nat := c / 5 ^ (n - 1 - i) % 5
def dgF (n c : Nat) : Nat → Int := fun i => (dg n c i : Int)
/-- the mask of the last t digits -/
def mkR (c : Nat) : Nat → Int
  | 0 => 0
  | t + 1 => zor (mkR c t) (zshl 1 ((c / 5 ^ t % 5 : Nat) : Int))
def isP (n c : Nat) : Bool := decide (mkR c n = zshl 1 (n : Nat) - 1)
theorem mkR_in (c : Nat) : ∀ t, inR (mkR c t)
  | 0 => by show inR 0; decide
  | _ + 1 => inR_of _
theorem isOrder_eq {n : Nat} (hn : n ≤ 5) (N : Nat → Int) (h30 : N 30 = (n : Int)) (c : Nat) (hc : c < 2147483648) : ∃ N', f_M_isOrderBy N c = some (if isP n c = true then 1 else 0, N') ∧ (∀ i, i < n → N' (31 + i) = dgF n c i) ∧ ∀ j, (j < 31 ∨ 31 + n ≤ j) → N' j = N j := by
  have key : ∀ (k t f : Nat) (M : Nat → Int), t + k = n → k < f → (∀ i, n - t ≤ i → i < n → M (31 + i) = dgF n c i) → (∀ j, (j < 31 ∨ 31 + n ≤ j) → M j = N j) → ∃ N', f_M_isOrderBy_L15 f M ((c / 5 ^ t : Nat) : Int) (mkR c t) ((n : Int) - 1 - t) = some (mkR c n, N') ∧ (∀ i, i < n → N' (31 + i) = dgF n c i) ∧ ∀ j, (j < 31 ∨ 31 + n ≤ j) → N' j = N j := by
    intro k
    induction k with
    | zero =>
      intro t f M ht hf h1 h2
      obtain ⟨g, rfl⟩ : ∃ g, f = g + 1 := ⟨f - 1, by omega⟩
      obtain rfl : t = n := by omega
      refine ⟨M, ?_, fun i hi => h1 i (by omega) hi, h2⟩
      rw [f_M_isOrderBy_L15, chk_pos (by omega), if_pos (by omega)]
    | succ k ih =>
      intro t f M ht hf h1 h2
      obtain ⟨g, rfl⟩ : ∃ g, f = g + 1 := ⟨f - 1, by omega⟩
      have hd : c / 5 ^ t ≤ c := Nat.div_le_self c _
      have hb : 0 ≤ ((c / 5 ^ t : Nat) : Int) ∧ ((c / 5 ^ t : Nat) : Int) < 2147483648 := by
        generalize c / 5 ^ t = z at hd
        omega
      have e5 : ((c / 5 ^ t : Nat) : Int) % 5 = ((c / 5 ^ t % 5 : Nat) : Int) := by omega
      have e6 : ((c / 5 ^ t : Nat) : Int) / 5 = ((c / 5 ^ (t + 1) : Nat) : Int) := by
        rw [Nat.pow_succ, ← Nat.div_div_eq_div_mul]; omega
      have e7 : (31 + ((n : Int) - 1 - t)).toNat = 31 + (n - 1 - t) := by omega
      rw [f_M_isOrderBy_L15, chk_pos (by omega), if_neg (by omega), chk_pos hb, chk_pos (by omega), e5, e6, e7, show (n : Int) - 1 - t + -1 = (n : Int) - 1 - ((t + 1 : Nat) : Int) by omega]
      refine ih (t + 1) g _ (by omega) (by omega) (fun i hi1 hi2 => ?_) (fun j hj => ?_)
      · by_cases e : i = n - 1 - t
        · subst e
          rw [upZ_same]
          show ((c / 5 ^ t % 5 : Nat) : Int) = ((c / 5 ^ (n - 1 - (n - 1 - t)) % 5 : Nat) : Int)
          rw [show n - 1 - (n - 1 - t) = t by omega]
        · rw [upZ_ne _ _ (by omega)]
          exact h1 i (by omega) hi2
      · rw [upZ_ne _ _ (by omega)]
        exact h2 j hj
  obtain ⟨N', e1, e2, e3⟩ := key n 0 5000 N (by omega) (by omega) (fun i h1 h2 => by omega) (fun _ _ => rfl)
  refine ⟨N', ?_, e2, e3⟩
  have e1 : f_M_isOrderBy_L15 5000 N ((c / 1 : Nat) : Int) 0 ((n : Int) - 1 - ((0 : Nat) : Int)) = some (mkR c n, N') := e1
  rw [Nat.div_one, show (n : Int) - 1 - ((0 : Nat) : Int) = (n : Int) - 1 by omega] at e1
  have hz : inR (zshl 1 (n : Nat) - 1) := by
    rw [zshl_nat n (by omega)]
    have := (pow5 hn).1
    have := (pow5 hn).2
    omega
  unfold f_M_isOrderBy
  have e30 : (mkR c n, N').2 30 = (n : Int) := (e3 30 (by omega)).trans h30
  rw [h30, bnd_eq e1, e30, chk_pos (show inR (mkR c n, N').1 from mkR_in c n), chk_pos hz]
  unfold isP
  by_cases q : mkR c n = zshl 1 (n : Nat) - 1
  · rw [if_pos q, if_pos (decide_eq_true q)]
  · rw [if_neg q, if_neg (by rw [decide_eq_true_eq]; exact q)]
/-! the next order reads the places in use alone -/
def AG (n : Nat) (P Q : Nat → Int) : Prop := ∀ i, i < n → P i = Q i
theorem nL7 {n : Nat} (hn : n ≤ 5) {P Q : Nat → Int} (h : AG n P Q) : ∀ (f : Nat) (x : Int), x + 1 < (n : Int) → f_Shop_nextOrder_L7 f P x = f_Shop_nextOrder_L7 f Q x
  | 0, _, _ => rfl
  | f + 1, x, hx => by
    rw [f_Shop_nextOrder_L7, f_Shop_nextOrder_L7]
    by_cases c : x < 0
    · rw [if_pos c, if_pos c]
    · rw [h x.toNat (by omega), h (x + 1).toNat (by omega), nL7 hn h f (x + -1) (by omega)]
theorem nL47 {n : Nat} (hn : n ≤ 5) {P Q : Nat → Int} (h : AG n P Q) (x1 : Int) (h1 : 0 ≤ x1 ∧ x1 < n) : ∀ (f : Nat) (x : Int), x < (n : Int) → f_Shop_nextOrder_L47 f P x1 x = f_Shop_nextOrder_L47 f Q x1 x
  | 0, _, _ => rfl
  | f + 1, x, hx => by
    rw [f_Shop_nextOrder_L47, f_Shop_nextOrder_L47]
    by_cases c : x ≤ x1
    · rw [if_pos c, if_pos c]
    · rw [h x.toNat (by omega), h x1.toNat (by omega), nL47 hn h x1 h1 f (x + -1) (by omega)]
/-- both nothing, or both something and alike -/
def OE (n : Nat) (a b : Option (Nat → Int)) : Prop := (a = none ∧ b = none) ∨ ∃ P Q, a = some P ∧ b = some Q ∧ AG n P Q
theorem nEx {n : Nat} (hn : n ≤ 5) {P Q : Nat → Int} (h : AG n P Q) (x y : Int) (hx : inR x) (hy : inR y) : ∃ P' Q', f_Shop_exchange n P x y = some P' ∧ f_Shop_exchange n Q x y = some Q' ∧ AG n P' Q' := by
  unfold f_Shop_exchange
  rw [gb (has_eq hn x hx), gb (has_eq hn y hy), gb (has_eq hn x hx), gb (has_eq hn y hy)]
  by_cases c : 0 ≤ x ∧ x < (n : Int)
  · rw [if_pos c, if_pos c]
    by_cases d : 0 ≤ y ∧ y < (n : Int)
    · rw [if_pos d, if_pos d, chk_pos (by omega), chk_pos (by omega), chk_pos (by omega), chk_pos (by omega), h x.toNat (by omega), h y.toNat (by omega)]
      refine ⟨_, _, rfl, rfl, fun i hi => ?_⟩
      unfold upZ
      by_cases e : i = y.toNat
      · rw [if_pos e, if_pos e]
      · rw [if_neg e, if_neg e]
        by_cases g : i = x.toNat
        · rw [if_pos g, if_pos g]
        · rw [if_neg g, if_neg g]; exact h i hi
    · rw [if_neg d, if_neg d]; exact ⟨P, Q, rfl, rfl, h⟩
  · rw [if_neg c, if_neg c]; exact ⟨P, Q, rfl, rfl, h⟩
theorem nL91 {n : Nat} (hn : n ≤ 5) : ∀ (f : Nat) (P Q : Nat → Int) (x y : Int), AG n P Q → OE n (f_Shop_nextOrder_L91 f n P x y) (f_Shop_nextOrder_L91 f n Q x y)
  | 0, _, _, _, _, _ => Or.inl ⟨rfl, rfl⟩
  | f + 1, P, Q, x, y, h => by
    rw [f_Shop_nextOrder_L91, f_Shop_nextOrder_L91]
    unfold chk
    by_cases hx : inR x
    · rw [if_pos hx, if_pos hx]
      by_cases hy : inR y
      · rw [if_pos hy, if_pos hy]
        by_cases c : y ≤ x
        · rw [if_pos c, if_pos c]; exact Or.inr ⟨P, Q, rfl, rfl, h⟩
        · rw [if_neg c, if_neg c]
          obtain ⟨P', Q', e1, e2, e3⟩ := nEx hn h x y hx hy
          rw [bnd_eq e1, bnd_eq e2]
          exact nL91 hn f P' Q' _ _ e3
      · rw [if_neg hy, if_neg hy]; exact Or.inl ⟨rfl, rfl⟩
    · rw [if_neg hx, if_neg hx]; exact Or.inl ⟨rfl, rfl⟩
