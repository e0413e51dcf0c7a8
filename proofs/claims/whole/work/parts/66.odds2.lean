/-! ===== the reference's ways ===== -/
theorem reduce_eq (u l : Nat) (hu : u < 2147483648) (hl : l < 2147483648) (h0 : 0 < l) : f_Odds_reduce u l = some (((u / Nat.gcd l u : Nat) : Int), ((l / Nat.gcd l u : Nat) : Int)) := by
  have h := gcd_class 31 l u 0 5000 (by omega) hl hu (by omega) (by omega)
  have h : f_Odds_reduce_L13 5000 l u 0 = some ((Nat.gcd l u : Nat) : Int) := h
  have hg := Nat.gcd_pos_of_pos_left u h0
  have hg2 := Nat.gcd_le_left u h0
  unfold f_Odds_reduce
  rw [bnd_eq h, chk_pos (by constructor <;> omega), if_neg (by unfold cmpZ; rw [if_pos (by omega)]; omega), chk_pos (by omega), chk_pos (by omega)]
  rfl
theorem lowest_eq (a b : Nat) (ha : a < 2147483648) (hb : b < 2147483648) (h0 : 0 < b) (x : Int) (hx : inR x) : f_M_lowest a b x = some (if x = 0 then ((a / Nat.gcd b a : Nat) : Int) else ((b / Nat.gcd b a : Nat) : Int)) := by
  have h := gcd_ref 31 b a 5000 (by omega) hb ha (by omega)
  have hg := Nat.gcd_pos_of_pos_left a h0
  have hg2 := Nat.gcd_le_left a h0
  unfold f_M_lowest f_M_common
  rw [bnd_eq h, Option.bind_some, chk_pos hx, chk_pos (by omega), chk_pos (by omega)]
  by_cases c : x = 0
  · rw [if_pos c, if_pos c]; rfl
  · rw [if_neg c, if_neg c]; rfl
/-- works made longer by the bits -/
def xF (F : Nat → Int) (m n : Nat) : Nat → Int := fun k => if k % 6 = 1 ∧ k / 6 < n then F k + (bt m (k / 6) : Int) else F k
theorem xF_1 (F : Nat → Int) (m n b : Nat) (hb : b < n) : xF F m n (6 * b + 1) = F (6 * b + 1) + (bt m b : Int) := by
  unfold xF
  rw [if_pos (by omega), show (6 * b + 1) / 6 = b by omega]
theorem xF_o (F : Nat → Int) (m n b w : Nat) (hw : w < 6) (h1 : w ≠ 1) : xF F m n (6 * b + w) = F (6 * b + w) := by
  unfold xF
  rw [if_neg (by omega)]
theorem bt_bd (m b : Nat) : bt m b ≤ 1 := by unfold bt; omega
theorem VS.xF {n : Nat} {F P : Nat → Int} {st : Int} (hV : VS n F P st) (h12 : ∀ b, b < n → F (6 * b + 1) ≤ 12) (m : Nat) : VS n (xF F m n) P st := by
  refine ⟨hV.1, hV.2.1, fun b hb => ?_, hV.2.2.2⟩
  have h := hV.2.2.1 b hb
  have h1 := h12 b hb
  have h2 := bt_bd m b
  have e0 := xF_o F m n b 0 (by omega) (by omega)
  have e1 := xF_1 F m n b hb
  have e2 := xF_o F m n b 2 (by omega) (by omega)
  have e3 := xF_o F m n b 3 (by omega) (by omega)
  have e4 := xF_o F m n b 4 (by omega) (by omega)
  have e5 := xF_o F m n b 5 (by omega) (by omega)
  rw [Nat.add_zero] at e0
  unfold VK at h ⊢
  rw [e0, e1, e2, e3, e4, e5]
  omega
theorem odds_in {n : Nat} {st : Int} {F P S N : Nat → Int} (hV : VS n F P st) (h12 : ∀ b, b < n → F (6 * b + 1) ≤ 12) (h30 : S 30 = (n : Int)) (hN : RN n st F P N) (x : Int) (hx : 0 ≤ x ∧ x ≤ 10) (m : Nat) (hm : m < 2147483648) : ∃ N', f_M_findOdds_L71 5000 N S x m 1 0 = some (wgt x m n, N') ∧ RN n st (xF F m n) P N' := by
  have hn := hV.1
  have h := lup0 (fun fuel (c : Int × (Nat → Int)) i => f_M_findOdds_L71 fuel c.2 S x m c.1 i) n (fun i c => (c.1 * (if bt m i = 1 then x else 10 - x), upZ c.2 (6 * i + 1) (c.2 (6 * i + 1) + (bt m i : Int)))) (fun c => some c) (fun i c => c.1 = wgt x m i ∧ ∀ j, j < 56 → c.2 j = if j % 6 = 1 ∧ j / 6 < i then N j + (bt m (j / 6) : Int) else N j)
    (fun fuel i c hi hI => ⟨by
      have hb := bt_bd m i
      have e0 : zand (zshr m i) 1 = (bt m i : Int) := bit_nat m i hm (by omega)
      have ef := of1 (S := c.2) (i : Int) (by omega)
      rw [Int.toNat_natCast] at ef
      show f_M_findOdds_L71 (fuel + 1) c.2 S x m c.1 i = _
      rw [f_M_findOdds_L71, h30, e0, chk_pos (by omega), chk_pos (by omega), if_neg (by omega)]
      have e1 : (if (bt m i : Int) = 1 then some (1 : Int) else some 0) = some (bt m i : Int) := by
        by_cases q : bt m i = 1
        · rw [if_pos (by omega), q]; rfl
        · rw [if_neg (by omega), show bt m i = 0 by omega]; rfl
      rw [bnd_eq e1, chk_pos (by omega)]
      have e2 : (if (bt m i : Int) = 0 then chk (inR (10 - x)) (some (10 - x)) else chk (inR x) (some x)) = some (if bt m i = 1 then x else 10 - x) := by
        rw [chk_pos (by omega), chk_pos (by omega)]
        by_cases q : bt m i = 1
        · rw [if_neg (by omega), if_pos q]
        · rw [if_pos (by omega), if_neg q]
      rw [bnd_eq e2, bnd_eq ef, bnd_eq (flag_eq _ (by omega)), bnd_eq (show f_M_becomesOf c.2 i 1 (c.2 (6 * i + 1) + (bt m i : Int)) = _ from becomesOf_eq c.2 i 1 _ (by omega) (by omega))], by
      refine ⟨by rw [hI.1]; rfl, fun j hj => ?_⟩
      show upZ c.2 (6 * i + 1) _ j = _
      by_cases e : j = 6 * i + 1
      · subst e
        rw [upZ_same, hI.2 _ hj, if_neg (by omega), if_pos (by omega), show (6 * i + 1) / 6 = i by omega]
      · rw [upZ_ne _ _ e, hI.2 j hj]
        by_cases q : j % 6 = 1 ∧ j / 6 < i
        · rw [if_pos q, if_pos (by omega)]
        · rw [if_neg q, if_neg (by omega)]⟩)
    (fun fuel c _ => by
      show f_M_findOdds_L71 (fuel + 1) c.2 S x m c.1 n = _
      rw [f_M_findOdds_L71, h30, chk_pos (by omega), chk_pos (by omega), if_pos (by omega)]) (1, N) 5000 (by omega) ⟨rfl, fun j hj => by rw [if_neg (by omega)]⟩
  obtain ⟨h1, h2, h3⟩ := h
  generalize itr (fun i (c : Int × (Nat → Int)) => (c.1 * (if bt m i = 1 then x else 10 - x), upZ c.2 (6 * i + 1) (c.2 (6 * i + 1) + (bt m i : Int)))) 0 n (1, N) = r at h1 h2 h3
  obtain ⟨r1, N'⟩ := r
  dsimp only at h2 h3
  subst h2
  refine ⟨N', h1, ?_⟩
  have e36 := h3 36 (by omega)
  rw [if_neg (by omega)] at e36
  have e30 := h3 30 (by omega)
  rw [if_neg (by omega)] at e30
  have hVx := hV.xF h12 m
  have es : ES n N' (oP N') (xF F m n) P := ⟨fun k hk => by
    rw [h3 k (by omega)]
    unfold xF
    by_cases q : k % 6 = 1 ∧ k / 6 < n
    · rw [if_pos q, if_pos q, hN.es.1 k hk]
    · rw [if_neg q, if_neg q, hN.es.1 k hk], fun i hi => by
    refine (h3 (31 + i) (by omega)).trans ?_
    rw [if_neg (by omega)]
    exact hN.es.2 i hi⟩
  refine ⟨⟨e30.trans hN.vn.1, ?_⟩, es, e36.trans hN.e36⟩
  rw [e36, hN.e36]
  exact hVx.cong es.symm
/-- boxes in the first places -/
def Qi (P : Nat → Int) (n i : Nat) : Nat → Bool := fun b => decide (sPl P n b < i)
theorem si_cut (f : Nat → Int) (i : Nat) : ∀ d, fb_si (fun j => if j < i then f j else 0) (i + d) = fb_si f i
  | 0 => fb_si_cong (fun k hk => if_pos hk)
  | d + 1 => by
    show fb_si (fun j => if j < i then f j else 0) (i + d) + (if i + d < i then f (i + d) else 0) = _
    rw [si_cut f i d, if_neg (by omega)]
    omega
theorem cut_perm {n : Nat} {F P : Nat → Int} {st : Int} (hV : VS n F P st) (f : Nat → Int) {i : Nat} (hi : i ≤ n) : fb_si (fun b => if Qi P n i b = true then f b else 0) n = fb_si (fun j => f (P j).toNat) i := by
  rw [← si_perm (fun b => if Qi P n i b = true then f b else 0) n (fun j => (P j).toNat) (fun j hj => by have := hV.2.2.2.1 j hj; omega) (fun a b hab hb e => by
    have h1 := hV.2.2.2.1 a (by omega)
    have h2 := hV.2.2.2.1 b hb
    have := hV.2.2.2.2 a b (by omega) hb (by omega)
    omega)]
  have h := si_cut (fun j => f (P j).toNat) i (n - i)
  rw [show i + (n - i) = n by omega] at h
  rw [← h]
  refine fb_si_cong (fun j hj => ?_)
  show (if decide (sPl P n (P j).toNat < i) = true then f (P j).toNat else 0) = _
  rw [sPl_of hV hj]
  by_cases c : j < i
  · rw [if_pos c, if_pos (decide_eq_true c)]
  · rw [if_neg c, if_neg (by rw [decide_eq_true_eq]; exact c)]
theorem Qi_ct {n : Nat} {F P : Nat → Int} {st : Int} (hV : VS n F P st) {i : Nat} (hi : i ≤ n) : fb_ct (Qi P n i) n = i := by
  have h1 := ct_si (Qi P n i) n
  rw [cut_perm hV (fun _ => 1) hi] at h1
  have h2 : ∀ k, fb_si (fun _ => (1 : Int)) k = k := fun k => by
    induction k with
    | zero => rfl
    | succ k ih => rw [fb_si_succ, ih]; omega
  rw [h2] at h1
  omega
theorem cq_si (Q : Nat → Bool) (m : Nat) : ∀ n, (cq Q m n : Int) = fb_si (fun b => if Q b = true then (bt m b : Int) else 0) n
  | 0 => rfl
  | n + 1 => by
    rw [fb_si_succ, ← cq_si Q m n]
    show ((cq Q m n + (if Q n = true then bt m n else 0) : Nat) : Int) = _
    split <;> omega
theorem sDn_x {n : Nat} {F P : Nat → Int} {st : Int} (hV : VS n F P st) (m : Nat) {i : Nat} (hi : i ≤ n) : sDn (xF F m n) P st i = sDn F P st i + (cq (Qi P n i) m n : Int) := by
  rw [cq_si, cut_perm hV (fun b => (bt m b : Int)) hi]
  have key : ∀ i, i ≤ n → sDn (xF F m n) P st i = sDn F P st i + fb_si (fun j => (bt m (P j).toNat : Int)) i := fun i => by
    induction i with
    | zero => intro _; show st = st + 0; omega
    | succ i ih =>
      intro hi
      have hp := hV.2.2.2.1 i (by omega)
      show sDn (xF F m n) P st i + xF F m n (6 * (P i).toNat + 1) = sDn F P st i + F (6 * (P i).toNat + 1) + (fb_si (fun j => (bt m (P j).toNat : Int)) i + (bt m (P i).toNat : Int))
      rw [ih (by omega), xF_1 F m n _ (by omega)]
      omega
  exact key i hi
