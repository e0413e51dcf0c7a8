theorem pow10 : ∀ k : Nat, k ≤ 5 → 0 < 10 ^ k ∧ 10 ^ k ≤ 100000 := by
  intro k hk
  exact ⟨Nat.pow_pos (by omega), show 10 ^ k ≤ 10 ^ 5 from Nat.pow_le_pow_right (by omega) hk⟩
theorem cast10 (k : Nat) : (10 : Int) ^ k = ((10 ^ k : Nat) : Int) := by
  rw [Int.natCast_pow]; rfl
theorem odds_told_eq (u l x : Int) (hx : inR x) : f_Odds_told u l x = some (if x = 0 then u else l) := by
  unfold f_Odds_told
  rw [chk_pos hx]
  split <;> rfl
/-- the class passes the boxes up to a place -/
theorem pass_up (x : Int) (hx : 0 ≤ x ∧ x ≤ 10) (p : Nat) (hp : p < 5) (W : Nat → Int) (hW : WT x 0 W) : ∃ W', f_Odds_ofWantedHour_L14 5000 0 1 W x p 0 = some (0, ((10 ^ (p + 1) : Nat) : Int), W') ∧ WT x (p + 1) W' := by
  obtain ⟨r, e1, e2, e3, e4⟩ := lupE (fun fuel (c : Int × Int × (Nat → Int)) i => f_Odds_ofWantedHour_L14 fuel c.1 c.2.1 c.2.2 x p i) (p + 1) (fun i c => c.1 = 0 ∧ c.2.1 = ((10 ^ i : Nat) : Int) ∧ WT x i c.2.2) (fun r => r.1 = 0 ∧ r.2.1 = ((10 ^ (p + 1) : Nat) : Int) ∧ WT x (p + 1) r.2.2)
    (fun f i c hi hI => by
      obtain ⟨W', g1, g2⟩ := pass_eq c.1 c.2.1 c.2.2 x hx i (by omega) hI.2.2
      refine ⟨(c.1 * 10, c.2.1 * 10, W'), ?_, by show c.1 * 10 = 0; rw [hI.1]; rfl, by show c.2.1 * 10 = _; rw [hI.2.1, Nat.pow_succ]; omega, g2⟩
      show f_Odds_ofWantedHour_L14 (f + 1) c.1 c.2.1 c.2.2 x p i = _
      rw [f_Odds_ofWantedHour_L14, chk_pos (by omega), chk_pos (by omega), if_neg (by omega), bnd_eq g1])
    (fun f c hI => by
      refine ⟨(c.1, c.2.1, c.2.2), ?_, hI⟩
      show f_Odds_ofWantedHour_L14 (f + 1) c.1 c.2.1 c.2.2 x p ((p + 1 : Nat) : Int) = _
      rw [f_Odds_ofWantedHour_L14, chk_pos (by omega), chk_pos (by omega), if_pos (by omega)])
    (p + 1) 0 (0, 1, W) 5000 (by omega) (by omega) ⟨rfl, rfl, hW⟩
  obtain ⟨r1, r2, r3⟩ := r
  dsimp only at e2 e3 e4
  subst e2 e3
  exact ⟨r3, e1, e4⟩
theorem wanted_sum (W : Nat → Int) (d w : Int) (hd : 0 ≤ d ∧ d ≤ 1000) (hw : 0 ≤ w ∧ w ≤ 23) : f_Odds_ofWantedHour_L51 5000 0 W d w 0 = some (fb_si (fun j => W j * (if (d + (j : Int)) % 24 = w then 1 else 0)) 6) := by
  have h := lup0 (fun fuel (c : Int) i => f_Odds_ofWantedHour_L51 fuel c W d w i) 6 (fun i c => c + W i * (if (d + (i : Int)) % 24 = w then 1 else 0)) some (fun _ _ => True)
    (fun fuel i c hi _ => ⟨by
      show f_Odds_ofWantedHour_L51 (fuel + 1) c W d w i = _
      rw [f_Odds_ofWantedHour_L51, Int.toNat_natCast, chk_pos (by omega), if_neg (by omega), chk_pos (by omega), chk_pos (by omega), chk_pos (by omega), chk_pos (by omega)]
      by_cases q : (d + (i : Int)) % 24 = w
      · rw [if_pos q, if_pos q, Int.mul_one]
      · rw [if_neg q, if_neg q, Int.mul_zero, Int.add_zero], trivial⟩)
    (fun fuel c _ => by
      show f_Odds_ofWantedHour_L51 (fuel + 1) c W d w ((6 : Nat) : Int) = _
      rw [f_Odds_ofWantedHour_L51, chk_pos (by decide), if_pos (by decide)]) 0 5000 (by omega) trivial
  refine h.1.trans ?_
  rw [itr_sum, Int.zero_add]
theorem p_luck {n : Nat} {st : Int} {F P S : Nat → Int} (h : RS n st F P S) (x1 x2 x3 : Int) (h1 : inR x1) (h2 : inR x2) (h3 : inR x3) (ou ol : Int) (W : Nat → Int) (a b c : Int) (N : Nat → Int) : ∃ v w1 w2, inR v ∧ f_HH_luck ou ol W n st F P x1 x2 x3 = some (v, w1) ∧ f_M_luck a b c N S x1 x2 x3 = some (v, w2) := by
  have hV := h.1
  have hn := hV.1
  unfold f_HH_luck f_M_luck
  rw [gb (within_eq x1 0 10 h1 (by decide) (by decide)), gb (has_eq hn x2 h2), gb (either_eq x3 h3), chk_pos h1, gb (in_eq x1 0 10 (inL_of h1) (by decide) (by decide)), gb (mbox_eq h.2.2.1 hn x2 h2), gb (mpart_eq x3 h3)]
  by_cases c1 : 0 ≤ x1 ∧ x1 ≤ 10
  · rw [if_pos c1, if_pos c1]
    by_cases c2 : 0 ≤ x2 ∧ x2 < (n : Int)
    · rw [if_pos c2, if_pos c2]
      by_cases c3 : x3 = 0 ∨ x3 = 1
      · rw [if_pos c3, if_pos c3]
        obtain ⟨bx, rfl⟩ : ∃ b : Nat, x2 = b := ⟨x2.toNat, by omega⟩
        have hb : bx < n := by omega
        have hs := sPl_spec hV hb
        have hd := sDn_bd hV (sPl P n bx + 1) (by omega)
        have hst := hV.2.1
        have hw := fact_bd hV bx 2 hb (by omega)
        obtain ⟨N', ef⟩ := findOdds_eq h x1 c1 bx (Or.inr c2) a b c N
        obtain ⟨W0, b1, b2⟩ := anew_eq ou ol W x1
        obtain ⟨W1, b3, b4⟩ := pass_up x1 c1 (sPl P n bx) (by omega) W0 b2
        have ep := place_eq hV bx c2
        have e2 := fact2 (F := F) hn bx c2
        rw [Int.toNat_natCast] at ep e2
        have et := TT_bd x1 c1 1 (sPl P n bx + 1) (gR F P st n bx) (fun j => by unfold gR; split <;> omega)
        rw [cast10, Int.mul_one] at et
        obtain ⟨p1, p2⟩ := pow10 (sPl P n bx + 1) (by omega)
        obtain ⟨q1, q2⟩ := pow10 (n - (sPl P n bx + 1)) (by omega)
        obtain ⟨s1, s2⟩ := pow10 n (by omega)
        obtain ⟨u, hu⟩ : ∃ u : Nat, TT x1 (sPl P n bx + 1) (gR F P st n bx) = (u : Int) := ⟨(TT x1 (sPl P n bx + 1) (gR F P st n bx)).toNat, by omega⟩
        have eR := right_eq hV x1 bx hb
        rw [hu, cast10, ← Int.natCast_mul] at eR
        have hul : u ≤ 10 ^ (sPl P n bx + 1) := by omega
        have epow : 10 ^ n = 10 ^ (n - (sPl P n bx + 1)) * 10 ^ (sPl P n bx + 1) := by
          rw [← Nat.pow_add]
          exact congrArg (10 ^ ·) (by omega)
        have hcu : 10 ^ (n - (sPl P n bx + 1)) * u ≤ 10 ^ n := by rw [epow]; exact Nat.mul_le_mul_left _ hul
        have ew := wanted_sum W1 (sDn F P st (sPl P n bx + 1)) (F (6 * bx + 2)) (by omega) (by omega)
        have ew2 : fb_si (fun j => W1 j * (if (sDn F P st (sPl P n bx + 1) + (j : Int)) % 24 = F (6 * bx + 2) then 1 else 0)) 6 = (u : Int) := (b4.1 (gR F P st n bx)).trans hu
        rw [ew2] at ew
        have hC : f_Odds_ofWantedHour ou ol W n st F P bx x1 = some (((u / Nat.gcd (10 ^ (sPl P n bx + 1)) u : Nat) : Int), ((10 ^ (sPl P n bx + 1) / Nat.gcd (10 ^ (sPl P n bx + 1)) u : Nat) : Int), W1) := by
          unfold f_Odds_ofWantedHour
          rw [bnd_eq b1, bnd_eq ep, bnd_eq b3, bnd_eq (doneIn_eq hV (x := sPl P n bx) (by omega)), bnd_eq e2, bnd_eq ew, bnd_eq (reduce_eq u (10 ^ (sPl P n bx + 1)) (by omega) (by omega) p1)]
        rw [bnd_eq hC, bnd_eq (odds_told_eq _ _ x3 h3), bnd_eq ef]
        have hM : f_M_lowest (fb_si (rT F P st n x1 bx) (2 ^ n)) ((10 ^ n : Nat) : Int) x3 = some (if x3 = 0 then ((u / Nat.gcd (10 ^ (sPl P n bx + 1)) u : Nat) : Int) else ((10 ^ (sPl P n bx + 1) / Nat.gcd (10 ^ (sPl P n bx + 1)) u : Nat) : Int)) := by
          rw [eR, lowest_eq _ _ (by omega) (by omega) s1 x3 h3, epow, Nat.gcd_mul_left, Nat.mul_div_mul_left _ _ q1, Nat.mul_div_mul_left _ _ q1]
        rw [bnd_eq hM]
        refine ⟨_, _, _, ?_, rfl, rfl⟩
        have d1 := Nat.div_le_self u (Nat.gcd (10 ^ (sPl P n bx + 1)) u)
        have d2 := Nat.div_le_self (10 ^ (sPl P n bx + 1)) (Nat.gcd (10 ^ (sPl P n bx + 1)) u)
        show inR (if x3 = 0 then ((u / Nat.gcd (10 ^ (sPl P n bx + 1)) u : Nat) : Int) else ((10 ^ (sPl P n bx + 1) / Nat.gcd (10 ^ (sPl P n bx + 1)) u : Nat) : Int))
        generalize u / Nat.gcd (10 ^ (sPl P n bx + 1)) u = z1 at d1
        generalize 10 ^ (sPl P n bx + 1) / Nat.gcd (10 ^ (sPl P n bx + 1)) u = z2 at d2
        split <;> omega
      · rw [if_neg c3, if_neg c3]
        exact ⟨-1, _, _, by decide, rfl, rfl⟩
    · rw [if_neg c2, if_neg c2]
      exact ⟨-1, _, _, by decide, rfl, rfl⟩
  · rw [if_neg c1, if_neg c1]
    exact ⟨-1, _, _, by decide, rfl, rfl⟩
theorem mean_in {n : Nat} {st : Int} {F P : Nat → Int} (hV : VS n F P st) (W : Nat → Int) (i : Nat) (hi : i < n) (u : Int) : f_Odds_ofMeanWrong_L29 5000 u W n F P i (sDn F P st (i + 1)) 0 = some (u + fb_si (fun j => W j * gW F P st i j) 6) := by
  have hn := hV.1
  have hp := hV.2.2.2.1 i hi
  have hd := sDn_bd hV (i + 1) (by omega)
  have hst := hV.2.1
  have eb : f_Shop_boxIn n P i = some (P i) := by
    unfold f_Shop_boxIn
    rw [gb (has_eq hn i (by omega)), if_pos (by omega), chk_pos (by omega), Int.toNat_natCast]
  have h := lup0 (fun fuel (c : Int) j => f_Odds_ofMeanWrong_L29 fuel c W n F P i (sDn F P st (i + 1)) j) 6 (fun j c => c + W j * gW F P st i j) some (fun _ _ => True)
    (fun fuel j c hj _ => ⟨by
      have ew := wrongOf_eq hV (P i) (sDn F P st (i + 1) + j) hp (by omega)
      have hb := sWr_bd hV (b := (P i).toNat) (by omega) (sDn F P st (i + 1) + j)
      show f_Odds_ofMeanWrong_L29 (fuel + 1) c W n F P i (sDn F P st (i + 1)) j = _
      rw [f_Odds_ofMeanWrong_L29, Int.toNat_natCast, chk_pos (by omega), if_neg (by omega), chk_pos (by omega), bnd_eq eb, bnd_eq ew, chk_pos (by omega)]
      rfl, trivial⟩)
    (fun fuel c _ => by
      show f_Odds_ofMeanWrong_L29 (fuel + 1) c W n F P i (sDn F P st (i + 1)) ((6 : Nat) : Int) = _
      rw [f_Odds_ofMeanWrong_L29, chk_pos (by decide), if_pos (by decide)]) u 5000 (by omega) trivial
  refine h.1.trans ?_
  rw [itr_sum]
def uS (T : Nat → Int) : Nat → Int
  | 0 => 0
  | k + 1 => uS T k * 10 + T k
theorem uS_eq (T : Nat → Int) : ∀ k, uS T k = fb_si (fun i => 10 ^ (k - (i + 1)) * T i) k
  | 0 => rfl
  | k + 1 => by
    rw [fb_si_succ]
    show uS T k * 10 + T k = _
    rw [uS_eq T k, show k + 1 - (k + 1) = 0 by omega, Int.pow_zero, Int.one_mul, Int.mul_comm, ← fb_si_mul]
    refine congrArg (· + T k) (fb_si_cong (fun i hi => ?_))
    rw [show k + 1 - (i + 1) = (k - (i + 1)) + 1 by omega, Int.pow_succ, Int.mul_comm (10 ^ (k - (i + 1))) 10, Int.mul_assoc]
theorem uS_bd (T : Nat → Int) (n : Nat) (h : ∀ i, i < n → 0 ≤ T i ∧ T i ≤ 10 ^ (i + 1) * 108) : ∀ k, k ≤ n → 0 ≤ uS T k ∧ uS T k ≤ 10 ^ k * (108 * (k : Int))
  | 0, _ => by show (0 : Int) ≤ 0 ∧ (0 : Int) ≤ 1 * (108 * 0); omega
  | k + 1, hk => by
    obtain ⟨a, b⟩ := uS_bd T n h k (by omega)
    obtain ⟨c, d⟩ := h k (by omega)
    show 0 ≤ uS T k * 10 + T k ∧ uS T k * 10 + T k ≤ 10 ^ (k + 1) * (108 * ((k + 1 : Nat) : Int))
    have e : (10 : Int) ^ (k + 1) * (108 * ((k + 1 : Nat) : Int)) = 10 ^ k * (108 * (k : Int)) * 10 + 10 ^ (k + 1) * 108 := by
      rw [Int.pow_succ, show ((k + 1 : Nat) : Int) = (k : Int) + 1 by omega]
      generalize (10 : Int) ^ k = t
      generalize (k : Int) = z
      grind
    omega
theorem p_mean {n : Nat} {st : Int} {F P S : Nat → Int} (h : RS n st F P S) (x1 x2 : Int) (h1 : inR x1) (h2 : inR x2) (ou ol : Int) (W : Nat → Int) (a b c : Int) (N : Nat → Int) : ∃ v w1 w2, inR v ∧ f_HH_mean ou ol W n st F P x1 x2 = some (v, w1) ∧ f_M_mean a b c N S x1 x2 = some (v, w2) := by
  have hV := h.1
  have hn := hV.1
  unfold f_HH_mean f_M_mean
  rw [gb (within_eq x1 0 10 h1 (by decide) (by decide)), gb (either_eq x2 h2), chk_pos h1, gb (in_eq x1 0 10 (inL_of h1) (by decide) (by decide)), gb (mpart_eq x2 h2)]
  by_cases c1 : 0 ≤ x1 ∧ x1 ≤ 10
  · rw [if_pos c1, if_pos c1]
    by_cases c2 : x2 = 0 ∨ x2 = 1
    · rw [if_pos c2, if_pos c2]
      obtain ⟨N', ef⟩ := findOdds_eq h x1 c1 (-4) (Or.inl rfl) a b c N
      obtain ⟨W0, b1, b2⟩ := anew_eq ou ol W x1
      obtain ⟨r, e1, e2, e3⟩ := lupE (fun fuel (c : Int × Int × (Nat → Int)) i => f_Odds_ofMeanWrong_L6 fuel c.1 c.2.1 c.2.2 n st F P x1 i) n (fun i c => c.1 = uS (fun i => TT x1 (i + 1) (gW F P st i)) i ∧ c.2.1 = ((10 ^ i : Nat) : Int) ∧ WT x1 i c.2.2) (fun r => r.1 = uS (fun i => TT x1 (i + 1) (gW F P st i)) n ∧ r.2.1 = ((10 ^ n : Nat) : Int))
        (fun f i c hi hI => by
          obtain ⟨W', g1, g2⟩ := pass_eq c.1 c.2.1 c.2.2 x1 c1 i (by omega) hI.2.2
          have em := mean_in hV W' i hi (c.1 * 10)
          rw [g2.1 (gW F P st i)] at em
          refine ⟨(c.1 * 10 + TT x1 (i + 1) (gW F P st i), c.2.1 * 10, W'), ?_, by show c.1 * 10 + _ = uS _ i * 10 + _; rw [hI.1], by show c.2.1 * 10 = _; rw [hI.2.1, Nat.pow_succ]; omega, g2⟩
          show f_Odds_ofMeanWrong_L6 (f + 1) c.1 c.2.1 c.2.2 n st F P x1 i = _
          rw [f_Odds_ofMeanWrong_L6, bnd_eq (size_eq _), chk_pos (by omega), chk_pos (by omega), if_neg (by omega), bnd_eq g1, bnd_eq (doneIn_eq hV (x := i) hi), bnd_eq em])
        (fun f c hI => by
          refine ⟨(c.1, c.2.1, c.2.2), ?_, hI.1, hI.2.1⟩
          show f_Odds_ofMeanWrong_L6 (f + 1) c.1 c.2.1 c.2.2 n st F P x1 n = _
          rw [f_Odds_ofMeanWrong_L6, bnd_eq (size_eq _), chk_pos (by omega), chk_pos (by omega), if_pos (by omega)])
        n 0 (0, 1, W0) 5000 (by omega) (by omega) ⟨rfl, rfl, b2⟩
      obtain ⟨r1, r2, r3⟩ := r
      dsimp only at e2 e3
      subst e2 e3
      have e1 : f_Odds_ofMeanWrong_L6 5000 0 1 W0 n st F P x1 0 = some (uS (fun i => TT x1 (i + 1) (gW F P st i)) n, ((10 ^ n : Nat) : Int), r3) := e1
      have eW := wrong_eq hV h.2.1 x1
      rw [← uS_eq (fun i => TT x1 (i + 1) (gW F P st i)) n] at eW
      rw [eW] at ef
      obtain ⟨s1, s2⟩ := pow10 n (by omega)
      have hu : 0 ≤ uS (fun i => TT x1 (i + 1) (gW F P st i)) n ∧ uS (fun i => TT x1 (i + 1) (gW F P st i)) n < 2147483648 := by
        have hb := uS_bd (fun i => TT x1 (i + 1) (gW F P st i)) n (fun i hi => TT_bd x1 c1 108 (i + 1) (gW F P st i) (fun j => sWr_bd hV (b := (P i).toNat) (by have := hV.2.2.2.1 i hi; omega) _)) n (Nat.le_refl n)
        have hm : (10 : Int) ^ n * (108 * (n : Int)) ≤ 100000 * 540 := by
          rw [cast10]
          exact Int.mul_le_mul (by omega) (by omega) (by omega) (by decide)
        omega
      obtain ⟨u, hu2⟩ : ∃ u : Nat, uS (fun i => TT x1 (i + 1) (gW F P st i)) n = (u : Int) := ⟨(uS (fun i => TT x1 (i + 1) (gW F P st i)) n).toNat, by omega⟩
      rw [hu2] at e1 ef hu
      have hC : f_Odds_ofMeanWrong ou ol W n st F P x1 = some (((u / Nat.gcd (10 ^ n) u : Nat) : Int), ((10 ^ n / Nat.gcd (10 ^ n) u : Nat) : Int), r3) := by
        unfold f_Odds_ofMeanWrong
        rw [bnd_eq b1, bnd_eq e1, bnd_eq (reduce_eq u (10 ^ n) (by omega) (by omega) s1)]
      rw [bnd_eq hC, bnd_eq (odds_told_eq _ _ x2 h2), bnd_eq ef, bnd_eq (lowest_eq u (10 ^ n) (by omega) (by omega) s1 x2 h2)]
      refine ⟨_, _, _, ?_, rfl, rfl⟩
      have d1 := Nat.div_le_self u (Nat.gcd (10 ^ n) u)
      have d2 := Nat.div_le_self (10 ^ n) (Nat.gcd (10 ^ n) u)
      show inR (if x2 = 0 then ((u / Nat.gcd (10 ^ n) u : Nat) : Int) else ((10 ^ n / Nat.gcd (10 ^ n) u : Nat) : Int))
      generalize u / Nat.gcd (10 ^ n) u = z1 at d1
      generalize 10 ^ n / Nat.gcd (10 ^ n) u = z2 at d2
      split <;> omega
    · rw [if_neg c2, if_neg c2]
      exact ⟨-1, _, _, by decide, rfl, rfl⟩
  · rw [if_neg c1, if_neg c1]
    exact ⟨-1, _, _, by decide, rfl, rfl⟩
