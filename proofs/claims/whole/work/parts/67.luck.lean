/-! ===== luck, mean ===== -/
theorem lupE {α β : Type} (L : Nat → β → Int → Option α) (n : Nat) (I : Nat → β → Prop) (R : α → Prop)
    (hs : ∀ (f i : Nat) (b : β), i < n → I i b → ∃ c, L (f + 1) b (i : Int) = L f c ((i : Int) + 1) ∧ I (i + 1) c)
    (he : ∀ (f : Nat) (b : β), I n b → ∃ r, L (f + 1) b (n : Int) = some r ∧ R r) :
    ∀ (k i : Nat) (b : β) (f : Nat), i + k = n → k < f → I i b → ∃ r, L f b (i : Int) = some r ∧ R r := by
  intro k
  induction k with
  | zero =>
    intro i b f hi hf hI
    obtain ⟨g, rfl⟩ : ∃ g, f = g + 1 := ⟨f - 1, by omega⟩
    obtain rfl : i = n := by omega
    exact he g b hI
  | succ k ih =>
    intro i b f hi hf hI
    obtain ⟨g, rfl⟩ : ∃ g, f = g + 1 := ⟨f - 1, by omega⟩
    obtain ⟨c, e, hI'⟩ := hs g i b (by omega) hI
    rw [e]
    exact ih (i + 1) c g (by omega) (by omega) hI'
theorem pow5 {n : Nat} (hn : n ≤ 5) : 2 ^ n ≤ 32 ∧ 0 < 2 ^ n := ⟨show 2 ^ n ≤ 2 ^ 5 from Nat.pow_le_pow_right (by omega) hn, Nat.two_pow_pos n⟩
/-- what one way gives to the right sum -/
def rT (F P : Nat → Int) (st : Int) (n : Nat) (x x2 : Int) (m : Nat) : Int := if x2 = -4 then 0 else if sOwn (xF F m n) P st n x2.toNat = F (6 * x2.toNat + 2) then wgt x m n else 0
theorem odds_sum {n : Nat} {st : Int} {F P S : Nat → Int} (h : RS n st F P S) (x : Int) (hx : 0 ≤ x ∧ x ≤ 10) (x2 : Int) (hx2 : x2 = -4 ∨ (0 ≤ x2 ∧ x2 < n)) (N0 : Nat → Int) :
    ∃ N', f_M_findOdds_L48 5000 0 0 N0 S x x2 0 = some (fb_si (rT F P st n x x2) (2 ^ n), fb_si (fun m => wgt x m n * sAll (xF F m n) P st n) (2 ^ n), N') := by
  have hV := h.1
  have hn := hV.1
  obtain ⟨hp1, hp2⟩ := pow5 hn
  have hz : zshl 1 (S 30) = ((2 ^ n : Nat) : Int) := by rw [h.2.2.1]; exact zshl_nat n (by omega)
  obtain ⟨r, e1, e2, e3⟩ := lupE (fun fuel (c : Int × Int × (Nat → Int)) i => f_M_findOdds_L48 fuel c.1 c.2.1 c.2.2 S x x2 i) (2 ^ n) (fun i c => c.1 = fb_si (rT F P st n x x2) i ∧ c.2.1 = fb_si (fun m => wgt x m n * sAll (xF F m n) P st n) i) (fun r => r.1 = fb_si (rT F P st n x x2) (2 ^ n) ∧ r.2.1 = fb_si (fun m => wgt x m n * sAll (xF F m n) P st n) (2 ^ n))
    (fun f i c hi hI => by
      obtain ⟨N1, hf, hN⟩ := fetch_eq c.2.2 S
      obtain ⟨N2, g1, g2⟩ := odds_in hV h.2.1 h.2.2.1 (h.rn hN) x hx i (by omega)
      have hVx := hV.xF h.2.1 i
      have ha := sAll_bd hVx
      refine ⟨(c.1 + rT F P st n x x2 i, c.2.1 + wgt x i n * sAll (xF F i n) P st n, N2), ?_, by rw [fb_si_succ, ← hI.1], by rw [fb_si_succ, ← hI.2]⟩
      show f_M_findOdds_L48 (f + 1) c.1 c.2.1 c.2.2 S x x2 i = _
      rw [f_M_findOdds_L48, hz, chk_pos (by omega), if_neg (by omega), bnd_eq hf, bnd_eq g1, chk_pos (by omega)]
      have er : (if x2 = (-4) then some (0 : Int) else Option.bind (f_M_ownHour (wgt x i n, N2).2 x2) (fun o43 => Option.bind (f_M_of (wgt x i n, N2).2 x2 2) (fun o45 => chk (inR o43) (chk (inR o45) (if o43 = o45 then some (wgt x i n, N2).1 else some 0))))) = some (rT F P st n x x2 i) := by
        unfold rT
        by_cases c4 : x2 = -4
        · rw [if_pos c4, if_pos c4]
        · have hb : 0 ≤ x2 ∧ x2 < (n : Int) := by omega
          have ho := sOwn_bd (F := xF F i n) (P := P) (st := st) (n := n) (b := x2.toNat)
          have hw := fact_bd hV x2.toNat 2 (by omega) (by omega)
          have e2 := g2.of x2 2 hb (by decide)
          have e2 : f_M_of N2 x2 2 = some (F (6 * x2.toNat + 2)) := by rw [e2]; exact congrArg some (xF_o F i n x2.toNat 2 (by omega) (by omega))
          rw [if_neg c4, if_neg c4, bnd_eq (g2.own x2 hb), bnd_eq e2, chk_pos (by omega), chk_pos (by omega)]
          split <;> rfl
      rw [bnd_eq er, bnd_eq g2.all, chk_pos (by omega)])
    (fun f c hI => by
      refine ⟨(c.1, c.2.1, c.2.2), ?_, hI⟩
      show f_M_findOdds_L48 (f + 1) c.1 c.2.1 c.2.2 S x x2 ((2 ^ n : Nat) : Int) = _
      rw [f_M_findOdds_L48, hz, chk_pos (by omega), if_pos (by omega)])
    (2 ^ n) 0 (0, 0, N0) 5000 (by omega) (by omega) ⟨rfl, rfl⟩
  obtain ⟨r1, r2, r3⟩ := r
  dsimp only at e2 e3
  subst e2 e3
  exact ⟨r3, e1⟩
theorem allWays_eq {n : Nat} {S : Nat → Int} (h30 : S 30 = (n : Int)) (hn : n ≤ 5) : f_M_findOdds_L17 5000 1 S 0 = some ((10 ^ n : Nat) : Int) := by
  have h := lup0 (fun fuel (c : Int) i => f_M_findOdds_L17 fuel c S i) n (fun _ c => c * 10) some (fun i c => c = ((10 ^ i : Nat) : Int))
    (fun fuel i c hi hI => ⟨by
      show f_M_findOdds_L17 (fuel + 1) c S i = _
      rw [f_M_findOdds_L17, h30, chk_pos (by omega), chk_pos (by omega), if_neg (by omega)], by
      rw [hI, Nat.pow_succ]; omega⟩)
    (fun fuel c _ => by
      show f_M_findOdds_L17 (fuel + 1) c S n = _
      rw [f_M_findOdds_L17, h30, chk_pos (by omega), chk_pos (by omega), if_pos (by omega)]) 1 5000 (by omega) rfl
  exact h.1.trans (congrArg some h.2)
theorem findOdds_eq {n : Nat} {st : Int} {F P S : Nat → Int} (h : RS n st F P S) (x : Int) (hx : 0 ≤ x ∧ x ≤ 10) (x2 : Int) (hx2 : x2 = -4 ∨ (0 ≤ x2 ∧ x2 < n)) (a b c : Int) (N0 : Nat → Int) :
    ∃ N', f_M_findOdds a b c N0 S x x2 = some (fb_si (rT F P st n x x2) (2 ^ n), fb_si (fun m => wgt x m n * sAll (xF F m n) P st n) (2 ^ n), ((10 ^ n : Nat) : Int), N') := by
  obtain ⟨N', e⟩ := odds_sum h x hx x2 hx2 N0
  refine ⟨N', ?_⟩
  unfold f_M_findOdds
  rw [bnd_eq (allWays_eq h.2.2.1 h.1.1), bnd_eq e]
/-- the right sum -/
def gR (F P : Nat → Int) (st : Int) (n b : Nat) : Nat → Int := fun c => if (sDn F P st (sPl P n b + 1) + (c : Int)) % 24 = F (6 * b + 2) then 1 else 0
theorem right_eq {n : Nat} {st : Int} {F P : Nat → Int} (hV : VS n F P st) (x : Int) (b : Nat) (hb : b < n) : fb_si (rT F P st n x b) (2 ^ n) = 10 ^ (n - (sPl P n b + 1)) * TT x (sPl P n b + 1) (gR F P st n b) := by
  have hs := sPl_spec hV hb
  have h1 := VV_eq x (Qi P n (sPl P n b + 1)) n (gR F P st n b)
  rw [Qi_ct hV (by omega)] at h1
  rw [← h1]
  refine fb_si_cong (fun m _ => ?_)
  unfold rT gR
  rw [if_neg (by omega), Int.toNat_natCast]
  unfold sOwn
  rw [sDn_x hV m (by omega)]
  split
  · rw [Int.mul_one]
  · rw [Int.mul_zero]
/-- the wrong sum -/
def gW (F P : Nat → Int) (st : Int) (i : Nat) : Nat → Int := fun c => sWr F (P i).toNat (sDn F P st (i + 1) + (c : Int))
theorem wrong_eq {n : Nat} {st : Int} {F P : Nat → Int} (hV : VS n F P st) (h12 : ∀ b, b < n → F (6 * b + 1) ≤ 12) (x : Int) : fb_si (fun m => wgt x m n * sAll (xF F m n) P st n) (2 ^ n) = fb_si (fun i => 10 ^ (n - (i + 1)) * TT x (i + 1) (gW F P st i)) n := by
  have h1 : ∀ m, wgt x m n * sAll (xF F m n) P st n = fb_si (fun i => wgt x m n * gW F P st i (cq (Qi P n (i + 1)) m n)) n := fun m => by
    have hVx := hV.xF h12 m
    have e : some (sAll (xF F m n) P st n) = some (fb_si (fun i => sWr (xF F m n) (P i).toNat (sDn (xF F m n) P st (i + 1))) n) := (wrongAll_eq hVx).symm.trans (wrongOfAll_eq hVx)
    injection e with e
    rw [e, fb_si_mul]
    refine congrArg (wgt x m n * ·) (fb_si_cong (fun i hi => ?_))
    unfold gW
    rw [sDn_x hV m (by omega)]
    unfold sWr
    rw [xF_o F m n _ 3 (by omega) (by omega), xF_o F m n _ 2 (by omega) (by omega)]
  rw [fb_si_cong (fun m _ => h1 m), si_swap]
  refine fb_si_cong (fun i hi => ?_)
  have h2 := VV_eq x (Qi P n (i + 1)) n (gW F P st i)
  rw [Qi_ct hV (by omega)] at h2
  exact h2
