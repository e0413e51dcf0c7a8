/-! ===== the reference's day ===== -/
def tW (S : Nat → Int) (b k : Nat) : Int := sWin S ((k / 24 : Nat) : Int) ((k % 24 : Nat) : Int) b
def tT (S : Nat → Int) (n b k : Nat) : Int := if tW S b k = -4 then ((k % 24 : Nat) : Int) else sBy S (oP S) (S 36) n (tW S b k).toNat ((k % 24 : Nat) : Int)
theorem day_in {S : Nat → Int} {n : Nat} (hN : VN n S) {b : Nat} (hb : b < n) (R o : Nat) (hR : S (6 * b + 5) = (R : Int)) (ho : S (6 * b + 4) = (o : Int)) (last : Nat) (hlast : last = min 24 (o + (sLa S b).toNat)) :
    ∀ (k h fuel : Nat) (y t : Nat → Int), o ≤ h → h + k = last → k < fuel →
      (∀ j, j < 120 → y j = (if j / 24 = R ∧ j % 24 < h then tW S (b + 1) j else tW S b j) ∧ t j = (if j / 24 = R ∧ j % 24 < h then tT S n (b + 1) j else tT S n b j)) →
      ∃ y' t', f_M_dayGoes_L77 fuel y S t b (sOwn S (oP S) (S 36) n b) last h = some (y', t') ∧ ∀ j, j < 120 → y' j = tW S (b + 1) j ∧ t' j = tT S n (b + 1) j := by
  have hn := hN.2.1
  have hk := hN.2.2.2.1 b hb
  obtain ⟨hk0, hk1, hk2, hk3, hk4, hk5⟩ := hk
  have hl := sLa_bd S b
  have how := sOwn_bd (F := S) (P := oP S) (st := S 36) (n := n) (b := b)
  have hmin : last ≤ 24 ∧ last ≤ o + (sLa S b).toNat ∧ (last = 24 ∨ last = o + (sLa S b).toNat) := by omega
  have hstep : ∀ j, tW S (b + 1) j = if (S (6 * b + 5) = ((j / 24 : Nat) : Int) ∧ S (6 * b + 4) ≤ ((j % 24 : Nat) : Int) ∧ ((j % 24 : Nat) : Int) - S (6 * b + 4) < sLa S b) ∧ (tW S b j = -4 ∨ S (6 * (tW S b j).toNat + 4) ≤ S (6 * b + 4)) then (b : Int) else tW S b j := fun j => rfl
  intro k
  induction k with
  | zero =>
    intro h fuel y t hoh hh hf hI
    obtain ⟨f, rfl⟩ : ∃ f, fuel = f + 1 := ⟨fuel - 1, by omega⟩
    refine ⟨y, t, ?_, fun j hj => ?_⟩
    · rw [f_M_dayGoes_L77]
      simp (disch := omega) only [chk_pos, if_pos]
    · obtain ⟨h1, h2⟩ := hI j hj
      by_cases c : j / 24 = R ∧ j % 24 < h
      · rw [if_pos c] at h1 h2; exact ⟨h1, h2⟩
      · rw [if_neg c] at h1 h2
        have e : tW S (b + 1) j = tW S b j := by
          rw [hstep]; exact if_neg (fun q => by omega)
        refine ⟨by rw [h1, e], ?_⟩
        rw [h2]; unfold tT; rw [e]
  | succ k ih =>
    intro h fuel y t hoh hh hf hI
    obtain ⟨f, rfl⟩ : ∃ f, fuel = f + 1 := ⟨fuel - 1, by omega⟩
    have ek : (24 * (R : Int) + (h : Int)).toNat = 24 * R + h := by omega
    have hkk : (24 * R + h) / 24 = R ∧ (24 * R + h) % 24 = h := by omega
    obtain ⟨hy, ht⟩ := hI (24 * R + h) (by omega)
    rw [if_neg (by omega)] at hy ht
    have hwb := sWin_bd (F := S) (r := (((24 * R + h) / 24 : Nat) : Int)) (h := (((24 * R + h) % 24 : Nat) : Int)) b
    have hs1 := hstep (24 * R + h)
    rw [hkk.1, hkk.2] at hs1
    have hwb : tW S b (24 * R + h) = -4 ∨ (0 ≤ tW S b (24 * R + h) ∧ tW S b (24 * R + h) < (b : Int)) := hwb
    -- what comes when the box is set there
    have hset : (tW S b (24 * R + h) = -4 ∨ S (6 * (tW S b (24 * R + h)).toNat + 4) ≤ S (6 * b + 4)) → ∃ y' t', f_M_dayGoes_L77 f (upZ y (24 * R + h) b) S (upZ t (24 * R + h) ((sOwn S (oP S) (S 36) n b + h - o) % 24)) b (sOwn S (oP S) (S 36) n b) last (h + 1 : Int) = some (y', t') ∧ ∀ j, j < 120 → y' j = tW S (b + 1) j ∧ t' j = tT S n (b + 1) j := by
      intro hc
      rw [if_pos ⟨⟨hR, by omega, by omega⟩, hc⟩] at hs1
      refine ih (h + 1) f _ _ (by omega) (by omega) (by omega) (fun j hj => ?_)
      obtain ⟨h1, h2⟩ := hI j hj
      by_cases c : j = 24 * R + h
      · subst c
        rw [if_pos (by omega), if_pos (by omega), upZ_same, upZ_same]
        refine ⟨hs1.symm, ?_⟩
        unfold tT
        rw [hs1, if_neg (by omega), Int.toNat_natCast, hkk.2]
        unfold sBy
        rw [ho]
      · rw [upZ_ne _ _ c, upZ_ne _ _ c, h1, h2]
        have hc2 : (j / 24 = R ∧ j % 24 < h + 1) ↔ (j / 24 = R ∧ j % 24 < h) := by omega
        simp only [hc2]
        exact ⟨trivial, trivial⟩
    have hskip : ¬ (tW S b (24 * R + h) = -4 ∨ S (6 * (tW S b (24 * R + h)).toNat + 4) ≤ S (6 * b + 4)) → ∃ y' t', f_M_dayGoes_L77 f y S t b (sOwn S (oP S) (S 36) n b) last (h + 1 : Int) = some (y', t') ∧ ∀ j, j < 120 → y' j = tW S (b + 1) j ∧ t' j = tT S n (b + 1) j := by
      intro hc
      rw [if_neg (fun q => hc q.2)] at hs1
      refine ih (h + 1) f _ _ (by omega) (by omega) (by omega) (fun j hj => ?_)
      obtain ⟨h1, h2⟩ := hI j hj
      by_cases c : j = 24 * R + h
      · subst c
        rw [if_pos (by omega), if_pos (by omega), hy, ht]
        refine ⟨hs1.symm, ?_⟩
        unfold tT; rw [hs1]
      · rw [h1, h2]
        have hc2 : (j / 24 = R ∧ j % 24 < h + 1) ↔ (j / 24 = R ∧ j % 24 < h) := by omega
        simp only [hc2]
        exact ⟨trivial, trivial⟩
    rw [f_M_dayGoes_L77, bnd_eq (of5 (b : Int) (by omega)), Int.toNat_natCast, hR, ek, hy]
    have e4 := of4 (S := S) (b : Int) (by omega)
    rw [Int.toNat_natCast, ho] at e4
    rcases hwb with hw | hw
    · have hset := hset (Or.inl hw)
      rw [hw, chk_pos (by omega), chk_pos (by omega), if_neg (by omega), chk_pos (by omega), chk_pos (by decide), if_pos rfl, bnd_eq e4, chk_pos (by omega)]
      exact hset
    · have hko := (hN.2.2.2.1 (tW S b (24 * R + h)).toNat (by omega)).2.2.2.2.1
      rw [chk_pos (by omega), chk_pos (by omega), if_neg (by omega), chk_pos (by omega), chk_pos (by omega), if_neg (by omega), bnd_eq e4, bnd_eq (of4 (tW S b (24 * R + h)) (by omega)), chk_pos (by omega), chk_pos (by omega)]
      by_cases c : (o : Int) < S (6 * (tW S b (24 * R + h)).toNat + 4)
      · rw [if_pos c]
        exact hskip (fun q => by omega)
      · rw [if_neg c, bnd_eq e4, chk_pos (by omega)]
        exact hset (Or.inr (by omega))
theorem day_eq {S : Nat → Int} {n : Nat} (hN : VN n S) (y t : Nat → Int) : ∃ y' t', f_M_dayGoes y S t = some (y', t') ∧ ∀ j, j < 120 → y' j = tW S n j ∧ t' j = tT S n n j := by
  have hn := hN.2.1
  unfold f_M_dayGoes
  have h0 := lup0 (fun fuel (b : (Nat → Int) × (Nat → Int)) i => f_M_dayGoes_L2 fuel b.1 b.2 i) 120 (fun i b => (upZ b.1 i (-4), upZ b.2 i ((i : Int) % 24))) some (fun i b => ∀ j, j < i → b.1 j = -4 ∧ b.2 j = ((j % 24 : Nat) : Int))
    (fun fuel i b hi hI => ⟨by
      show f_M_dayGoes_L2 (fuel + 1) b.1 b.2 i = _
      rw [f_M_dayGoes_L2, Int.toNat_natCast]
      simp (disch := omega) only [chk_pos, if_neg], fun j hj => by
      by_cases c : j = i
      · subst c; exact ⟨upZ_same _ _ _, by show upZ b.2 j _ j = _; rw [upZ_same]; omega⟩
      · show upZ b.1 i _ j = _ ∧ upZ b.2 i _ j = _
        rw [upZ_ne _ _ c, upZ_ne _ _ c]; exact hI j (by omega)⟩)
    (fun fuel b _ => by
      show f_M_dayGoes_L2 (fuel + 1) b.1 b.2 ((120 : Nat) : Int) = _
      rw [f_M_dayGoes_L2]
      simp (disch := omega) only [chk_pos, if_pos]) (y, t) 5000 (by omega) (fun j hj => by omega)
  obtain ⟨h1, h2⟩ := h0
  generalize itr (fun i (b : (Nat → Int) × (Nat → Int)) => (upZ b.1 i (-4), upZ b.2 i ((i : Int) % 24))) 0 120 (y, t) = q at h1 h2
  have h1 : f_M_dayGoes_L2 5000 y t 0 = some q := h1
  rw [bnd_eq h1]
  have key : ∀ (k b fuel : Nat) (y t : Nat → Int), b + k = n → k < fuel → (∀ j, j < 120 → y j = tW S b j ∧ t j = tT S n b j) → ∃ y' t', f_M_dayGoes_L34 fuel y S t b = some (y', t') ∧ ∀ j, j < 120 → y' j = tW S n j ∧ t' j = tT S n n j := by
    intro k
    induction k with
    | zero =>
      intro b fuel y t hb hf hI
      obtain ⟨f, rfl⟩ : ∃ f, fuel = f + 1 := ⟨fuel - 1, by omega⟩
      obtain rfl : b = n := by omega
      refine ⟨y, t, ?_, hI⟩
      rw [f_M_dayGoes_L34, hN.1]
      simp (disch := omega) only [chk_pos, if_pos]
    | succ k ih =>
      intro b fuel y t hb hf hI
      obtain ⟨f, rfl⟩ : ∃ f, fuel = f + 1 := ⟨fuel - 1, by omega⟩
      obtain ⟨hk0, hk1, hk2, hk3, hk4, hk5⟩ := hN.2.2.2.1 b (by omega)
      have hl := sLa_bd S b
      obtain ⟨R, hR⟩ := Int.eq_ofNat_of_zero_le hk5.1
      obtain ⟨o, ho⟩ := Int.eq_ofNat_of_zero_le hk4.1
      have em : (if (o : Int) + sLa S b ≤ 24 then (o : Int) + sLa S b else 24) = ((min 24 (o + (sLa S b).toNat) : Nat) : Int) := by split <;> omega
      obtain ⟨y', t', e1, e2⟩ := day_in hN (b := b) (by omega) R o hR ho _ rfl (min 24 (o + (sLa S b).toNat) - o) o 5000 y t (by omega) (by omega) (by omega) (fun j hj => by
        rw [(hI j hj).1, (hI j hj).2]
        by_cases c : j / 24 = R ∧ j % 24 < o
        · have e : tW S (b + 1) j = tW S b j := by
            show (if (S (6 * b + 5) = ((j / 24 : Nat) : Int) ∧ S (6 * b + 4) ≤ ((j % 24 : Nat) : Int) ∧ ((j % 24 : Nat) : Int) - S (6 * b + 4) < sLa S b) ∧ (tW S b j = -4 ∨ S (6 * (tW S b j).toNat + 4) ≤ S (6 * b + 4)) then (b : Int) else tW S b j) = _
            exact if_neg (fun q => by omega)
          rw [if_pos c, if_pos c, e]
          refine ⟨rfl, ?_⟩
          unfold tT; rw [e]
        · rw [if_neg c, if_neg c]; exact ⟨rfl, rfl⟩)
      obtain ⟨y2, t2, e3, e4⟩ := ih (b + 1) f y' t' (by omega) (by omega) e2
      refine ⟨y2, t2, ?_, e4⟩
      have e5 := of4 (S := S) (b : Int) (by omega)
      have e6 := mlasts_eq (S := S) (b : Int) (by omega) (by rw [Int.toNat_natCast]; exact hk0)
      have e7 := mown_eq hN (b : Int) (by omega)
      rw [Int.toNat_natCast] at e5 e6 e7
      rw [ho] at e5
      have e8 := lesser_eq 24 ((o : Int) + sLa S b) (by decide) (by constructor <;> omega)
      rw [em] at e8
      rw [f_M_dayGoes_L34, hN.1, chk_pos (by omega), chk_pos (by omega), if_neg (by omega), bnd_eq e7, bnd_eq e5, bnd_eq e6, bnd_eq e8, bnd_eq e5, bnd_eq e1]
      exact e3
  obtain ⟨y', t', e1, e2⟩ := key n 0 5000 q.1 q.2 (by omega) (by omega) (fun j hj => by
    obtain ⟨a1, a2⟩ := h2 j hj
    rw [a1, a2]
    exact ⟨rfl, rfl⟩)
  exact ⟨y', t', bnd_eq e1, e2⟩
