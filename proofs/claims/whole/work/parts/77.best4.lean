def AB (n : Nat) (B R : Nat → Int) : Prop := ∀ i, i < n → B i = R i ∧ 0 ≤ B i ∧ B i ≤ 4
theorem ct_gap {p : Nat → Bool} {a d : Nat} (h : ∀ j, a ≤ j → j < a + d → p j = false) : fb_ct p (a + d) = fb_ct p a := by
  rw [fb_ct_split, fb_ct_zero.mpr (fun k hk => h (a + k) (by omega) (by omega)), Nat.add_zero]
theorem best_one {n : Nat} {st : Int} {F PP S : Nat → Int} (hV : VS n F PP st) (h30 : S 30 = (n : Int)) (h36 : S 36 = st) (hFS : ∀ k, k < 6 * n → F k = S k) (c g h : Nat) (B PL : Nat → Int) (a v : Int) (R N : Nat → Int) (hc : c < 5 ^ n) (hp : isP n c = true) (hPL : AG n PL (dgF n c)) (hk : fb_ct (isP n) c < 120) (hN : BN N S)
    (hL : (v = 1000000 ∧ a = -4) ∨ ((0 ≤ v ∧ v ≤ 540) ∧ (0 ≤ a ∧ a ≤ 200) ∧ AB n B R)) {r : Int} {PL1 : Nat → Int} (hnx : f_Shop_nextOrder n PL = some (r, PL1)) :
    ∃ B1 a1 v1 R1 N1, f_Search_bestOrder_L28 (g + 1) B n st F PL a v 1 (fb_ct (isP n) c : Nat) = f_Search_bestOrder_L28 g B1 n st F PL1 a1 v1 r ((fb_ct (isP n) c : Int) + 1) ∧ f_M_findBest_L34 (h + 1) R N ((5 ^ n : Nat) : Int) v c = f_M_findBest_L34 h R1 N1 ((5 ^ n : Nat) : Int) v1 ((c + 1 : Nat) : Int) ∧ BN N1 S ∧ ((0 ≤ v1 ∧ v1 ≤ 540) ∧ (0 ≤ a1 ∧ a1 ≤ 200) ∧ AB n B1 R1) := by
  have hn := hV.1
  have h5 := (p5 hn).1
  obtain ⟨o1, o2⟩ := okA_at hn hc hp
  have hVc := okP_vs o1 hV
  have hVP : VS n F PL st := hVc.cong ⟨fun _ _ => rfl, fun i hi => (hPL i hi).symm⟩
  obtain ⟨N1, e1, e2, e3⟩ := isOrder_eq hn N (by rw [hN 30 (by omega) (by omega)]; exact h30) c (by omega)
  rw [hp, if_pos rfl] at e1
  have hN1 : BN N1 S := fun j h1 h2 => by rw [e3 j (by omega)]; exact hN j h1 h2
  have es : ES n N1 (oP N1) F PL := ⟨fun k hk2 => by rw [hN1 k (by omega) (by omega), hFS k hk2], fun i hi => by show N1 (31 + i) = _; rw [e2 i hi, hPL i hi]⟩
  have e36 : N1 36 = st := by rw [hN1 36 (by omega) (by omega)]; exact h36
  have e30 : N1 30 = (n : Int) := by rw [hN1 30 (by omega) (by omega)]; exact h30
  have hR1 : RN n st F PL N1 := ⟨⟨e30, by rw [e36]; exact hVP.cong es.symm⟩, es, e36⟩
  have ez := wrongAll_eq hVP
  have em := hR1.all
  have hz := sAll_bd hVP
  generalize sAll F PL st n = z at ez em hz
  have hv : 0 ≤ v ∧ v ≤ 1000000 := by rcases hL with q | q <;> omega
  have hoP : AG n (oP N1) PL := es.2
  by_cases q : z < v
  · obtain ⟨B1, b1, b2⟩ := hold_eq hn B PL
    obtain ⟨R1, r1, r2⟩ := bestRow_eq hn R N1 e30
    refine ⟨B1, (fb_ct (isP n) c : Int), z, R1, N1, ?_, ?_, hN1, hz, by omega, fun i hi => ⟨by rw [b2 i hi, r2 i hi]; exact (hoP i hi).symm, by rw [b2 i hi]; have := hVP.2.2.2.1 i hi; omega⟩⟩
    · have eb : (if (1 : Int) = 0 then some B else Option.bind (f_Search_holdPlaces B n PL) (fun o24 => some o24)) = some B1 := by
        rw [if_neg (by decide), bnd_eq b1]
      rw [f_Search_bestOrder_L28, chk_pos (by omega), if_neg (by omega), chk_pos (by decide), if_neg (by decide), bnd_eq ez, offer_eq _ _ _ _ (by omega) (by omega), if_pos q, if_pos q, if_pos q, Option.bind_some, chk_pos (by show inR 1; decide), bnd_eq eb, bnd_eq hnx]
    · have eb : (if (1 : Int) = 0 then some (1000000 : Int) else Option.bind (f_M_allWrong N1) (fun o32 => some o32)) = some z := by
        rw [if_neg (by decide), bnd_eq em]
      rw [f_M_findBest_L34, chk_pos (by omega), chk_pos (by omega), if_neg (by omega), bnd_eq e1, chk_pos (by show inR 1; decide), bnd_eq eb, chk_pos (by omega), chk_pos (by omega), if_neg (by omega), bnd_eq r1]
      rfl
  · have hL2 : (0 ≤ v ∧ v ≤ 540) ∧ (0 ≤ a ∧ a ≤ 200) ∧ AB n B R := by
      rcases hL with q2 | q2
      · omega
      · exact q2
    refine ⟨B, a, v, R, N1, ?_, ?_, hN1, hL2⟩
    · have eb : (if (0 : Int) = 0 then some B else Option.bind (f_Search_holdPlaces B n PL) (fun o24 => some o24)) = some B := if_pos rfl
      rw [f_Search_bestOrder_L28, chk_pos (by omega), if_neg (by omega), chk_pos (by decide), if_neg (by decide), bnd_eq ez, offer_eq _ _ _ _ (by omega) (by omega), if_neg q, if_neg q, if_neg q, Option.bind_some, chk_pos (by show inR 0; decide), bnd_eq eb, bnd_eq hnx]
    · have eb : (if (1 : Int) = 0 then some (1000000 : Int) else Option.bind (f_M_allWrong N1) (fun o32 => some o32)) = some z := by
        rw [if_neg (by decide), bnd_eq em]
      rw [f_M_findBest_L34, chk_pos (by omega), chk_pos (by omega), if_neg (by omega), bnd_eq e1, chk_pos (by show inR 1; decide), bnd_eq eb, chk_pos (by omega), chk_pos (by omega), if_pos (by omega)]
      rfl
theorem best_sim {n : Nat} {st : Int} {F PP S : Nat → Int} (hV : VS n F PP st) (h30 : S 30 = (n : Int)) (h36 : S 36 = st) (hFS : ∀ k, k < 6 * n → F k = S k) :
    ∀ (d c fC fM : Nat) (B PL : Nat → Int) (a v : Int) (R N : Nat → Int), 5 ^ n - c ≤ d → c < 5 ^ n → isP n c = true → AG n PL (dgF n c) → fC + fb_ct (isP n) c = 5000 → fM + c = 5000 → BN N S → ((v = 1000000 ∧ a = -4) ∨ ((0 ≤ v ∧ v ≤ 540) ∧ (0 ≤ a ∧ a ≤ 200) ∧ AB n B R)) →
      ∃ B' PL' a' v' R' N', f_Search_bestOrder_L28 fC B n st F PL a v 1 (fb_ct (isP n) c : Nat) = some (B', PL', a', v') ∧ f_M_findBest_L34 fM R N ((5 ^ n : Nat) : Int) v c = some (v', R', N') ∧ ((0 ≤ v' ∧ v' ≤ 540) ∧ (0 ≤ a' ∧ a' ≤ 200) ∧ AB n B' R') := by
  have hn := hV.1
  have h5 := (p5 hn).1
  have hA := okA_all hn
  unfold okA at hA
  rw [Bool.and_eq_true, decide_eq_true_eq] at hA
  intro d
  induction d with
  | zero => intro c fC fM B PL a v R N hd hc; omega
  | succ d ih =>
    intro c fC fM B PL a v R N hd hc hp hPL hfC hfM hN hL
    have hk : fb_ct (isP n) c < 120 := by
      have h1 := fb_ct_mono (isP n) (show c + 1 ≤ 5 ^ n by omega)
      rw [fb_ct_succ, hp, if_pos rfl] at h1
      omega
    have hk1 : fb_ct (isP n) (c + 1) = fb_ct (isP n) c + 1 := by rw [fb_ct_succ, hp, if_pos rfl]
    obtain ⟨g, rfl⟩ : ∃ g, fC = g + 1 := ⟨fC - 1, by omega⟩
    obtain ⟨h, rfl⟩ : ∃ g, fM = g + 1 := ⟨fM - 1, by omega⟩
    obtain ⟨s1, s2, s3, s4⟩ := nxt_spec n (5 ^ n) (c + 1)
    rcases okN_next (okA_at hn hc hp).2 with ⟨Q, q1, q2, q3⟩ | ⟨Q, q1, q2⟩
    · obtain ⟨PL1, p1, p2⟩ := nNext hn hPL q1
      obtain ⟨B1, a1, v1, R1, N1, k1, k2, k3, k4⟩ := best_one hV h30 h36 hFS c g h B PL a v R N hc hp hPL hk hN hL p1
      have hgap : ∀ j, c + 1 ≤ j → j < c + 1 + (nxt n (5 ^ n) (c + 1) - (c + 1)) → isP n j = false := fun j h1 h2 => s3 j h1 (by omega)
      obtain ⟨N2, m1, m2⟩ := best_skip hn h30 R1 v1 (by omega) (nxt n (5 ^ n) (c + 1) - (c + 1)) (c + 1) (h - (nxt n (5 ^ n) (c + 1) - (c + 1))) N1 k3 (by omega) hgap
      rw [show h - (nxt n (5 ^ n) (c + 1) - (c + 1)) + (nxt n (5 ^ n) (c + 1) - (c + 1)) = h by omega, show c + 1 + (nxt n (5 ^ n) (c + 1) - (c + 1)) = nxt n (5 ^ n) (c + 1) by omega] at m1
      have hct : fb_ct (isP n) (nxt n (5 ^ n) (c + 1)) = fb_ct (isP n) c + 1 := by
        have := ct_gap hgap
        rw [show c + 1 + (nxt n (5 ^ n) (c + 1) - (c + 1)) = nxt n (5 ^ n) (c + 1) by omega] at this
        rw [this, hk1]
      obtain ⟨B', PL', a', v', R', N', z1, z2, z3⟩ := ih (nxt n (5 ^ n) (c + 1)) g (h - (nxt n (5 ^ n) (c + 1) - (c + 1))) B1 PL1 a1 v1 R1 N2 (by omega) q2 (s4 (by omega)) (fun i hi => by rw [p2 i hi, q3 i hi]) (by omega) (by omega) m2 (Or.inr k4)
      refine ⟨B', PL', a', v', R', N', ?_, ?_, z3⟩
      · rw [k1, show (fb_ct (isP n) c : Int) + 1 = ((fb_ct (isP n) (nxt n (5 ^ n) (c + 1)) : Nat) : Int) by rw [hct]; omega]
        exact z1
      · rw [k2, m1]; exact z2
    · obtain ⟨PL1, p1, p2⟩ := nNext hn hPL q1
      obtain ⟨B1, a1, v1, R1, N1, k1, k2, k3, k4⟩ := best_one hV h30 h36 hFS c g h B PL a v R N hc hp hPL hk hN hL p1
      obtain ⟨N2, m1, m2⟩ := best_skip hn h30 R1 v1 (by omega) (5 ^ n - (c + 1)) (c + 1) (h - (5 ^ n - (c + 1))) N1 k3 (by omega) (fun j h1 h2 => s3 j h1 (by omega))
      rw [show h - (5 ^ n - (c + 1)) + (5 ^ n - (c + 1)) = h by omega, show c + 1 + (5 ^ n - (c + 1)) = 5 ^ n by omega] at m1
      refine ⟨B1, PL1, a1, v1, R1, N2, ?_, ?_, k4⟩
      · obtain ⟨g2, rfl⟩ : ∃ q, g = q + 1 := ⟨g - 1, by omega⟩
        rw [k1, f_Search_bestOrder_L28, chk_pos (by omega), chk_pos (by decide), if_pos (show (0 : Int) = 0 from rfl)]
        split <;> rfl
      · obtain ⟨h2, hh2⟩ : ∃ q, h - (5 ^ n - (c + 1)) = q + 1 := ⟨h - (5 ^ n - (c + 1)) - 1, by omega⟩
        rw [k2, m1, hh2, f_M_findBest_L34, chk_pos (by omega), chk_pos (by omega), if_pos (Int.le_refl _)]
