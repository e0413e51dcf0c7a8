theorem ord_eq {n : Nat} (hn : n ≤ 5) (PL : Nat → Int) : ∃ Q, f_Shop_orderByNumber n PL = some Q ∧ ∀ i, i < n → Q i = (i : Int) := by
  obtain ⟨r, e1, e2⟩ := lupE (fun fuel (b : Nat → Int) i => f_Shop_orderByNumber_L2 fuel n b i) n (fun i b => ∀ j, j < i → b j = (j : Int)) (fun b => ∀ i, i < n → b i = (i : Int))
    (fun f i b hi hI => by
      refine ⟨upZ b i i, ?_, fun j hj => ?_⟩
      · show f_Shop_orderByNumber_L2 (f + 1) n b i = _
        rw [f_Shop_orderByNumber_L2, chk_pos (by omega), chk_pos (by omega), if_neg (by omega), chk_pos (by omega), Int.toNat_natCast]
      · by_cases e : j = i
        · subst e; exact upZ_same _ _ _
        · rw [upZ_ne _ _ e]; exact hI j (by omega))
    (fun f b hI => by
      refine ⟨b, ?_, hI⟩
      show f_Shop_orderByNumber_L2 (f + 1) n b n = _
      rw [f_Shop_orderByNumber_L2, chk_pos (by omega), chk_pos (by omega), if_pos (by omega)])
    n 0 PL 5000 (by omega) (by omega) (fun j hj => by omega)
  unfold f_Shop_orderByNumber
  exact ⟨r, bnd_eq e1, e2⟩
theorem pow_eq {n : Nat} (hn : n ≤ 5) (N : Nat → Int) (h30 : N 30 = (n : Int)) : f_M_findBest_L11 5000 N 1 0 = some ((5 ^ n : Nat) : Int) := by
  have h := lup0 (fun fuel (c : Int) i => f_M_findBest_L11 fuel N c i) n (fun _ c => c * 5) some (fun i c => c = ((5 ^ i : Nat) : Int))
    (fun fuel i c hi hI => ⟨by
      show f_M_findBest_L11 (fuel + 1) N c i = _
      rw [f_M_findBest_L11, h30, chk_pos (by omega), chk_pos (by omega), if_neg (by omega)], by
      rw [hI, Nat.pow_succ]; omega⟩)
    (fun fuel c _ => by
      show f_M_findBest_L11 (fuel + 1) N c n = _
      rw [f_M_findBest_L11, h30, chk_pos (by omega), chk_pos (by omega), if_pos (by omega)]) 1 5000 (by omega) rfl
  exact h.1.trans (congrArg some h.2)
theorem best_both {n : Nat} {st : Int} {F P S : Nat → Int} (h : RS n st F P S) (bP : Nat → Int) (db ds : Int) (dF dP : Nat → Int) (la lv : Int) (bR N : Nat → Int) :
    ∃ B' b1 b2 b3 b4 a' v' R' N', f_Search_bestOrder bP db ds dF dP la lv n st F P = some (B', b1, b2, b3, b4, a', v') ∧ f_M_findBest bR N S = some (v', R', N') ∧ ((0 ≤ v' ∧ v' ≤ 540) ∧ (0 ≤ a' ∧ a' ≤ 200) ∧ AB n B' R') := by
  have hC := h.cp dF dP
  have hV := hC.1
  have hn := hV.1
  have h5 := p5 hn
  obtain ⟨N', hf, hN⟩ := fetch_eq N S
  obtain ⟨Q, q1, q2⟩ := ord_eq hn (cpZ P dP 5)
  have hI := okI_all hn
  unfold okI at hI
  rw [Bool.and_eq_true, decide_eq_true_eq, List.all_eq_true] at hI
  obtain ⟨s1, s2, s3, s4⟩ := nxt_spec n (5 ^ n) 0
  have hgap : ∀ j, 0 ≤ j → j < 0 + nxt n (5 ^ n) 0 → isP n j = false := fun j h1 h2 => s3 j h1 (by omega)
  have hct : fb_ct (isP n) (nxt n (5 ^ n) 0) = 0 := by
    have := ct_gap hgap
    rw [Nat.zero_add] at this
    rw [this]; rfl
  obtain ⟨N2, m1, m2⟩ := best_skip hn h.2.2.1 bR 1000000 (by decide) (nxt n (5 ^ n) 0) 0 (5000 - nxt n (5 ^ n) 0) N' (fun j h1 _ => hN j h1) (by omega) hgap
  rw [show 5000 - nxt n (5 ^ n) 0 + nxt n (5 ^ n) 0 = 5000 by omega, Nat.zero_add] at m1
  obtain ⟨B', PL', a', v', R', N3, z1, z2, z3⟩ := best_sim hV h.2.2.1 h.2.2.2.1 hC.2.2.2.2.1 (5 ^ n) (nxt n (5 ^ n) 0) 5000 (5000 - nxt n (5 ^ n) 0) bP Q (-4) 1000000 bR N2 (by omega) hI.1 (s4 (by omega)) (fun i hi => by
    have := hI.2 i (List.mem_range.mpr hi)
    rw [decide_eq_true_eq] at this
    rw [q2 i hi]
    show (i : Int) = (dg n (nxt n (5 ^ n) 0) i : Int)
    omega) (by omega) (by omega) m2 (Or.inl ⟨rfl, rfl⟩)
  rw [hct] at z1
  have z1 : f_Search_bestOrder_L28 5000 bP n st (cpZ F dF 30) Q (-4) 1000000 1 0 = some (B', PL', a', v') := z1
  have m1 : f_M_findBest_L34 5000 bR N' ((5 ^ n : Nat) : Int) 1000000 0 = _ := m1
  refine ⟨B', (n : Int), st, cpZ F dF 30, PL', a', v', R', N3, ?_, ?_, z3⟩
  · unfold f_Search_bestOrder
    rw [bnd_eq (copy_eq _ _ _ _ _ _ _ _), bnd_eq q1, bnd_eq (seek_eq _ _ _), bnd_eq z1]
  · unfold f_M_findBest
    rw [bnd_eq hf, bnd_eq (pow_eq hn N' (by rw [hN 30 (by omega)]; exact h.2.2.1)), m1, bnd_eq z2]
theorem zwr_id {z : Int} (h : inR z) : zwr z = z := zI_toInt h
theorem zwr_out (x : Int) (hx : inR x) (h10 : x < 10) : ¬ (0 ≤ zwr (x - 10) ∧ zwr (x - 10) < 5) := by
  by_cases c : inR (x - 10)
  · rw [zwr_id c]; omega
  · have hd : ∀ k : Fin 10, ¬ (0 ≤ zwr (-2147483658 + (k.val : Int)) ∧ zwr (-2147483658 + (k.val : Int)) < 5) := by decide +kernel
    have hlow : ¬ (-2147483648 ≤ x - 10) := fun q => c (by omega)
    have := hd ⟨(x - 10 + 2147483658).toNat, by omega⟩
    dsimp only at this
    rw [show -2147483658 + (((x - 10 + 2147483658).toNat : Nat) : Int) = x - 10 by omega] at this
    exact this
theorem zwr_in (z : Int) : inR (zwr z) := inR_of _
theorem p_best {n : Nat} {st : Int} {F P S : Nat → Int} (h : RS n st F P S) (x : Int) (hx : inR x) (bP : Nat → Int) (db ds : Int) (dF dP : Nat → Int) (la lv : Int) (bR N : Nat → Int) : ∃ v w1 w2, inR v ∧ f_HH_best bP db ds dF dP la lv n st F P x = some (v, w1) ∧ f_M_best bR N S x = some (v, w2) := by
  have hn := h.1.1
  obtain ⟨B', b1, b2, b3, b4, a', v', R', N', e1, e2, e3, e4, e5⟩ := best_both h bP db ds dF dP la lv bR N
  unfold f_HH_best f_M_best
  rw [chk_pos hx, chk_pos hx]
  by_cases c0 : x = 0
  · rw [if_pos c0, if_pos c0]
    unfold f_HH_best_b28 f_M_best_b17
    rw [bnd_eq e1, bnd_eq e2, chk_pos hx, chk_pos hx, if_pos c0, if_pos c0, bnd_eq (told_eq a' v' 1 (by omega) (by decide) (by omega)), if_neg (by decide)]
    exact ⟨v', _, _, by omega, rfl, rfl⟩
  · rw [if_neg c0, if_neg c0, gb (mbox_eq h.2.2.1 hn _ (zwr_in _))]
    by_cases c1 : x < 10
    · rw [if_pos c1, if_neg (fun q => zwr_out x hx c1 (by omega))]
      exact ⟨-1, _, _, by decide, rfl, rfl⟩
    · rw [if_neg c1, zwr_id (by omega), gb (has_eq hn (x - 10) (by omega))]
      by_cases c2 : 0 ≤ x - 10 ∧ x - 10 < (n : Int)
      · rw [if_pos c2, if_pos c2]
        unfold f_HH_best_b28 f_M_best_b17 f_Search_bestBoxIn
        rw [bnd_eq e1, bnd_eq e2, chk_pos hx, chk_pos hx, if_neg c0, if_neg c0, gb (within_eq (x - 10) 0 (5 - 1) (by omega) (by decide) (by decide)), if_pos (by omega), chk_pos (by omega), chk_pos (by omega)]
        have hb := e5 (x - 10).toNat (by omega)
        refine ⟨B' (x - 10).toNat, _, (R', N'), by omega, rfl, ?_⟩
        rw [hb.1]
      · rw [if_neg c2, if_neg c2]
        exact ⟨-1, _, _, by decide, rfl, rfl⟩
