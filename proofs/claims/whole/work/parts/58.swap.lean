/-! ===== swap ===== -/
theorem swp_swp (P : Nat → Int) (i j : Nat) : swp (swp P i j) i j = P := by
  funext k
  rw [swp_at, swp_at]
  refine congrArg P ?_
  grind
theorem size_eq (n : Int) : f_Shop_size n = some n := rfl
theorem RN.swapped {n : Nat} {st : Int} {F P N : Nat → Int} (h : RN n st F P N) {i j : Nat} (hi : i < n) (hj : j < n) : RN n st F (swp P i j) (upZ (upZ N (31 + i) (P j)) (31 + j) (P i)) := by
  have hn := h.vn.2.1
  have hV := h.vn.2.cong h.es
  rw [h.e36] at hV
  have es : ES n (upZ (upZ N (31 + i) (P j)) (31 + j) (P i)) (oP (upZ (upZ N (31 + i) (P j)) (31 + j) (P i))) F (swp P i j) := ⟨fun k hk => by rw [upZ_ne _ _ (by omega), upZ_ne _ _ (by omega)]; exact h.es.1 k hk, fun k hk => by
    show upZ (upZ N (31 + i) (P j)) (31 + j) (P i) (31 + k) = upZ (upZ P i (P j)) j (P i) k
    unfold upZ
    by_cases e1 : k = j
    · rw [if_pos e1, if_pos (by omega)]
    · rw [if_neg e1, if_neg (show ¬ 31 + k = 31 + j by omega)]
      by_cases e2 : k = i
      · rw [if_pos e2, if_pos (by omega)]
      · rw [if_neg e2, if_neg (show ¬ 31 + k = 31 + i by omega)]; exact h.es.2 k hk⟩
  have e36 : upZ (upZ N (31 + i) (P j)) (31 + j) (P i) 36 = st := by rw [upZ_ne _ _ (by omega), upZ_ne _ _ (by omega)]; exact h.e36
  refine ⟨⟨by rw [upZ_ne _ _ (by omega), upZ_ne _ _ (by omega)]; exact h.vn.1, ?_⟩, es, e36⟩
  rw [e36]
  exact VS.cong (hV.swp hi hj) es.symm
/-- equal on both sides -/
def EQL (a v x y : Int) : Prop := a = y ∧ v = x ∧ (-4 ≤ a ∧ a ≤ 100) ∧ 0 ≤ v ∧ v ≤ 540
theorem EQL.step {a v x y : Int} (h : EQL a v x y) {z k : Int} (hz : 0 ≤ z ∧ z ≤ 540) (hk : 0 ≤ k ∧ k ≤ 100) : EQL (if z < v then k else a) (if z < v then z else v) (if x ≤ z then x else z) (if x ≤ z then y else k) := by
  obtain ⟨h1, h2, h3, h4⟩ := h
  by_cases c : z < v
  · rw [if_pos c, if_pos c, if_neg (by omega), if_neg (by omega)]
    exact ⟨rfl, rfl, by omega, by omega⟩
  · rw [if_neg c, if_neg c, if_pos (by omega), if_pos (by omega)]
    exact ⟨h1, h2, h3, h4⟩
theorem swap_in {n : Nat} {st : Int} {F P S : Nat → Int} (h : RS n st F P S) (i : Nat) (hi : i < n) (a v x y : Int) (N : Nat → Int) (hE : EQL a v x y) :
    ∃ a' v' x' y' N', f_Search_bestExchange_L36 5000 n st F P a v i ((i : Int) + 1) = some (P, a', v') ∧ f_M_swap_L42 5000 N S x y i ((i : Int) + 1) = some (x', y', N') ∧ EQL a' v' x' y' := by
  have hV := h.1
  have hn := hV.1
  obtain ⟨r1, r2, e1, e2, e3⟩ := lup2 (fun fuel (c : (Nat → Int) × Int × Int) j => f_Search_bestExchange_L36 fuel n st F c.1 c.2.1 c.2.2 i j) (fun fuel (c : (Nat → Int) × Int × Int) j => f_M_swap_L42 fuel c.1 S c.2.1 c.2.2 i j) n
    (fun j c d => c.1 = P ∧ EQL c.2.1 c.2.2 d.2.1 d.2.2) (fun r1 r2 => r1.1 = P ∧ EQL r1.2.1 r1.2.2 r2.1 r2.2.1)
    (fun f1 f2 j c d hlt hI => Or.inl (by
      obtain ⟨c1, c2, c3⟩ := c
      obtain ⟨hP, hL⟩ := hI
      dsimp only at hP hL
      subst hP
      obtain ⟨N', hf, hN⟩ := fetch_eq d.1 S
      have hR2 := (h.rn hN).swapped hi hlt
      have hV2 := hV.swp hi hlt
      have ha := sAll_bd hV2
      have e1 := wrongAll_eq hV2
      have e2 := hR2.all
      have x1 := exch_eq (P := c1) hn i j (by omega) (by omega)
      have x2 := exch_eq (P := swp c1 i j) hn i j (by omega) (by omega)
      rw [Int.toNat_natCast, Int.toNat_natCast] at x1 x2
      rw [swp_swp] at x2
      rw [h.2.2.2.2.2 i hi, h.2.2.2.2.2 j hlt] at e2
      generalize sAll F (swp c1 i j) st n = z at ha e1 e2
      have hb := hL
      obtain ⟨b1, b2, b3, b4⟩ := hb
      refine ⟨(c1, if z < c3 then 10 * (i : Int) + j else c2, if z < c3 then z else c3), (upZ (upZ N' (31 + i) (S (31 + j))) (31 + j) (S (31 + i)), if d.2.1 ≤ z then d.2.1 else z, if d.2.1 ≤ z then d.2.2 else 10 * (i : Int) + j), ?_, ?_, rfl, hL.step ha (by omega)⟩
      · show f_Search_bestExchange_L36 (f1 + 1) n st F c1 c2 c3 i j = _
        rw [f_Search_bestExchange_L36, bnd_eq (size_eq _), chk_pos (by omega), chk_pos (by omega), if_neg (by omega), bnd_eq x1, bnd_eq e1, bnd_eq (offer_eq _ _ _ _ (by omega) (by omega)), bnd_eq x2]
      · show f_M_swap_L42 (f2 + 1) d.1 S d.2.1 d.2.2 i j = _
        rw [f_M_swap_L42, h.2.2.1, chk_pos (by omega), chk_pos (by omega), if_neg (by omega), bnd_eq hf, show (31 + (i : Int)).toNat = 31 + i by omega, show (31 + (j : Int)).toNat = 31 + j by omega, chk_pos (by omega), chk_pos (by omega), chk_pos (by omega), chk_pos (by omega), bnd_eq e2, chk_pos (by omega), chk_pos (by omega), lesser_eq _ _ (by omega) (by omega)]
        by_cases q : d.2.1 ≤ z
        · rw [if_pos q, if_pos q, if_pos q]; rfl
        · rw [if_neg q, if_neg q, if_neg q]; rfl))
    (fun f1 f2 c d hI => by
      refine ⟨(c.1, c.2.1, c.2.2), (d.2.1, d.2.2, d.1), ?_, ?_, hI.1, hI.2⟩
      · show f_Search_bestExchange_L36 (f1 + 1) n st F c.1 c.2.1 c.2.2 i n = _
        rw [f_Search_bestExchange_L36, bnd_eq (size_eq _), chk_pos (by omega), chk_pos (by omega), if_pos (by omega)]
      · show f_M_swap_L42 (f2 + 1) d.1 S d.2.1 d.2.2 i n = _
        rw [f_M_swap_L42, h.2.2.1, chk_pos (by omega), chk_pos (by omega), if_pos (by omega)])
    (n - (i + 1)) (i + 1) (P, a, v) (N, x, y) 5000 5000 (by omega) (by omega) (by omega) ⟨rfl, hE⟩
  obtain ⟨q1, q2, q3⟩ := r1
  obtain ⟨p1, p2, p3⟩ := r2
  obtain ⟨e3, e4⟩ := e3
  dsimp only at e3 e4
  subst e3
  exact ⟨_, _, _, _, _, e1, e2, e4⟩
theorem p_swap {n : Nat} {st : Int} {F P S : Nat → Int} (h : RS n st F P S) (x : Int) (hx : inR x) (db ds : Int) (dF dP : Nat → Int) (la lv : Int) (N : Nat → Int) : ∃ v w1 w2, inR v ∧ f_HH_swap db ds dF dP la lv n st F P x = some (v, w1) ∧ f_M_swap N S x = some (v, w2) := by
  unfold f_HH_swap f_M_swap
  rw [gb (either_eq x hx), gb (mpart_eq x hx)]
  by_cases c : x = 0 ∨ x = 1
  · rw [if_pos c, if_pos c]
    obtain ⟨N', hf, hN⟩ := fetch_eq N S
    have hR0 := h.rn hN
    have hC := h.cp dF dP
    have hV := hC.1
    have hn := hV.1
    have hb0 := sAll_bd h.1
    generalize hF1 : cpZ F dF 30 = F1 at hC hV
    generalize hP1 : cpZ P dP 5 = P1 at hC hV
    obtain ⟨r1, r2, e1, e2, e3⟩ := lup2 (fun fuel (c : (Nat → Int) × Int × Int) j => f_Search_bestExchange_L21 fuel n st F1 c.1 c.2.1 c.2.2 j) (fun fuel (c : (Nat → Int) × Int × Int) j => f_M_swap_L24 fuel c.1 S c.2.1 c.2.2 j) n
      (fun j c d => c.1 = P1 ∧ EQL c.2.1 c.2.2 d.2.1 d.2.2) (fun r1 r2 => r1.1 = P1 ∧ EQL r1.2.1 r1.2.2 r2.1 r2.2.1)
      (fun f1 f2 i c d hlt hI => Or.inl (by
        obtain ⟨c1, c2, c3⟩ := c
        obtain ⟨hP, hL⟩ := hI
        dsimp only at hP hL
        subst hP
        obtain ⟨a', v', x', y', N'', k1, k2, k3⟩ := swap_in hC i hlt c2 c3 d.2.1 d.2.2 d.1 hL
        refine ⟨(c1, a', v'), (N'', x', y'), ?_, ?_, rfl, k3⟩
        · show f_Search_bestExchange_L21 (f1 + 1) n st F1 c1 c2 c3 i = _
          rw [f_Search_bestExchange_L21, bnd_eq (size_eq _), chk_pos (by omega), chk_pos (by omega), if_neg (by omega), bnd_eq k1]
        · show f_M_swap_L24 (f2 + 1) d.1 S d.2.1 d.2.2 i = _
          rw [f_M_swap_L24, h.2.2.1, chk_pos (by omega), chk_pos (by omega), if_neg (by omega), bnd_eq k2]))
      (fun f1 f2 c d hI => by
        refine ⟨(c.1, c.2.1, c.2.2), (d.2.1, d.2.2, d.1), ?_, ?_, hI.1, hI.2⟩
        · show f_Search_bestExchange_L21 (f1 + 1) n st F1 c.1 c.2.1 c.2.2 n = _
          rw [f_Search_bestExchange_L21, bnd_eq (size_eq _), chk_pos (by omega), chk_pos (by omega), if_pos (by omega)]
        · show f_M_swap_L24 (f2 + 1) d.1 S d.2.1 d.2.2 n = _
          rw [f_M_swap_L24, h.2.2.1, chk_pos (by omega), chk_pos (by omega), if_pos (by omega)])
      n 0 (P1, -4, sAll F P st n) (N', sAll F P st n, -4) 5000 5000 (by omega) (by omega) (by omega) ⟨rfl, rfl, rfl, by show (-4 : Int) ≤ -4 ∧ (-4 : Int) ≤ 100; decide, hb0⟩
    obtain ⟨q1, q2, q3⟩ := r1
    obtain ⟨p1, p2, p3⟩ := r2
    obtain ⟨e3, e4⟩ := e3
    dsimp only at e3 e4
    subst e3
    have e1 : f_Search_bestExchange_L21 5000 n st F1 q1 (-4) (sAll F P st n) 0 = some (q1, q2, q3) := e1
    have e2 : f_M_swap_L24 5000 N' S (sAll F P st n) (-4) 0 = some (p1, p2, p3) := e2
    have e5 : f_Search_bestExchange db ds dF dP la lv n st F P = some ((n : Int), st, F1, q1, q2, q3) := by
      unfold f_Search_bestExchange
      rw [bnd_eq (copy_eq _ _ _ _ _ _ _ _), bnd_eq (wrongAll_eq h.1), bnd_eq (seek_eq _ _ _), hF1, hP1, bnd_eq e1]
    obtain ⟨g1, g2, g3, g4⟩ := e4
    rw [bnd_eq e5, bnd_eq hf, bnd_eq hR0.all, bnd_eq e2]
    dsimp only
    rw [chk_pos (by omega)]
    by_cases c4 : q2 = -4
    · rw [if_pos (by omega)]
      have : f_Search_told q2 q3 x = some (-4) := by
        unfold f_Search_told f_Least_at f_Least_value
        rw [chk_pos hx, chk_pos (by omega), if_pos c4, c4]
        split <;> rfl
      rw [bnd_eq this]
      exact ⟨-4, _, _, by decide, rfl, rfl⟩
    · rw [if_neg (by omega), bnd_eq (told_eq q2 q3 x (by omega) hx c4), chk_pos hx, ← g1, ← g2]
      by_cases q : x = 0
      · rw [if_pos q, if_pos q]
        exact ⟨q2, _, _, by omega, rfl, rfl⟩
      · rw [if_neg q, if_neg q]
        exact ⟨q3, _, _, by omega, rfl, rfl⟩
  · rw [if_neg c, if_neg c]
    exact ⟨-1, _, _, by decide, rfl, rfl⟩
