/-! ===== keep, back, count ===== -/
/-- a part of the reference's row -/
def shf (a : Nat) (S : Nat → Int) : Nat → Int := fun j => S (a + j)
theorem copies_eq (S : Nat → Int) (a b : Nat) (hab : (a = 0 ∧ b ≤ 112 ∧ 56 ≤ b) ∨ (b = 0 ∧ a ≤ 112 ∧ 56 ≤ a)) : ∃ S', f_M_copies S a b = some S' ∧ (∀ j, j < 56 → S' (a + j) = S (b + j)) ∧ ∀ j, (j < a ∨ a + 56 ≤ j) → S' j = S j := by
  have h := lup0 (fun fuel (c : Nat → Int) i => f_M_copies_L2 fuel c a b i) 56 (fun i c => upZ c (a + i) (c (b + i))) some (fun i c => (∀ j, j < i → c (a + j) = S (b + j)) ∧ ∀ j, (j < a ∨ a + i ≤ j) → c j = S j)
    (fun fuel i c hi hI => ⟨by
      show f_M_copies_L2 (fuel + 1) c a b i = _
      rw [f_M_copies_L2, chk_pos (by omega), if_neg (by omega), chk_pos (by omega), chk_pos (by omega), show ((a : Int) + i).toNat = a + i by omega, show ((b : Int) + i).toNat = b + i by omega], fun j hj => by
      show upZ c _ _ _ = _
      by_cases e : j = i
      · subst e
        rw [upZ_same]
        exact hI.2 _ (by omega)
      · rw [upZ_ne _ _ (by omega)]; exact hI.1 j (by omega), fun j hj => by
      show upZ c _ _ _ = _
      rw [upZ_ne _ _ (by omega)]; exact hI.2 j (by omega)⟩)
    (fun fuel c _ => by
      show f_M_copies_L2 (fuel + 1) c a b ((56 : Nat) : Int) = _
      rw [f_M_copies_L2, chk_pos (by decide), if_pos (by decide)]) S 5000 (by omega) ⟨fun j hj => by omega, fun j _ => rfl⟩
  unfold f_M_copies
  exact ⟨_, bnd_eq h.1, h.2.1, h.2.2⟩
theorem RQ.cp {k : Nat} {H O R S : Nat → Int} (h : RQ k H O R S) (H' O' R' : Nat → Int) : RQ k (cpZ H H' 6) (cpZ O O' 6) (cpZ R R' 6) S :=
  ⟨h.1, h.2.1, fun i hi => by
    have hk := h.1
    have e : ∀ A B : Nat → Int, cpZ A B 6 i = A i := fun A B => if_pos (by omega)
    rw [e, e, e]; exact h.2.2 i hi⟩
/-- an image: what it holds if it is there -/
def RI (th : Int) (u : Int) (H O R : Nat → Int) (b st : Int) (F P T : Nat → Int) : Prop := th = 0 ∨ (th = 1 ∧ ∃ n k : Nat, b = (n : Int) ∧ u = (k : Int) ∧ RS n st F P T ∧ RQ k H O R T)
theorem RI.bd {th u b st : Int} {H O R F P T : Nat → Int} (h : RI th u H O R b st F P T) : th = 0 ∨ th = 1 := by
  rcases h with h | h
  · exact Or.inl h
  · exact Or.inr h.1
theorem RI.cong {th u b st : Int} {H O R F P T T' : Nat → Int} (h : RI th u H O R b st F P T) (e : ∀ j, j < 56 → T' j = T j) : RI th u H O R b st F P T' := by
  rcases h with h | ⟨h, n, k, h1, h2, h3, h4⟩
  · exact Or.inl h
  · exact Or.inr ⟨h, n, k, h1, h2, h3.congS (fun j hj => e j (by omega)), h4.congS (fun j _ hj => e j hj)⟩
theorem there_eq (x : Int) (h : x = 0 ∨ x = 1) : f_Image_isThere x = some x := by
  unfold f_Image_isThere
  rw [chk_pos h]
theorem if01 (t : Int) (h : t = 0 ∨ t = 1) : (if t = 0 then some (0 : Int) else some 1) = some t := by
  rcases h with h | h <;> rw [h] <;> rfl
theorem p_keep {n : Nat} {st : Int} {F P S : Nat → Int} (h : RS n st F P S) {k : Nat} {H O R : Nat → Int} (hQ : RQ k H O R S)
    {t0 u0 b0 s0 : Int} {H0 O0 R0 F0 P0 : Nat → Int} (hI0 : RI t0 u0 H0 O0 R0 b0 s0 F0 P0 (shf 56 S)) {t1 u1 b1 s1 : Int} {H1 O1 R1 F1 P1 : Nat → Int} (hI1 : RI t1 u1 H1 O1 R1 b1 s1 F1 P1 (shf 112 S)) {K : Nat → Int} (hK0 : K 0 = t0) (hK1 : K 1 = t1) (x : Int) (hx : inR x) :
    ∃ v t0' u0' H0' O0' R0' b0' s0' F0' P0' t1' u1' H1' O1' R1' b1' s1' F1' P1' K' S', inR v ∧
      f_HH_keep t0 u0 H0 O0 R0 b0 s0 F0 P0 t1 u1 H1 O1 R1 b1 s1 F1 P1 k H O R n st F P x = some (v, t0', u0', H0', O0', R0', b0', s0', F0', P0', t1', u1', H1', O1', R1', b1', s1', F1', P1') ∧
      f_M_keep K S x = some (v, K', S') ∧ RI t0' u0' H0' O0' R0' b0' s0' F0' P0' (shf 56 S') ∧ RI t1' u1' H1' O1' R1' b1' s1' F1' P1' (shf 112 S') ∧ K' 0 = t0' ∧ K' 1 = t1' ∧ ∀ j, j < 56 → S' j = S j := by
  unfold f_HH_keep f_M_keep
  rw [gb (either_eq x hx), chk_pos hx, gb (in_eq x 0 1 (inL_of hx) (by decide) (by decide))]
  have take : ∀ (t u : Int) (H' O' R' : Nat → Int) (b s : Int) (F' P' : Nat → Int), f_Image_take t u H' O' R' b s F' P' n st F P k H O R = some (1, (k : Int), cpZ H H' 6, cpZ O O' 6, cpZ R R' 6, (n : Int), st, cpZ F F' 30, cpZ P P' 5) := fun _ _ _ _ _ _ _ _ _ => rfl
  by_cases c : x = 0 ∨ x = 1
  · rw [if_pos c, if_pos (show 0 ≤ x ∧ x ≤ 1 by omega), chk_pos (by omega), chk_pos (by omega)]
    rcases c with c | c
    · subst c
      obtain ⟨S', e1, e2, e3⟩ := copies_eq S 56 0 (by omega)
      have e1 : f_M_copies S (56 * (0 + 1)) 0 = some S' := e1
      rw [if_pos rfl, bnd_eq (there_eq t0 hI0.bd), chk_pos (by have := hI0.bd; omega), bnd_eq (if01 t0 hI0.bd), if_pos rfl, bnd_eq (take t0 u0 H0 O0 R0 b0 s0 F0 P0), show (0 : Int).toNat = 0 from rfl, hK0, bnd_eq (flag_eq t0 hI0.bd), bnd_eq e1]
      refine ⟨t0, 1, k, cpZ H H0 6, cpZ O O0 6, cpZ R R0 6, n, st, cpZ F F0 30, cpZ P P0 5, t1, u1, H1, O1, R1, b1, s1, F1, P1, upZ K 0 1, S', by have := hI0.bd; omega, rfl, rfl, ?_, ?_, upZ_same _ _ _, ?_, fun j hj => e3 j (by omega)⟩
      · refine Or.inr ⟨rfl, n, k, rfl, rfl, (h.cp F0 P0).congS (fun j hj => ?_), (hQ.cp H0 O0 R0).congS (fun j _ hj => ?_)⟩
        · show S' (56 + j) = S j
          rw [e2 j (by omega), Nat.zero_add]
        · show S' (56 + j) = S j
          rw [e2 j (by omega), Nat.zero_add]
      · exact hI1.cong (fun j hj => by show S' (112 + j) = S (112 + j); exact e3 _ (by omega))
      · rw [upZ_ne _ _ (by omega)]; exact hK1
    · subst c
      obtain ⟨S', e1, e2, e3⟩ := copies_eq S 112 0 (by omega)
      have e1 : f_M_copies S (56 * (1 + 1)) 0 = some S' := e1
      rw [if_neg (by decide), bnd_eq (there_eq t1 hI1.bd), chk_pos (by have := hI1.bd; omega), bnd_eq (if01 t1 hI1.bd), if_neg (show ¬ (1 : Int) = 0 by decide), bnd_eq (take t1 u1 H1 O1 R1 b1 s1 F1 P1), show (1 : Int).toNat = 1 from rfl, hK1, bnd_eq (flag_eq t1 hI1.bd), bnd_eq e1]
      refine ⟨t1, t0, u0, H0, O0, R0, b0, s0, F0, P0, 1, k, cpZ H H1 6, cpZ O O1 6, cpZ R R1 6, n, st, cpZ F F1 30, cpZ P P1 5, upZ K 1 1, S', by have := hI1.bd; omega, rfl, rfl, ?_, ?_, ?_, upZ_same _ _ _, fun j hj => e3 j (by omega)⟩
      · exact hI0.cong (fun j hj => by show S' (56 + j) = S (56 + j); exact e3 _ (by omega))
      · refine Or.inr ⟨rfl, n, k, rfl, rfl, (h.cp F1 P1).congS (fun j hj => ?_), (hQ.cp H1 O1 R1).congS (fun j _ hj => ?_)⟩
        · show S' (112 + j) = S j
          rw [e2 j (by omega), Nat.zero_add]
        · show S' (112 + j) = S j
          rw [e2 j (by omega), Nat.zero_add]
      · rw [upZ_ne _ _ (by omega)]; exact hK0
  · rw [if_neg c, if_neg (show ¬ (0 ≤ x ∧ x ≤ 1) by omega)]
    exact ⟨-1, t0, u0, H0, O0, R0, b0, s0, F0, P0, t1, u1, H1, O1, R1, b1, s1, F1, P1, K, S, by decide, rfl, rfl, hI0, hI1, hK0, hK1, fun _ _ => rfl⟩
theorem give_eq (u : Int) (H O R : Nat → Int) (b s : Int) (F P : Nat → Int) (b' s' : Int) (F' P' : Nat → Int) (u' : Int) (H' O' R' : Nat → Int) : f_Image_giveBack u H O R b s F P b' s' F' P' u' H' O' R' = some (b, s, cpZ F F' 30, cpZ P P' 5, u, cpZ H H' 6, cpZ O O' 6, cpZ R R' 6) := rfl
theorem startHour_eq (s : Int) : f_Shop_startHour s = some s := rfl
theorem p_back {n : Nat} {st : Int} {F P S : Nat → Int} (h : RS n st F P S) {k : Nat} {H O R : Nat → Int} (hQ : RQ k H O R S)
    {t0 u0 b0 s0 : Int} {H0 O0 R0 F0 P0 : Nat → Int} (hI0 : RI t0 u0 H0 O0 R0 b0 s0 F0 P0 (shf 56 S)) {t1 u1 b1 s1 : Int} {H1 O1 R1 F1 P1 : Nat → Int} (hI1 : RI t1 u1 H1 O1 R1 b1 s1 F1 P1 (shf 112 S)) {K : Nat → Int} (hK0 : K 0 = t0) (hK1 : K 1 = t1) (x : Int) (hx : inR x) :
    ∃ (v : Int) (k' : Nat) (H' O' R' : Nat → Int) (n' : Nat) (st' : Int) (F' P' S' : Nat → Int), inR v ∧
      f_HH_back t0 u0 H0 O0 R0 b0 s0 F0 P0 t1 u1 H1 O1 R1 b1 s1 F1 P1 k H O R n st F P x = some (v, (k' : Int), H', O', R', (n' : Int), st', F', P') ∧
      f_M_back K S x = some (v, S') ∧ RS n' st' F' P' S' ∧ RQ k' H' O' R' S' ∧ ∀ j, 56 ≤ j → S' j = S j := by
  unfold f_HH_back f_M_back
  rw [gb (either_eq x hx), chk_pos hx, gb (in_eq x 0 1 (inL_of hx) (by decide) (by decide))]
  by_cases c : x = 0 ∨ x = 1
  · rw [if_pos c, if_pos (show 0 ≤ x ∧ x ≤ 1 by omega), chk_pos (by omega), chk_pos (by omega)]
    rcases c with c | c
    · subst c
      obtain ⟨S', e1, e2, e3⟩ := copies_eq S 0 56 (by omega)
      have e1 : f_M_copies S 0 (56 * (0 + 1)) = some S' := e1
      rw [if_pos rfl, bnd_eq (there_eq t0 hI0.bd), show (0 : Int).toNat = 0 from rfl, hK0, chk_pos (by have := hI0.bd; omega), chk_pos (by have := hI0.bd; omega)]
      rcases hI0 with q | ⟨q, n0, k0, q1, q2, q3, q4⟩
      · rw [if_pos q, if_pos q]
        exact ⟨-2, k, H, O, R, n, st, F, P, S, by decide, rfl, rfl, h, hQ, fun _ _ => rfl⟩
      · subst q1 q2
        have hs := q3.1.2.1
        have e4 : S' 36 = s0 := by
          have := e2 36 (by omega)
          rw [Nat.zero_add] at this
          rw [this]; exact q3.2.2.2.1
        rw [if_neg (show ¬ t0 = 0 by omega), if_neg (show ¬ t0 = 0 by omega), if_pos rfl, bnd_eq (give_eq _ _ _ _ _ _ _ _ _ _ _ _ _ _ _ _), bnd_eq (startHour_eq _), bnd_eq e1, e4]
        refine ⟨s0, k0, _, _, _, n0, s0, _, _, S', by omega, rfl, rfl, (q3.cp F P).congS (fun j hj => ?_), (q4.cp H O R).congS (fun j _ hj => ?_), fun j hj => e3 j (by omega)⟩
        · have := e2 j (by omega)
          rw [Nat.zero_add] at this
          exact this
        · have := e2 j (by omega)
          rw [Nat.zero_add] at this
          exact this
    · subst c
      obtain ⟨S', e1, e2, e3⟩ := copies_eq S 0 112 (by omega)
      have e1 : f_M_copies S 0 (56 * (1 + 1)) = some S' := e1
      rw [if_neg (by decide), bnd_eq (there_eq t1 hI1.bd), show (1 : Int).toNat = 1 from rfl, hK1, chk_pos (by have := hI1.bd; omega), chk_pos (by have := hI1.bd; omega)]
      rcases hI1 with q | ⟨q, n0, k0, q1, q2, q3, q4⟩
      · rw [if_pos q, if_pos q]
        exact ⟨-2, k, H, O, R, n, st, F, P, S, by decide, rfl, rfl, h, hQ, fun _ _ => rfl⟩
      · subst q1 q2
        have hs := q3.1.2.1
        have e4 : S' 36 = s1 := by
          have := e2 36 (by omega)
          rw [Nat.zero_add] at this
          rw [this]; exact q3.2.2.2.1
        rw [if_neg (show ¬ t1 = 0 by omega), if_neg (show ¬ t1 = 0 by omega), if_neg (by decide), bnd_eq (give_eq _ _ _ _ _ _ _ _ _ _ _ _ _ _ _ _), bnd_eq (startHour_eq _), bnd_eq e1, e4]
        refine ⟨s1, k0, _, _, _, n0, s1, _, _, S', by omega, rfl, rfl, (q3.cp F P).congS (fun j hj => ?_), (q4.cp H O R).congS (fun j _ hj => ?_), fun j hj => e3 j (by omega)⟩
        · have := e2 j (by omega)
          rw [Nat.zero_add] at this
          exact this
        · have := e2 j (by omega)
          rw [Nat.zero_add] at this
          exact this
  · rw [if_neg c, if_neg (show ¬ (0 ≤ x ∧ x ≤ 1) by omega)]
    exact ⟨-1, k, H, O, R, n, st, F, P, S, by decide, rfl, rfl, h, hQ, fun _ _ => rfl⟩
theorem images_eq (t0 t1 : Int) (h0 : t0 = 0 ∨ t0 = 1) (h1 : t1 = 0 ∨ t1 = 1) : f_HH_imagesThere t0 t1 = some (t0 + t1) := by
  rcases h0 with h0 | h0 <;> rcases h1 with h1 | h1 <;> subst h0 <;> subst h1 <;> rfl
theorem p_count {n : Nat} {st : Int} {F P S : Nat → Int} (h : RS n st F P S) {k : Nat} {H O R : Nat → Int} (hQ : RQ k H O R S) {t0 t1 : Int} (h0 : t0 = 0 ∨ t0 = 1) (h1 : t1 = 0 ∨ t1 = 1) {K : Nat → Int} (hK0 : K 0 = t0) (hK1 : K 1 = t1)
    {C L Z C' L' Z' : Nat → Int} (hH : RH C L Z C' L' Z') {tp : Nat} {B T : Nat → Int} (hT : RT tp B T) (x : Int) (hx : inR x) (N : Nat → Int) :
    ∃ v w, inR v ∧ f_HH_count t0 t1 k Z n F tp x = some v ∧ f_M_count tp K L' N Z' S x = some (v, w) := by
  have hn := h.1.1
  have hk := hQ.1
  have ht := hT.1
  obtain ⟨N', hf, hN⟩ := fetch_eq N S
  have hR := h.rn hN
  unfold f_HH_count f_M_count
  rw [bnd_eq hf, chk_pos hx, chk_pos hx]
  by_cases c0 : x = 0
  · rw [if_pos c0, if_pos c0, hQ.2.1]
    exact ⟨k, _, by omega, rfl, rfl⟩
  rw [if_neg c0, if_neg c0]
  by_cases c1 : x = 1
  · rw [if_pos c1, if_pos c1, bnd_eq (images_eq t0 t1 h0 h1), hK0, hK1, bnd_eq (flag_eq t0 h0), bnd_eq (flag_eq t1 h1)]
    exact ⟨t0 + t1, _, by omega, rfl, rfl⟩
  rw [if_neg c1, if_neg c1]
  by_cases c2 : x = 2
  · rw [if_pos c2, if_pos c2]
    exact ⟨tp, _, by omega, rfl, rfl⟩
  rw [if_neg c2, if_neg c2]
  by_cases c3 : x = 3
  · have e := sizeOf_eq (Z := Z) 0 (by omega)
    have e : f_Sheets_sizeOf Z 0 = some (Z 0) := e
    rw [if_pos c3, if_pos c3, bnd_eq e]
    rcases hH 0 (by omega) with ⟨q1, q2⟩ | ⟨q1, q2, q3, q4, q5⟩
    · rw [q1, q2, chk_pos (by decide), if_pos rfl]
      exact ⟨-4, _, by decide, rfl, rfl⟩
    · rw [q2, q3, chk_pos (by omega), if_neg (by omega)]
      exact ⟨Z 0, _, by omega, rfl, rfl⟩
  rw [if_neg c3, if_neg c3]
  by_cases c4 : x = 4
  · rw [if_pos c4, if_pos c4, bnd_eq (sumOf_eq hn 3 (by decide)), bnd_eq (hR.allOf 3 (by decide))]
    have hb := si_nn (f := fun b => F (6 * b + (3 : Int).toNat)) (c := 9) (n := n) (fun j hj => by
      have := (h.1.2.2.1 j hj).2.2.2.1
      show 0 ≤ F (6 * j + 3) ∧ F (6 * j + 3) ≤ 9
      omega)
    refine ⟨_, _, ?_, rfl, rfl⟩
    omega
  rw [if_neg c4, if_neg c4]
  exact ⟨-1, _, by decide, rfl, rfl⟩
