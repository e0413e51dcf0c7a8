/-! ===== sew, clock, room, rule ===== -/
theorem sew_ok {n : Nat} {st : Int} {F P S : Nat → Int} (h : RS n st F P S) (h5 : n < 5) (x1 x2 x3 : Int) (h1 : inB 0 x1) (h2 : inB 1 x2) (h3 : inB 2 x3) (F' P' S' : Nat → Int)
    (eF : F' = upZ (upZ (upZ (upZ (upZ (upZ F (6 * n) x1) (6 * n + 1) x2) (6 * n + 2) x3) (6 * n + 3) 1) (6 * n + 4) 8) (6 * n + 5) 0)
    (eP : P' = upZ P n n)
    (eS : S' = upZ (upZ (upZ (upZ (upZ (upZ (upZ (upZ S (6 * n) x1) (6 * n + 1) x2) (6 * n + 2) x3) (6 * n + 3) 1) (6 * n + 4) 8) (6 * n + 5) 0) (31 + n) n) 30 (n + 1)) :
    RS (n + 1) st F' P' S' ∧ ∀ k, 37 ≤ k → S' k = S k := by
  have hV := h.1
  have b1 : (0 : Int) ≤ x1 ∧ x1 ≤ 3 := h1.2
  have b2 : (1 : Int) ≤ x2 ∧ x2 ≤ 12 := h2.2
  have b3 : (0 : Int) ≤ x3 ∧ x3 ≤ 23 := h3.2
  have f0 : F' (6 * n) = x1 := by subst eF; simp [upZ]
  have f1 : F' (6 * n + 1) = x2 := by subst eF; simp [upZ]
  have f2 : F' (6 * n + 2) = x3 := by subst eF; simp [upZ]
  have f3 : F' (6 * n + 3) = 1 := by subst eF; simp [upZ]
  have f4 : F' (6 * n + 4) = 8 := by subst eF; simp [upZ]
  have f5 : F' (6 * n + 5) = 0 := by subst eF; simp [upZ]
  have fo : ∀ k, k < 6 * n → F' k = F k := fun k hk => by
    subst eF
    rw [upZ_ne _ _ (by omega), upZ_ne _ _ (by omega), upZ_ne _ _ (by omega), upZ_ne _ _ (by omega), upZ_ne _ _ (by omega), upZ_ne _ _ (by omega)]
  have s0 : S' (6 * n) = x1 := by
    subst eS
    rw [upZ_ne _ _ (by omega), upZ_ne _ _ (by omega), upZ_ne _ _ (by omega), upZ_ne _ _ (by omega), upZ_ne _ _ (by omega), upZ_ne _ _ (by omega), upZ_ne _ _ (by omega), upZ_same]
  have s1 : S' (6 * n + 1) = x2 := by
    subst eS
    rw [upZ_ne _ _ (by omega), upZ_ne _ _ (by omega), upZ_ne _ _ (by omega), upZ_ne _ _ (by omega), upZ_ne _ _ (by omega), upZ_ne _ _ (by omega), upZ_same]
  have s2 : S' (6 * n + 2) = x3 := by
    subst eS
    rw [upZ_ne _ _ (by omega), upZ_ne _ _ (by omega), upZ_ne _ _ (by omega), upZ_ne _ _ (by omega), upZ_ne _ _ (by omega), upZ_same]
  have s3 : S' (6 * n + 3) = 1 := by
    subst eS
    rw [upZ_ne _ _ (by omega), upZ_ne _ _ (by omega), upZ_ne _ _ (by omega), upZ_ne _ _ (by omega), upZ_same]
  have s4 : S' (6 * n + 4) = 8 := by
    subst eS
    rw [upZ_ne _ _ (by omega), upZ_ne _ _ (by omega), upZ_ne _ _ (by omega), upZ_same]
  have s5 : S' (6 * n + 5) = 0 := by
    subst eS
    rw [upZ_ne _ _ (by omega), upZ_ne _ _ (by omega), upZ_same]
  have s6 : S' (31 + n) = n := by
    subst eS
    rw [upZ_ne _ _ (by omega), upZ_same]
  have s7 : S' 30 = ((n + 1 : Nat) : Int) := by
    subst eS
    rw [upZ_same]; omega
  have so : ∀ k, k ≠ 30 → k ≠ 31 + n → (k < 6 * n ∨ 6 * n + 5 < k) → S' k = S k := fun k hk1 hk2 hk => by
    subst eS
    rw [upZ_ne _ _ (by omega), upZ_ne _ _ (by omega), upZ_ne _ _ (by omega), upZ_ne _ _ (by omega), upZ_ne _ _ (by omega), upZ_ne _ _ (by omega), upZ_ne _ _ (by omega), upZ_ne _ _ (by omega)]
  have pn : P' n = n := by subst eP; exact upZ_same _ _ _
  have po : ∀ i, i < n → P' i = P i := fun i hi => by subst eP; exact upZ_ne _ _ (by omega)
  clear eF eP eS
  refine ⟨⟨⟨by omega, hV.2.1, fun b hb => ?_, fun i hi => ?_, fun i j hi hj e => ?_⟩, fun b hb => ?_, s7, ?_, fun k hk => ?_, fun i hi => ?_⟩, fun k hk => so k (by omega) (by omega) (by omega)⟩
  · by_cases e : b = n
    · subst e; unfold VK; omega
    · have hk := hV.2.2.1 b (by omega)
      unfold VK at hk ⊢
      rw [fo _ (by omega), fo _ (by omega), fo _ (by omega), fo _ (by omega), fo _ (by omega), fo _ (by omega)]
      exact hk
  · by_cases e : i = n
    · subst e; omega
    · rw [po i (by omega)]; have := hV.2.2.2.1 i (by omega); omega
  · by_cases e1 : i = n <;> by_cases e2 : j = n
    · omega
    · subst e1; rw [pn, po j (by omega)] at e; have := hV.2.2.2.1 j (by omega); omega
    · subst e2; rw [pn, po i (by omega)] at e; have := hV.2.2.2.1 i (by omega); omega
    · rw [po i (by omega), po j (by omega)] at e; exact hV.2.2.2.2 i j (by omega) (by omega) e
  · by_cases e : b = n
    · subst e; omega
    · rw [fo _ (by omega)]; exact h.2.1 b (by omega)
  · rw [so 36 (by omega) (by omega) (by omega)]; exact h.2.2.2.1
  · by_cases e : k < 6 * n
    · rw [fo k e, so k (by omega) (by omega) (by omega)]; exact h.2.2.2.2.1 k e
    · rcases (show k = 6 * n ∨ k = 6 * n + 1 ∨ k = 6 * n + 2 ∨ k = 6 * n + 3 ∨ k = 6 * n + 4 ∨ k = 6 * n + 5 by omega) with rfl | rfl | rfl | rfl | rfl | rfl
      · rw [f0, s0]
      · rw [f1, s1]
      · rw [f2, s2]
      · rw [f3, s3]
      · rw [f4, s4]
      · rw [f5, s5]
  · by_cases e : i = n
    · subst e; rw [pn, s6]
    · rw [po i (by omega), so _ (by omega) (by omega) (by omega)]; exact h.2.2.2.2.2 i (by omega)
theorem isFull_eq {n : Nat} (hn : n ≤ 5) : f_Shop_isFull n = some (if 5 ≤ (n : Int) then 1 else 0) := by
  unfold f_Shop_isFull chk
  grind
theorem refusal_eq {n : Nat} (hn : n ≤ 5) (x1 x2 x3 : Int) (h1 : inR x1) (h2 : inR x2) (h3 : inR x3) : f_Shop_refusal n x1 x2 x3 = some (if inB 0 x1 ∧ inB 1 x2 ∧ inB 2 x3 then (if n = 5 then -3 else 0) else -1) := by
  unfold f_Shop_refusal
  rw [gb (fits_eq 0 x1 (by decide) h1), gb (fits_eq 1 x2 (by decide) h2), gb (fits_eq 2 x3 (by decide) h3), gb (isFull_eq hn)]
  by_cases c1 : inB 0 x1
  · rw [if_pos c1]
    by_cases c2 : inB 1 x2
    · rw [if_pos c2]
      by_cases c3 : inB 2 x3
      · rw [if_pos c3, if_pos (show inB 0 x1 ∧ inB 1 x2 ∧ inB 2 x3 from ⟨c1, c2, c3⟩)]
        by_cases c4 : n = 5
        · rw [if_pos (by omega), if_pos c4]
        · rw [if_neg (by omega), if_neg c4]
      · rw [if_neg c3, if_neg (fun q : inB 0 x1 ∧ inB 1 x2 ∧ inB 2 x3 => c3 q.2.2)]
    · rw [if_neg c2, if_neg (fun q : inB 0 x1 ∧ inB 1 x2 ∧ inB 2 x3 => c2 q.2.1)]
  · rw [if_neg c1, if_neg (fun q : inB 0 x1 ∧ inB 1 x2 ∧ inB 2 x3 => c1 q.1)]
theorem addPlain_eq {n : Nat} {F P : Nat → Int} (hn : n < 5) (x1 x2 x3 : Int) : f_Shop_addPlain n F P x1 x2 x3 = some ((n : Int), ((n + 1 : Nat) : Int), upZ (upZ (upZ (upZ (upZ (upZ F (6 * n) x1) (6 * n + 1) x2) (6 * n + 2) x3) (6 * n + 3) 1) (6 * n + 4) 8) (6 * n + 5) 0, upZ P n n) := by
  have e : ∀ (F : Nat → Int) (w v : Int), 0 ≤ w ∧ w ≤ 5 → f_Shop_setFact ((n : Int) + 1) F n w v = some (upZ F (6 * n + w.toNat) v) := fun F w v hw => by
    have := setFact_eq (n := n + 1) (F := F) (by omega) n w v (by omega) hw
    rw [Int.toNat_natCast] at this
    exact this
  unfold f_Shop_addPlain
  rw [gb (isFull_eq (by omega)), if_neg (by omega), chk_pos (by omega), bnd_eq (e _ _ _ (by decide)), bnd_eq (e _ _ _ (by decide)), bnd_eq (e _ _ _ (by decide)), bnd_eq (e _ _ _ (by decide)), bnd_eq (e _ _ _ (by decide)), bnd_eq (e _ _ _ (by decide)), Int.toNat_natCast]
  rfl
theorem p_sew {n : Nat} {st : Int} {F P S : Nat → Int} (h : RS n st F P S) (x1 x2 x3 : Int) (h1 : inR x1) (h2 : inR x2) (h3 : inR x3) : ∃ (v : Int) (n' : Nat) (F' P' S' : Nat → Int), inR v ∧ f_HH_sew n F P x1 x2 x3 = some (v, (n' : Int), F', P') ∧ f_M_sew S x1 x2 x3 = some (v, S') ∧ RS n' st F' P' S' ∧ ∀ k, 37 ≤ k → S' k = S k := by
  have hn := h.1.1
  have hS := h.2.2.1
  unfold f_HH_sew f_M_sew
  rw [bnd_eq (refusal_eq hn x1 x2 x3 h1 h2 h3), gb (canBe_eq 0 x1 (by decide) h1), gb (canBe_eq 1 x2 (by decide) h2), gb (canBe_eq 2 x3 (by decide) h3)]
  by_cases c1 : inB 0 x1
  · rw [if_pos c1]
    by_cases c2 : inB 1 x2
    · rw [if_pos c2]
      by_cases c3 : inB 2 x3
      · rw [if_pos c3, if_pos ⟨c1, c2, c3⟩, hS, chk_pos (show inR (n : Int) by omega)]
        by_cases c4 : n = 5
        · rw [if_pos c4, chk_pos (show inR (-3) by decide), if_neg (show ¬ (-3 : Int) = 0 by decide), if_pos (show (n : Int) = 5 by omega)]
          exact ⟨-3, n, F, P, S, by decide, rfl, rfl, h, fun _ _ => rfl⟩
        · rw [if_neg c4, chk_pos (show inR 0 by decide), if_pos (show (0 : Int) = 0 from rfl), if_neg (show ¬ (n : Int) = 5 by omega), bnd_eq (addPlain_eq (by omega) x1 x2 x3), show (6 * (n : Int) + 0).toNat = 6 * n by omega, show (6 * (n : Int) + 1).toNat = 6 * n + 1 by omega, show (6 * (n : Int) + 2).toNat = 6 * n + 2 by omega, show (6 * (n : Int) + 3).toNat = 6 * n + 3 by omega, show (6 * (n : Int) + 4).toNat = 6 * n + 4 by omega, show (6 * (n : Int) + 5).toNat = 6 * n + 5 by omega]
          have e6 : upZ (upZ (upZ (upZ (upZ (upZ S (6 * n) x1) (6 * n + 1) x2) (6 * n + 2) x3) (6 * n + 3) 1) (6 * n + 4) 8) (6 * n + 5) 0 30 = (n : Int) := by
            rw [upZ_ne _ _ (by omega), upZ_ne _ _ (by omega), upZ_ne _ _ (by omega), upZ_ne _ _ (by omega), upZ_ne _ _ (by omega), upZ_ne _ _ (by omega)]; exact hS
          rw [e6, show (31 + (n : Int)).toNat = 31 + n by omega]
          have e7 : upZ (upZ (upZ (upZ (upZ (upZ (upZ S (6 * n) x1) (6 * n + 1) x2) (6 * n + 2) x3) (6 * n + 3) 1) (6 * n + 4) 8) (6 * n + 5) 0) (31 + n) n 30 = (n : Int) := by
            rw [upZ_ne _ _ (by omega)]; exact e6
          rw [e7, upZ_same, chk_pos (by omega), chk_pos (by omega), chk_pos (by omega), chk_pos (by omega), chk_pos (by omega), chk_pos (by omega), chk_pos (by omega)]
          have hk := sew_ok h (by omega) x1 x2 x3 c1 c2 c3 _ _ _ rfl rfl rfl
          exact ⟨(n : Int) + 1, n + 1, _, _, _, by omega, rfl, rfl, hk.1, hk.2⟩
      · rw [if_neg c3, if_neg (fun q => c3 q.2.2), chk_pos (by decide), if_neg (by decide)]
        exact ⟨-1, n, F, P, S, by decide, rfl, rfl, h, fun _ _ => rfl⟩
    · rw [if_neg c2, if_neg (fun q => c2 q.2.1), chk_pos (by decide), if_neg (by decide)]
      exact ⟨-1, n, F, P, S, by decide, rfl, rfl, h, fun _ _ => rfl⟩
  · rw [if_neg c1, if_neg (fun q => c1 q.1), chk_pos (by decide), if_neg (by decide)]
    exact ⟨-1, n, F, P, S, by decide, rfl, rfl, h, fun _ _ => rfl⟩
theorem p_clock {n : Nat} {st : Int} {F P S : Nat → Int} (h : RS n st F P S) (x1 x2 x3 : Int) (h1 : inR x1) (h2 : inR x2) (h3 : inR x3) (y N t : Nat → Int) : ∃ v w, inR v ∧ f_HH_clock n st F P x1 x2 x3 = some v ∧ f_M_clock y N S t x1 x2 x3 = some (v, w) := by
  have hV := h.1
  have hn := hV.1
  unfold f_HH_clock f_M_clock
  rw [gb (room_eq x1 h1), gb (hour_eq x2 h2), gb (either_eq x3 h3), gb (mroom_eq x1 h1), gb (mhour_eq x2 h2), gb (mpart_eq x3 h3)]
  by_cases c1 : 0 ≤ x1 ∧ x1 ≤ 4
  · rw [if_pos c1, if_pos c1]
    by_cases c2 : 0 ≤ x2 ∧ x2 ≤ 23
    · rw [if_pos c2, if_pos c2]
      by_cases c3 : x3 = 0 ∨ x3 = 1
      · rw [if_pos c3, if_pos c3]
        obtain ⟨y', N', t', hl, hD⟩ := h.look y N t
        rw [bnd_eq hl, chk_pos (by omega), chk_pos (by omega), chk_pos (by omega), chk_pos (by omega), show (24 * x1 + x2).toNat = 24 * x1.toNat + x2.toNat by omega]
        have e1 := hD.wy x1.toNat x2.toNat (by omega) (by omega)
        have e2 := hD.wt x1.toNat x2.toNat (by omega) (by omega)
        rw [Int.toNat_of_nonneg c1.1, Int.toNat_of_nonneg c2.1] at e1 e2
        by_cases c4 : x3 = 0
        · rw [if_pos c4, if_pos c4, bnd_eq (oclock_eq hV x1 x2 h1 c2)]
          have hb := sTold_bd (F := F) (P := P) (st := st) (n := n) x1 x2 c2
          exact ⟨_, (y', N', t'), by omega, rfl, congrArg (fun z => some (z, y', N', t')) e2⟩
        · rw [if_neg c4, if_neg c4, bnd_eq (boxAt_eq hV x1 x2 h1 c2)]
          have hb := sWin_bd (F := F) (r := x1) (h := x2) n
          exact ⟨_, (y', N', t'), by omega, rfl, congrArg (fun z => some (z, y', N', t')) e1⟩
      · rw [if_neg c3, if_neg c3]
        exact ⟨-1, _, by decide, rfl, rfl⟩
    · rw [if_neg c2, if_neg c2]
      exact ⟨-1, _, by decide, rfl, rfl⟩
  · rw [if_neg c1, if_neg c1]
    exact ⟨-1, _, by decide, rfl, rfl⟩
theorem p_room {n : Nat} {st : Int} {F P S : Nat → Int} (h : RS n st F P S) (x1 x2 : Int) (h1 : inR x1) (h2 : inR x2) (y N t : Nat → Int) : ∃ v w, inR v ∧ f_HH_room n st F P x1 x2 = some v ∧ f_M_room y N S t x1 x2 = some (v, w) := by
  have hV := h.1
  have hn := hV.1
  unfold f_HH_room f_M_room
  rw [gb (room_eq x1 h1), gb (either_eq x2 h2), gb (mroom_eq x1 h1), gb (mpart_eq x2 h2)]
  by_cases c1 : 0 ≤ x1 ∧ x1 ≤ 4
  · rw [if_pos c1, if_pos c1]
    by_cases c3 : x2 = 0 ∨ x2 = 1
    · rw [if_pos c3, if_pos c3]
      obtain ⟨y', N', t', hl, hD⟩ := h.look y N t
      rw [bnd_eq hl, chk_pos (by omega), chk_pos (by omega)]
      by_cases c4 : x2 = 0
      · rw [if_pos c4, if_pos c4, bnd_eq (yawnsIn_eq hV x1 h1)]
        have e := hD.yawnsOf x1.toNat (by omega)
        rw [Int.toNat_of_nonneg c1.1] at e
        have hb := sYin_bd F P st n x1
        refine ⟨_, _, ?_, rfl, bnd_eq e⟩
        omega
      · rw [if_neg c4, if_neg c4, bnd_eq (strangeIn_eq hV x1 h1)]
        have e := hD.otherwise x1.toNat (by omega)
        rw [Int.toNat_of_nonneg c1.1] at e
        refine ⟨_, _, sMask_in _ _, rfl, bnd_eq e⟩
    · rw [if_neg c3, if_neg c3]
      exact ⟨-1, _, by decide, rfl, rfl⟩
  · rw [if_neg c1, if_neg c1]
    exact ⟨-1, _, by decide, rfl, rfl⟩
