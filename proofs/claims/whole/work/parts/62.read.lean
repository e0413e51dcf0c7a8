/-! ===== read ===== -/
theorem cmpZ_lt (a b : Int) : cmpZ a b < 0 ↔ a < b := by
  unfold cmpZ
  by_cases c : b < a
  · rw [if_pos c]; omega
  · rw [if_neg c]
    by_cases d : a = b
    · rw [if_pos d]; omega
    · rw [if_neg d]; omega
theorem three_eq {C L Z C' L' Z' : Nat → Int} (h : RH C L Z C' L' Z') (s : Nat) (hs : s < 4) (lane x3 : Int) (i : Nat) (hi : i < 13) (hl : inR lane) (h3 : inR x3) (he : inR (x3 + 3 * i)) :
    ∃ g : Int, (0 ≤ g ∧ g ≤ 3) ∧ f_Sheets_faultOfThree L Z s lane (x3 + 3 * i) = some g ∧ f_M_read_L77 5000 L' Z' s lane x3 0 i 0 = some g ∧ (g = 0 → (0 ≤ Z s ∧ Z s ≤ 40) ∧ 0 ≤ x3 + 3 * i ∧ x3 + 3 * i + 2 < Z s) := by
  have hz : Z s = -4 ∨ (0 ≤ Z s ∧ Z s ≤ 40) := by
    rcases h s hs with q | q
    · exact Or.inl q.1
    · exact Or.inr q.1
  -- one step of each
  have A : ∀ (f : Nat) (j : Nat), j < 3 → inR (x3 + 3 * i + j) → f_Sheets_faultOfThree_L6 (f + 1) L Z s lane (x3 + 3 * i) 0 j = f_Sheets_faultOfThree_L6 f L Z s lane (x3 + 3 * i) (flt L Z s lane (x3 + 3 * i + j)) ((j : Int) + 1) := fun f j hj hr => by
    rw [f_Sheets_faultOfThree_L6, chk_pos (by omega), if_neg (by omega), chk_pos (by decide), if_pos rfl, bnd_eq (faultAt_eq h s hs lane _ (Or.inl hl) hr)]
  have A2 : ∀ (f : Nat) (g : Int) (j : Nat), j ≤ 3 → (0 ≤ g ∧ g ≤ 3) → (¬ g = 0 ∨ j = 3) → f_Sheets_faultOfThree_L6 (f + 1) L Z s lane (x3 + 3 * i) g j = some g := fun f g j hj hg hc => by
    rw [f_Sheets_faultOfThree_L6, chk_pos (by omega)]
    by_cases q : (3 : Int) ≤ j
    · rw [if_pos q]
    · rw [if_neg q, chk_pos (by omega), if_neg (by omega)]
  have B : ∀ (f : Nat) (j : Nat), j < 3 → f_M_read_L77 (f + 1) L' Z' s lane x3 0 i j = f_M_read_L77 f L' Z' s lane x3 (flt L Z s lane (x3 + 3 * i + j)) i ((j : Int) + 1) := fun f j hj => by
    rw [f_M_read_L77, Int.toNat_natCast, chk_pos (by omega), if_neg (by omega), chk_pos (by decide), if_pos rfl, chk_pos h3, chk_pos (by omega), chk_pos (by omega)]
    unfold flt
    rcases h s hs with ⟨q1, q2⟩ | ⟨q1, q2, q3, q4, q5⟩
    · rw [q2, chk_pos (by decide), if_pos rfl, if_pos q1]
    · rw [q3, q2, chk_pos (by omega), if_neg (show ¬ L s = -4 by omega), if_neg (show ¬ Z s = -4 by omega), chk_pos hl]
      by_cases c : L s = lane
      · rw [if_pos c, if_pos c, chk_pos (by constructor <;> omega)]
        by_cases d : x3 + 3 * (i : Int) + j < 0
        · rw [if_pos ((cmpZ_lt _ _).mpr d), if_neg (by omega)]
        · rw [if_neg (fun q => d ((cmpZ_lt _ _).mp q)), chk_pos (by omega)]
          by_cases e : x3 + 3 * (i : Int) + j < Z s
          · rw [if_pos ((cmpZ_lt _ _).mpr e), if_pos (show 0 ≤ x3 + 3 * (i : Int) + j ∧ x3 + 3 * (i : Int) + j < Z s by omega)]
          · rw [if_neg (fun q => e ((cmpZ_lt _ _).mp q)), if_neg (by omega)]
      · rw [if_neg c, if_neg c]
  have B2 : ∀ (f : Nat) (g : Int) (j : Nat), j ≤ 3 → (0 ≤ g ∧ g ≤ 3) → (¬ g = 0 ∨ j = 3) → f_M_read_L77 (f + 1) L' Z' s lane x3 g i j = some g := fun f g j hj hg hc => by
    rw [f_M_read_L77, chk_pos (by omega)]
    by_cases q : (3 : Int) ≤ j
    · rw [if_pos q]
    · rw [if_neg q, chk_pos (by omega), if_neg (by omega)]
  have hg : ∀ e : Int, flt L Z s lane e = 0 → (0 ≤ Z s ∧ Z s ≤ 40) ∧ 0 ≤ e ∧ e < Z s := fun e q => by
    unfold flt at q
    by_cases c1 : Z s = -4
    · rw [if_pos c1] at q; omega
    · rw [if_neg c1] at q
      by_cases c2 : L s = lane
      · rw [if_pos c2] at q
        by_cases c3 : 0 ≤ e ∧ e < Z s
        · exact ⟨by omega, c3⟩
        · rw [if_neg c3] at q; omega
      · rw [if_neg c2] at q; omega
  have a0 := A 4999 0 (by omega) (by omega)
  have b0 := B 4999 0 (by omega)
  have r0 := flt_bd L Z s lane (x3 + 3 * i + ((0 : Nat) : Int))
  unfold f_Sheets_faultOfThree
  by_cases z0 : flt L Z s lane (x3 + 3 * i + ((0 : Nat) : Int)) = 0
  · have y0 := hg _ z0
    have a1 := A 4998 1 (by omega) (by omega)
    have b1 := B 4998 1 (by omega)
    rw [z0] at a0 b0
    by_cases z1 : flt L Z s lane (x3 + 3 * i + ((1 : Nat) : Int)) = 0
    · have y1 := hg _ z1
      have a2 := A 4997 2 (by omega) (by omega)
      have b2 := B 4997 2 (by omega)
      rw [z1] at a1 b1
      have r2 := flt_bd L Z s lane (x3 + 3 * i + ((2 : Nat) : Int))
      refine ⟨_, r2, bnd_eq (a0.trans (a1.trans (a2.trans (A2 4996 _ 3 (by omega) r2 (Or.inr rfl))))), b0.trans (b1.trans (b2.trans (B2 4996 _ 3 (by omega) r2 (Or.inr rfl)))), fun q => ?_⟩
      have y2 := hg _ q
      omega
    · have r1 := flt_bd L Z s lane (x3 + 3 * i + ((1 : Nat) : Int))
      exact ⟨_, r1, bnd_eq (a0.trans (a1.trans (A2 4997 _ 2 (by omega) r1 (Or.inl z1)))), b0.trans (b1.trans (B2 4997 _ 2 (by omega) r1 (Or.inl z1))), fun q => absurd q z1⟩
  · exact ⟨_, r0, bnd_eq (a0.trans (A2 4998 _ 1 (by omega) r0 (Or.inl z0))), b0.trans (B2 4998 _ 1 (by omega) r0 (Or.inl z0)), fun q => absurd q z0⟩
theorem copy56 (B S : Nat → Int) : ∃ B', f_M_read_L26 5000 B S 0 = some B' ∧ ∀ j, j < 56 → B' j = S j := by
  have h := lup0 (fun fuel (b : Nat → Int) i => f_M_read_L26 fuel b S i) 56 (fun i b => upZ b i (S i)) some (fun i b => ∀ j, j < i → b j = S j)
    (fun fuel i b hi hI => ⟨by
      show f_M_read_L26 (fuel + 1) b S i = _
      rw [f_M_read_L26, Int.toNat_natCast]
      simp (disch := omega) only [chk_pos, if_neg], fun j hj => by
      by_cases c : j = i
      · subst c; exact upZ_same _ _ _
      · show upZ b i _ j = _
        rw [upZ_ne _ _ c]; exact hI j (by omega)⟩)
    (fun fuel b _ => by
      show f_M_read_L26 (fuel + 1) b S ((56 : Nat) : Int) = _
      rw [f_M_read_L26, chk_pos (by decide), if_pos (by decide)]) B 5000 (by omega) (fun j hj => by omega)
  exact ⟨_, h.1, h.2⟩
theorem back56 (B S : Nat → Int) : ∃ S', f_M_read_L217 5000 B S 0 = some S' ∧ (∀ j, j < 56 → S' j = B j) ∧ ∀ j, 56 ≤ j → S' j = S j := by
  have h := lup0 (fun fuel (b : Nat → Int) i => f_M_read_L217 fuel B b i) 56 (fun i b => upZ b i (B i)) some (fun i b => (∀ j, j < i → b j = B j) ∧ ∀ j, 56 ≤ j → b j = S j)
    (fun fuel i b hi hI => ⟨by
      show f_M_read_L217 (fuel + 1) B b i = _
      rw [f_M_read_L217, Int.toNat_natCast]
      simp (disch := omega) only [chk_pos, if_neg], fun j hj => by
      by_cases c : j = i
      · subst c; exact upZ_same _ _ _
      · show upZ b i _ j = _
        rw [upZ_ne _ _ c]; exact hI.1 j (by omega), fun j hj => by
      show upZ b i _ j = _
      rw [upZ_ne _ _ (by omega)]; exact hI.2 j hj⟩)
    (fun fuel b _ => by
      show f_M_read_L217 (fuel + 1) B b ((56 : Nat) : Int) = _
      rw [f_M_read_L217, chk_pos (by decide), if_pos (by decide)]) S 5000 (by omega) ⟨fun j hj => by omega, fun j _ => rfl⟩
  exact ⟨_, h.1, h.2⟩
theorem cellAt_eq {C Z : Nat → Int} (s c : Nat) (hs : s < 4) (hz : 0 ≤ Z s ∧ Z s ≤ 40) (hc : (c : Int) < Z s) : f_Sheets_cellAt C Z s c = some (C (40 * s + c)) := by
  unfold f_Sheets_cellAt
  rw [gb (hasCell_eq s hs (by omega) c (by omega)), if_pos (by omega), chk_pos (by omega), show ((s : Int) * 40 + c).toNat = 40 * s + c by omega]
/-- both sides sew the same three -/
theorem sew_both {n : Nat} {st : Int} {F P S : Nat → Int} (h : RS n st F P S) (a b c : Int) (ha : inR a) (hb : inR b) (hc : inR c) :
    (∃ (F' P' S' : Nat → Int), f_Shop_refusal n a b c = some 0 ∧ f_Shop_addPlain n F P a b c = some ((n : Int), ((n + 1 : Nat) : Int), F', P') ∧ f_M_sew S a b c = some ((n : Int) + 1, S') ∧ RS (n + 1) st F' P' S' ∧ ∀ k, 37 ≤ k → S' k = S k)
    ∨ (∃ r : Int, (r = -1 ∨ r = -3) ∧ f_Shop_refusal n a b c = some r ∧ f_M_sew S a b c = some (r, S)) := by
  have hn := h.1.1
  obtain ⟨v, n', F', P', S', hv, k1, k2, k3, k4⟩ := p_sew h a b c ha hb hc
  have hr := refusal_eq hn a b c ha hb hc
  unfold f_HH_sew at k1
  by_cases c1 : inB 0 a ∧ inB 1 b ∧ inB 2 c
  · rw [if_pos c1] at hr
    by_cases c5 : n = 5
    · rw [if_pos c5] at hr
      refine Or.inr ⟨-3, Or.inr rfl, hr, ?_⟩
      unfold f_M_sew
      rw [gb (canBe_eq 0 a (by decide) ha), gb (canBe_eq 1 b (by decide) hb), gb (canBe_eq 2 c (by decide) hc), if_pos c1.1, if_pos c1.2.1, if_pos c1.2.2, h.2.2.1, chk_pos (by omega), if_pos (by omega)]
    · rw [if_neg c5] at hr
      have ea := addPlain_eq (n := n) (F := F) (P := P) (by omega) a b c
      rw [bnd_eq hr, chk_pos (by decide), if_pos rfl, bnd_eq ea] at k1
      have k1 : some (((n + 1 : Nat) : Int), ((n + 1 : Nat) : Int), _, _) = some (v, (n' : Int), F', P') := k1
      injection k1 with k1
      injection k1 with e1 k1
      injection k1 with e2 k1
      injection k1 with e3 e4
      have e5 : n' = n + 1 := by omega
      subst e5
      refine Or.inl ⟨F', P', S', hr, ?_, ?_, k3, k4⟩
      · rw [ea, ← e3, ← e4]
      · rw [k2, ← e1]; rfl
  · rw [if_neg c1] at hr
    refine Or.inr ⟨-1, Or.inl rfl, hr, ?_⟩
    unfold f_M_sew
    rw [gb (canBe_eq 0 a (by decide) ha), gb (canBe_eq 1 b (by decide) hb), gb (canBe_eq 2 c (by decide) hc)]
    by_cases d1 : inB 0 a
    · rw [if_pos d1]
      by_cases d2 : inB 1 b
      · rw [if_pos d2, if_neg (fun d3 => c1 ⟨d1, d2, d3⟩)]
      · rw [if_neg d2]
    · rw [if_neg d1]
