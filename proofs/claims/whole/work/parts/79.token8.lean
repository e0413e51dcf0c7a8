/-! the reference keeps its draft -/
theorem kd_L2 (D S : Nat → Int) : ∃ S', f_M_keepDraft_L2 5000 D S 0 = some S' ∧ (∀ j, j < 56 → S' j = D j) ∧ ∀ j, 56 ≤ j → S' j = S j := by
  have h := lup0 (fun fuel (b : Nat → Int) i => f_M_keepDraft_L2 fuel D b i) 56 (fun i b => upZ b i (D i)) some (fun i b => (∀ j, j < i → b j = D j) ∧ ∀ j, 56 ≤ j → b j = S j)
    (fun fuel i b hi hI => ⟨by
      show f_M_keepDraft_L2 (fuel + 1) D b i = _
      rw [f_M_keepDraft_L2, Int.toNat_natCast]
      simp (disch := omega) only [chk_pos, if_neg], fun j hj => by
      by_cases c : j = i
      · subst c; exact upZ_same _ _ _
      · show upZ b i _ j = _
        rw [upZ_ne _ _ c]; exact hI.1 j (by omega), fun j hj => by
      show upZ b i _ j = _
      rw [upZ_ne _ _ (by omega)]; exact hI.2 j hj⟩)
    (fun fuel b _ => by
      show f_M_keepDraft_L2 (fuel + 1) D b ((56 : Nat) : Int) = _
      rw [f_M_keepDraft_L2, chk_pos (by decide), if_pos (by decide)]) S 5000 (by omega) ⟨fun j hj => by omega, fun j _ => rfl⟩
  exact ⟨_, h.1, h.2⟩
theorem kd_L28 (m : Nat) (hm : m ≤ 5) (R S : Nat → Int) : ∃ S', f_M_keepDraft_L28 5000 m R S 0 = some S' ∧ (∀ i, i < m → S' (31 + i) = R i) ∧ ∀ j, (j < 31 ∨ 31 + m ≤ j) → S' j = S j := by
  obtain ⟨r, e1, e2, e3⟩ := lupE (fun fuel (b : Nat → Int) i => f_M_keepDraft_L28 fuel m R b i) m (fun i b => (∀ j, j < i → b (31 + j) = R j) ∧ ∀ j, (j < 31 ∨ 31 + m ≤ j) → b j = S j) (fun b => (∀ i, i < m → b (31 + i) = R i) ∧ ∀ j, (j < 31 ∨ 31 + m ≤ j) → b j = S j)
    (fun f i b hi hI => by
      refine ⟨upZ b (31 + i) (R i), ?_, fun j hj => ?_, fun j hj => by rw [upZ_ne _ _ (by omega)]; exact hI.2 j hj⟩
      · show f_M_keepDraft_L28 (f + 1) m R b i = _
        rw [f_M_keepDraft_L28, chk_pos (by omega), chk_pos (by omega), if_neg (by omega), chk_pos (by omega), chk_pos (by omega), Int.toNat_natCast, show (31 + (i : Int)).toNat = 31 + i by omega]
      · by_cases e : j = i
        · subst e; exact upZ_same _ _ _
        · rw [upZ_ne _ _ (by omega)]; exact hI.1 j (by omega))
    (fun f b hI => by
      refine ⟨b, ?_, hI⟩
      show f_M_keepDraft_L28 (f + 1) m R b m = _
      rw [f_M_keepDraft_L28, chk_pos (by omega), chk_pos (by omega), if_pos (by omega)])
    m 0 S 5000 (by omega) (by omega) ⟨fun j hj => by omega, fun _ _ => rfl⟩
  exact ⟨r, e1, e2, e3⟩
