theorem okA_all {n : Nat} (hn : n ≤ 5) : okA n = true := by
  rcases (show n = 0 ∨ n = 1 ∨ n = 2 ∨ n = 3 ∨ n = 4 ∨ n = 5 by omega) with rfl | rfl | rfl | rfl | rfl | rfl
  · exact okA4.1
  · exact okA4.2.1
  · exact okA4.2.2.1
  · exact okA4.2.2.2
  · exact okA_4
  · exact okA_5
def okI (n : Nat) : Bool := decide (nxt n (5 ^ n) 0 < 5 ^ n) && (List.range n).all (fun i => decide (dg n (nxt n (5 ^ n) 0) i = i))
theorem okI_all {n : Nat} (hn : n ≤ 5) : okI n = true := by
  have h : okI 0 = true ∧ okI 1 = true ∧ okI 2 = true ∧ okI 3 = true ∧ okI 4 = true ∧ okI 5 = true := by decide +kernel
  rcases (show n = 0 ∨ n = 1 ∨ n = 2 ∨ n = 3 ∨ n = 4 ∨ n = 5 by omega) with rfl | rfl | rfl | rfl | rfl | rfl
  · exact h.1
  · exact h.2.1
  · exact h.2.2.1
  · exact h.2.2.2.1
  · exact h.2.2.2.2.1
  · exact h.2.2.2.2.2
theorem nxt_spec (n : Nat) : ∀ (f c : Nat), c ≤ nxt n f c ∧ nxt n f c ≤ c + f ∧ (∀ j, c ≤ j → j < nxt n f c → isP n j = false) ∧ (nxt n f c < c + f → isP n (nxt n f c) = true)
  | 0, c => ⟨Nat.le_refl c, Nat.le_refl c, fun j h1 h2 => by
      have h2 : j < c := h2
      omega, fun h => by
      have h : c < c + 0 := h
      omega⟩
  | f + 1, c => by
    unfold nxt
    cases e : isP n c with
    | true =>
      rw [if_pos rfl]
      exact ⟨Nat.le_refl c, by omega, fun j h1 h2 => by omega, fun _ => e⟩
    | false =>
      rw [if_neg (by decide)]
      obtain ⟨a1, a2, a3, a4⟩ := nxt_spec n f (c + 1)
      refine ⟨by omega, by omega, fun j h1 h2 => ?_, fun h => a4 (by omega)⟩
      by_cases q : j = c
      · subst q; exact e
      · exact a3 j (by omega) h2
theorem okA_at {n : Nat} (hn : n ≤ 5) {c : Nat} (hc : c < 5 ^ n) (hp : isP n c = true) : okP n c = true ∧ okN n c = true := by
  have h := okA_all hn
  unfold okA at h
  rw [Bool.and_eq_true, List.all_eq_true] at h
  have h1 := h.1 c (List.mem_range.mpr hc)
  rw [hp, Bool.not_true, Bool.false_or, Bool.and_eq_true] at h1
  exact h1
theorem okP_vs {n c : Nat} (h : okP n c = true) {F P : Nat → Int} {st : Int} (hV : VS n F P st) : VS n F (dgF n c) st := by
  unfold okP at h
  rw [List.all_eq_true] at h
  refine ⟨hV.1, hV.2.1, hV.2.2.1, fun i hi => ?_, fun i j hi hj e => ?_⟩
  · have h1 := h i (List.mem_range.mpr hi)
    rw [Bool.and_eq_true, decide_eq_true_eq] at h1
    show 0 ≤ (dg n c i : Int) ∧ (dg n c i : Int) < n
    omega
  · have h1 := h i (List.mem_range.mpr hi)
    rw [Bool.and_eq_true, List.all_eq_true] at h1
    have h2 := h1.2 j (List.mem_range.mpr hj)
    rw [Bool.or_eq_true, decide_eq_true_eq, decide_eq_true_eq] at h2
    have e : (dg n c i : Int) = (dg n c j : Int) := e
    rcases h2 with h2 | h2
    · exact h2
    · exact absurd (by omega) h2
theorem okN_next {n c : Nat} (h : okN n c = true) : (∃ Q, f_Shop_nextOrder n (dgF n c) = some (1, Q) ∧ nxt n (5 ^ n) (c + 1) < 5 ^ n ∧ AG n Q (dgF n (nxt n (5 ^ n) (c + 1)))) ∨ (∃ Q, f_Shop_nextOrder n (dgF n c) = some (0, Q) ∧ 5 ^ n ≤ nxt n (5 ^ n) (c + 1)) := by
  unfold okN at h
  cases e : f_Shop_nextOrder n (dgF n c) with
  | none => rw [e] at h; exact absurd (show false = true from h) (by decide)
  | some q =>
    obtain ⟨r, Q⟩ := q
    rw [e] at h
    have hh : (if r = 1 then decide (nxt n (5 ^ n) (c + 1) < 5 ^ n) && (List.range n).all (fun i => decide (Q i = dgF n (nxt n (5 ^ n) (c + 1)) i)) else decide (r = 0) && decide (5 ^ n ≤ nxt n (5 ^ n) (c + 1))) = true := h
    by_cases z : r = 1
    · clear h
      rw [if_pos z, Bool.and_eq_true, decide_eq_true_eq, List.all_eq_true] at hh
      subst z
      refine Or.inl ⟨Q, rfl, hh.1, fun i hi => ?_⟩
      have := hh.2 i (List.mem_range.mpr hi)
      rw [decide_eq_true_eq] at this
      exact this
    · clear h
      rw [if_neg z, Bool.and_eq_true, decide_eq_true_eq, decide_eq_true_eq] at hh
      obtain ⟨h1, h2⟩ := hh
      subst h1
      exact Or.inr ⟨Q, rfl, h2⟩
theorem hold_eq {n : Nat} (hn : n ≤ 5) (B PL : Nat → Int) : ∃ B', f_Search_holdPlaces B n PL = some B' ∧ AG n B' PL := by
  obtain ⟨r, e1, e2⟩ := lupE (fun fuel (b : Nat → Int) i => f_Search_holdPlaces_L2 fuel b n PL i) n (fun i b => ∀ j, j < i → b j = PL j) (fun b => AG n b PL)
    (fun f i b hi hI => by
      have eb : f_Shop_boxIn n PL i = some (PL i) := by
        unfold f_Shop_boxIn
        rw [gb (has_eq hn i (by omega)), if_pos (by omega), chk_pos (by omega), Int.toNat_natCast]
      refine ⟨upZ b i (PL i), ?_, fun j hj => ?_⟩
      · show f_Search_holdPlaces_L2 (f + 1) b n PL i = _
        rw [f_Search_holdPlaces_L2, bnd_eq (size_eq _), chk_pos (by omega), chk_pos (by omega), if_neg (by omega), if_neg (by omega), bnd_eq eb, chk_pos (by omega), Int.toNat_natCast]
      · by_cases e : j = i
        · subst e; exact upZ_same _ _ _
        · rw [upZ_ne _ _ e]; exact hI j (by omega))
    (fun f b hI => by
      refine ⟨b, ?_, hI⟩
      show f_Search_holdPlaces_L2 (f + 1) b n PL n = _
      rw [f_Search_holdPlaces_L2, bnd_eq (size_eq _), chk_pos (by omega), chk_pos (by omega), if_pos (by omega)])
    n 0 B 5000 (by omega) (by omega) (fun j hj => by omega)
  unfold f_Search_holdPlaces
  exact ⟨r, bnd_eq e1, e2⟩
theorem bestRow_eq {n : Nat} (hn : n ≤ 5) (B N : Nat → Int) (h30 : N 30 = (n : Int)) : ∃ B', f_M_findBest_L70 5000 B N 0 = some B' ∧ AG n B' (oP N) := by
  obtain ⟨r, e1, e2⟩ := lupE (fun fuel (b : Nat → Int) i => f_M_findBest_L70 fuel b N i) n (fun i b => ∀ j, j < i → b j = N (31 + j)) (fun b => AG n b (oP N))
    (fun f i b hi hI => by
      refine ⟨upZ b i (N (31 + i)), ?_, fun j hj => ?_⟩
      · show f_M_findBest_L70 (f + 1) b N i = _
        rw [f_M_findBest_L70, h30, chk_pos (by omega), chk_pos (by omega), if_neg (by omega), chk_pos (by omega), chk_pos (by omega), Int.toNat_natCast, show (31 + (i : Int)).toNat = 31 + i by omega]
      · by_cases e : j = i
        · subst e; exact upZ_same _ _ _
        · rw [upZ_ne _ _ e]; exact hI j (by omega))
    (fun f b hI => by
      refine ⟨b, ?_, hI⟩
      show f_M_findBest_L70 (f + 1) b N n = _
      rw [f_M_findBest_L70, h30, chk_pos (by omega), chk_pos (by omega), if_pos (by omega)])
    n 0 B 5000 (by omega) (by omega) (fun j hj => by omega)
  exact ⟨r, e1, e2⟩
/-- the row at hand but for the places -/
def BN (N S : Nat → Int) : Prop := ∀ j, j < 56 → (j < 31 ∨ 36 ≤ j) → N j = S j
theorem p5 {n : Nat} (hn : n ≤ 5) : 5 ^ n ≤ 3125 ∧ 0 < 5 ^ n := ⟨show 5 ^ n ≤ 5 ^ 5 from Nat.pow_le_pow_right (by omega) hn, Nat.pow_pos (by omega)⟩
theorem best_skip {n : Nat} (hn : n ≤ 5) {S : Nat → Int} (h30 : S 30 = (n : Int)) (B : Nat → Int) (v : Int) (hv : 0 ≤ v ∧ v ≤ 1000000) : ∀ (d c f : Nat) (N : Nat → Int), BN N S → c + d ≤ 5 ^ n → (∀ j, c ≤ j → j < c + d → isP n j = false) → ∃ N', f_M_findBest_L34 (f + d) B N ((5 ^ n : Nat) : Int) v c = f_M_findBest_L34 f B N' ((5 ^ n : Nat) : Int) v ((c + d : Nat) : Int) ∧ BN N' S
  | 0, c, f, N, hN, _, _ => ⟨N, rfl, hN⟩
  | d + 1, c, f, N, hN, hc, hp => by
    have h5 := (p5 hn).1
    obtain ⟨N1, e1, e2, e3⟩ := isOrder_eq hn N (by rw [hN 30 (by omega) (by omega)]; exact h30) c (by omega)
    rw [hp c (by omega) (by omega), if_neg (by decide)] at e1
    obtain ⟨N2, e4, e5⟩ := best_skip hn h30 B v hv d (c + 1) f N1 (fun j h1 h2 => by rw [e3 j (by omega)]; exact hN j h1 h2) (by omega) (fun j h1 h2 => hp j (by omega) (by omega))
    refine ⟨N2, ?_, e5⟩
    rw [show c + (d + 1) = c + 1 + d by omega]
    refine Eq.trans ?_ e4
    show f_M_findBest_L34 ((f + d) + 1) B N ((5 ^ n : Nat) : Int) v c = _
    rw [f_M_findBest_L34, chk_pos (by omega), chk_pos (by omega), if_neg (by omega), bnd_eq e1, chk_pos (by show inR 0; decide), if_pos (by show (0 : Int) = 0; rfl), Option.bind_some, chk_pos (by decide), chk_pos (by omega), if_pos (by omega)]
    rfl
