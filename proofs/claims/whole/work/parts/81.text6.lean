/-! ===== text: the told order, kept on both sides ===== -/
def sg (i x j : Nat) : Nat := if j < i then j else if j = i then x else if j ≤ x then j - 1 else j
theorem sg_lt {i x n : Nat} (hx : x < n) (hix : i ≤ x) : ∀ j, j < n → sg i x j < n := by
  intro j hj
  unfold sg
  split
  · omega
  · split
    · omega
    · split <;> omega
theorem sg_at (i x j : Nat) : (j < i ∧ sg i x j = j) ∨ (j = i ∧ sg i x j = x) ∨ (i < j ∧ j ≤ x ∧ sg i x j = j - 1) ∨ (i < j ∧ x < j ∧ sg i x j = j) := by
  unfold sg
  by_cases c1 : j < i
  · rw [if_pos c1]; exact Or.inl ⟨c1, rfl⟩
  rw [if_neg c1]
  by_cases c2 : j = i
  · rw [if_pos c2]; exact Or.inr (Or.inl ⟨c2, rfl⟩)
  rw [if_neg c2]
  by_cases c3 : j ≤ x
  · rw [if_pos c3]; exact Or.inr (Or.inr (Or.inl ⟨by omega, c3, rfl⟩))
  rw [if_neg c3]; exact Or.inr (Or.inr (Or.inr ⟨by omega, by omega, rfl⟩))
theorem sg_inj {i x : Nat} (hix : i ≤ x) (a b : Nat) : sg i x a = sg i x b → a = b := by
  have h1 := sg_at i x a
  have h2 := sg_at i x b
  intro q
  omega
theorem sg_mono {i x : Nat} (hix : i ≤ x) (a b : Nat) (ha : i < a) (hab : a < b) : i ≤ sg i x a ∧ sg i x a < sg i x b := by
  unfold sg
  rw [if_neg (by omega), if_neg (by omega), if_neg (show ¬ b < i by omega), if_neg (show ¬ b = i by omega)]
  by_cases c : a ≤ x
  · rw [if_pos c]
    split <;> omega
  · rw [if_neg c, if_neg (by omega)]
    omega
/-- i boxes are brought forward -/
def PI (i n : Nat) (A P : Nat → Int) : Prop := i ≤ n ∧ (∀ j, j < i → P j = A j) ∧ (∀ j, j < n → 0 ≤ P j ∧ P j < (n : Int)) ∧ (∀ a b, a < n → b < n → P a = P b → a = b) ∧ ∀ a b, i ≤ a → a < b → b < n → P a < P b
theorem PI.first {n : Nat} {A P : Nat → Int} (h : ∀ i, i < n → P i = (i : Int)) : PI 0 n A P :=
  ⟨by omega, fun j hj => by omega, fun j hj => by rw [h j hj]; omega, fun a b ha hb e => by rw [h a ha, h b hb] at e; omega, fun a b _ h1 h2 => by rw [h a (by omega), h b h2]; omega⟩
theorem PI.step {i n x : Nat} {A P P' : Nat → Int} (h : PI i n A P) (hx : x < n) (hix : i ≤ x) (he : P x = A i) (hP : ∀ j, P' j = P (sg i x j)) : PI (i + 1) n A P' := by
  obtain ⟨h1, h2, h3, h4, h5⟩ := h
  refine ⟨by omega, fun j hj => ?_, fun j hj => ?_, fun a b ha hb e => ?_, fun a b ha hab hb => ?_⟩
  · rw [hP]
    by_cases c : j < i
    · have : sg i x j = j := by unfold sg; rw [if_pos c]
      rw [this]; exact h2 j c
    · have : sg i x j = x := by unfold sg; rw [if_neg c, if_pos (by omega)]
      rw [this, he, show j = i by omega]
  · rw [hP]; exact h3 _ (sg_lt hx hix j hj)
  · rw [hP, hP] at e
    exact sg_inj hix a b (h4 _ _ (sg_lt hx hix a ha) (sg_lt hx hix b hb) e)
  · rw [hP, hP]
    have := sg_mono hix a b (by omega) hab
    exact h5 _ _ this.1 this.2 (sg_lt hx hix b hb)
theorem bring_eq {n : Nat} {F P : Nat → Int} {st : Int} (hV : VS n F P st) {i : Nat} {b : Int} (hb : 0 ≤ b ∧ b < n) (hi : i ≤ sPl P n b.toNat) : ∃ P', f_Shop_bringTo n P i b = some P' ∧ ∀ j, P' j = P (sg i (sPl P n b.toNat) j) := by
  have ep := place_eq hV b hb
  have hs := sPl_spec hV (b := b.toNat) (by omega)
  generalize sPl P n b.toNat = x at ep hs hi ⊢
  obtain ⟨P', e1, e2, e3, e4, e5⟩ := bring_L hV.1 i (x - i) 5000 P (by omega) (by have := hV.1; omega)
  rw [show i + (x - i) = x by omega] at e1 e3 e4 e5
  refine ⟨P', ?_, fun j => ?_⟩
  · unfold f_Shop_bringTo
    rw [bnd_eq ep, bnd_eq e1]
  · unfold sg
    by_cases c1 : j < i
    · rw [if_pos c1]; exact e2 j c1
    rw [if_neg c1]
    by_cases c2 : j = i
    · subst c2; rw [if_pos rfl]; exact e3
    rw [if_neg c2]
    by_cases c3 : j ≤ x
    · rw [if_pos c3]; exact e4 j (by omega) c3
    rw [if_neg c3]; exact e5 j (by omega)
theorem to_L {k : Nat} (hk : k ≤ 160) {n : Nat} {F : Nat → Int} {st : Int} (hV : ∀ P : Nat → Int, (∀ j, j < n → 0 ≤ P j ∧ P j < (n : Int)) → (∀ a b, a < n → b < n → P a = P b → a = b) → VS n F P st) (hn : n ≤ 5) {u : Nat} (hu : u ≤ 5) {A : Nat → Int} (hA : ∀ i, i < u → 0 ≤ A i ∧ A i ≤ 4) (hinj : ∀ i j, i < u → j < u → A i = A j → i = j) : ∀ (m i f : Nat) (P : Nat → Int), i + m = u → m < f → PI i n A P → (∀ j, j < i → A j < (n : Int)) →
    ((∃ j, j < u ∧ (n : Int) ≤ A j) ∧ ∃ P', f_TextReader_takesOrder_L2 f u 0 0 A n P k i = some (0, 6, (k : Int), P'))
    ∨ ((∀ j, j < u → A j < (n : Int)) ∧ ∃ P', PI u n A P' ∧ f_TextReader_takesOrder_L2 f u 0 0 A n P k i = some (1, 0, 0, P'))
  | 0, i, f, P, hi, hf, hP, hlt => by
    obtain ⟨g, rfl⟩ : ∃ g, f = g + 1 := ⟨f - 1, by omega⟩
    obtain rfl : i = u := by omega
    right
    refine ⟨hlt, P, hP, ?_⟩
    rw [f_TextReader_takesOrder_L2, chk_pos (by omega), chk_pos (by omega), if_pos (by omega)]
  | m + 1, i, f, P, hi, hf, hP, hlt => by
    obtain ⟨g, rfl⟩ : ∃ g, f = g + 1 := ⟨f - 1, by omega⟩
    have hAi := hA i (by omega)
    rw [f_TextReader_takesOrder_L2, chk_pos (by omega), chk_pos (by omega), if_neg (by omega), chk_pos (by omega), Int.toNat_natCast, gb (has_eq hn (A i) (by omega))]
    by_cases c : 0 ≤ A i ∧ A i < (n : Int)
    · rw [if_pos c]
      have hVP := hV P hP.2.2.1 hP.2.2.2.1
      have hs := sPl_spec hVP (b := (A i).toNat) (by omega)
      have hpx : P (sPl P n (A i).toNat) = A i := by omega
      have hix : i ≤ sPl P n (A i).toNat := by
        by_cases q : i ≤ sPl P n (A i).toNat
        · exact q
        · have e1 := hP.2.1 (sPl P n (A i).toNat) (by omega)
          have := hinj (sPl P n (A i).toNat) i (by omega) (by omega) (by omega)
          omega
      obtain ⟨P', e1, e2⟩ := bring_eq hVP c hix
      rw [bnd_eq e1]
      exact to_L hk hV hn hu hA hinj m (i + 1) g P' (by omega) (by omega) (hP.step hs.1 hix hpx e2) (fun j hj => by
        by_cases q : j = i
        · subst q; exact c.2
        · exact hlt j (by omega))
    · rw [if_neg c]
      left
      refine ⟨⟨i, by omega, by omega⟩, P, ?_⟩
      rw [bnd_eq (tsize_eq _), bnd_eq (failed_eq 0 0 6 k), chk_pos (Or.inl rfl)]
theorem kd_L64 {n u : Nat} (hn : n ≤ 5) {pl : Int} {A P : Nat → Int} (hbit : ∀ b : Nat, b < 5 → (zand (zshr pl b) 1 = 0 ↔ ∀ i, i < u → A i ≠ (b : Int))) (hP : PI u n A P) : ∀ (m b f t : Nat) (S : Nat → Int), b + m = n → m < f → S 30 = (n : Int) → u ≤ t → t ≤ n → (∀ j, u ≤ j → j < t → P j < (b : Int)) → (∀ j, t ≤ j → j < n → (b : Int) ≤ P j) → (∀ j, j < t → S (31 + j) = P j) →
    ∃ S', f_M_keepDraft_L64 f pl S t b = some S' ∧ (∀ j, j < n → S' (31 + j) = P j) ∧ ∀ q, (q < 31 ∨ 31 + n ≤ q) → S' q = S q
  | 0, b, f, t, S, hb, hf, h30, hut, htn, h1, h2, h3 => by
    obtain ⟨g, rfl⟩ : ∃ g, f = g + 1 := ⟨f - 1, by omega⟩
    refine ⟨S, ?_, fun j hj => ?_, fun _ _ => rfl⟩
    · rw [f_M_keepDraft_L64, h30, chk_pos (by omega), chk_pos (by omega), if_pos (by omega)]
    · by_cases c : j < t
      · exact h3 j c
      · have e1 := h2 j (by omega) hj
        have e2 := hP.2.2.1 j hj
        omega
  | m + 1, b, f, t, S, hb, hf, h30, hut, htn, h1, h2, h3 => by
    obtain ⟨g, rfl⟩ : ∃ g, f = g + 1 := ⟨f - 1, by omega⟩
    have hbb := hbit b (by omega)
    rw [f_M_keepDraft_L64, h30, chk_pos (by omega), chk_pos (by omega), if_neg (by omega)]
    by_cases c : zand (zshr pl b) 1 = 0
    · have hna := hbb.mp c
      obtain ⟨x, hx, ex⟩ := fb_onto (n := n) (f := fun i => (P i).toNat) (fun i hi => by have := hP.2.2.1 i hi; omega) (fun i j hij hj e => by
        have a1 := hP.2.2.1 i (by omega)
        have a2 := hP.2.2.1 j hj
        have := hP.2.2.2.1 i j (by omega) hj (by omega)
        omega) (show b < n by omega)
      have ex : (P x).toNat = b := ex
      have hpx := hP.2.2.1 x hx
      have hxb : P x = (b : Int) := by omega
      have hux : u ≤ x := by
        by_cases q : u ≤ x
        · exact q
        · exact absurd ((hP.2.1 x (by omega)).symm.trans hxb) (hna x (by omega))
      have htx : t ≤ x := by
        by_cases q : t ≤ x
        · exact q
        · have := h1 x hux (by omega); omega
      have hxt : x = t := by
        by_cases q : x = t
        · exact q
        · have e1 := hP.2.2.2.2 t x hut (by omega) hx
          have e2 := h2 t (by omega) (by omega)
          omega
      subst hxt
      rw [if_pos c, chk_pos (by omega), show (31 + (x : Int)).toNat = 31 + x by omega]
      obtain ⟨S', r1, r2, r3⟩ := kd_L64 hn hbit hP m (b + 1) g (x + 1) (upZ S (31 + x) b) (by omega) (by omega) (by rw [upZ_ne _ _ (by omega)]; exact h30) (by omega) (by omega) (fun j a1 a2 => by
          by_cases q : j = x
          · subst q; omega
          · have := h1 j a1 (by omega); omega) (fun j a1 a2 => by
          have := hP.2.2.2.2 x j hux (by omega) a2
          omega) (fun j hj => by
          by_cases q : j = x
          · subst q; rw [upZ_same]; exact hxb.symm
          · rw [upZ_ne _ _ (by omega)]; exact h3 j (by omega))
      exact ⟨S', r1, r2, fun q hq => by rw [r3 q hq, upZ_ne _ _ (by omega)]⟩
    · rw [if_neg c]
      exact kd_L64 hn hbit hP m (b + 1) g t S (by omega) (by omega) h30 hut htn (fun j a1 a2 => by have := h1 j a1 a2; omega) (fun j a1 a2 => by
        have e1 := h2 j a1 a2
        by_cases q : P j = (b : Int)
        · exfalso
          refine c (hbb.mpr (fun i hi e => ?_))
          have e2 := hP.2.1 i hi
          have := hP.2.2.2.1 i j (by have := hP.1; omega) a2 (by omega)
          omega
        · omega) h3
/-- the reference keeps its draft in the order that the class has made -/
theorem keep_m {n u : Nat} {st : Int} {A R F P P' D : Nat → Int} {pl hi : Int} (hD : DR n st F P D) (hO : OR u A R pl hi) (hP : PI u n A P') (K S : Nat → Int) : ∃ S', f_M_keepDraft pl u D K R S = some (upZ (upZ K 0 0) 1 0, S') ∧ RS n st F P' S' ∧ S' 37 = 0 ∧ ∀ j, 56 ≤ j → S' j = S j := by
  obtain ⟨a1, a2, a3, a4, a5, a6, a7, a8⟩ := hD
  obtain ⟨b1, b2, b3, b4, b5, b6, b7⟩ := hO
  have hun := hP.1
  obtain ⟨S1, e1, e2, e3⟩ := kd_L2 D S
  obtain ⟨S2, f1, f2, f3⟩ := kd_L28 u b1 R S1
  obtain ⟨S3, g1, g2, g3⟩ := kd_L64 a1 b5 hP n 0 5000 u S2 (by omega) (by omega) (by rw [f3 30 (by omega), e2 30 (by omega)]; exact a3) (Nat.le_refl u) hun (fun j h1 h2 => by omega) (fun j h1 h2 => by have := hP.2.2.1 j h2; omega) (fun j hj => by rw [f2 j hj, hP.2.1 j hj]; exact (b2 j hj).1.symm)
  have ck : ∀ j, (j < 31 ∨ 36 ≤ j) → j < 56 → S3 j = D j := fun j h1 h2 => by rw [g3 j (by omega), f3 j (by omega), e2 j h2]
  refine ⟨S3, ?_, ⟨⟨a1, a2, fun b hb => (a7 b hb).1, hP.2.2.1, hP.2.2.2.1⟩, fun b hb => (a7 b hb).2, ?_, ?_, fun j hj => ?_, fun i hi => (g2 i hi).symm⟩, ?_, fun j hj => ?_⟩
  · unfold f_M_keepDraft
    have g1 : f_M_keepDraft_L64 5000 pl S2 u 0 = some S3 := g1
    rw [bnd_eq e1, bnd_eq f1, bnd_eq g1]
  · rw [ck 30 (by omega) (by omega)]; exact a3
  · rw [ck 36 (by omega) (by omega)]; exact a4
  · rw [ck j (by omega) (by omega)]; exact a6 j hj
  · rw [ck 37 (by omega) (by omega)]; exact a5
  · rw [g3 j (by omega), f3 j (by omega), e3 j hj]
theorem first_m (a b c d e : Int) (D : Nat → Int) : ∃ D', f_M_firstDraft a b c d e D = some (0, 0, 0, 0, -4, D') ∧ ∀ F P : Nat → Int, DR 0 6 F P D' := by
  have h := lup0 (fun fuel (b : Nat → Int) i => f_M_firstDraft_L2 fuel b i) 56 (fun i b => upZ b i 0) some (fun i b => ∀ j, j < i → b j = 0)
    (fun fuel i b hi hI => ⟨by
      show f_M_firstDraft_L2 (fuel + 1) b i = _
      rw [f_M_firstDraft_L2, Int.toNat_natCast]
      simp (disch := omega) only [chk_pos, if_neg], fun j hj => by
      by_cases c : j = i
      · subst c; exact upZ_same _ _ _
      · show upZ b i _ j = _
        rw [upZ_ne _ _ c]; exact hI j (by omega)⟩)
    (fun fuel b _ => by
      show f_M_firstDraft_L2 (fuel + 1) b ((56 : Nat) : Int) = _
      rw [f_M_firstDraft_L2, chk_pos (by decide), if_pos (by decide)]) D 5000 (by omega) (fun j hj => by omega)
  have h2 := h.2
  have h1 := h.1
  generalize itr (fun i (b : Nat → Int) => upZ b i 0) 0 56 D = D1 at h1 h2
  refine ⟨upZ D1 36 6, ?_, fun F P => ⟨by omega, by decide, ?_, upZ_same _ _ _, ?_, fun j hj => by omega, fun b hb => by omega, fun i hi => by omega⟩⟩
  · unfold f_M_firstDraft
    rw [bnd_eq h1]
  · rw [upZ_ne _ _ (by omega)]; exact h2 30 (by omega)
  · rw [upZ_ne _ _ (by omega)]; exact h2 37 (by omega)
