/-! ===== two walks side by side ===== -/
theorem lup2 {α₁ α₂ β₁ β₂ : Type} (L1 : Nat → β₁ → Int → Option α₁) (L2 : Nat → β₂ → Int → Option α₂) (n : Nat) (I : Nat → β₁ → β₂ → Prop) (R : α₁ → α₂ → Prop)
    (hs : ∀ (f1 f2 i : Nat) (b1 : β₁) (b2 : β₂), i < n → I i b1 b2 → (∃ c1 c2, L1 (f1 + 1) b1 (i : Int) = L1 f1 c1 ((i : Int) + 1) ∧ L2 (f2 + 1) b2 (i : Int) = L2 f2 c2 ((i : Int) + 1) ∧ I (i + 1) c1 c2) ∨ (∃ r1 r2, L1 (f1 + 1) b1 (i : Int) = some r1 ∧ L2 (f2 + 1) b2 (i : Int) = some r2 ∧ R r1 r2))
    (he : ∀ (f1 f2 : Nat) (b1 : β₁) (b2 : β₂), I n b1 b2 → ∃ r1 r2, L1 (f1 + 1) b1 (n : Int) = some r1 ∧ L2 (f2 + 1) b2 (n : Int) = some r2 ∧ R r1 r2) :
    ∀ (k i : Nat) (b1 : β₁) (b2 : β₂) (f1 f2 : Nat), i + k = n → k < f1 → k < f2 → I i b1 b2 → ∃ r1 r2, L1 f1 b1 (i : Int) = some r1 ∧ L2 f2 b2 (i : Int) = some r2 ∧ R r1 r2 := by
  intro k
  induction k with
  | zero =>
    intro i b1 b2 f1 f2 hi h1 h2 hI
    obtain ⟨g1, rfl⟩ : ∃ f, f1 = f + 1 := ⟨f1 - 1, by omega⟩
    obtain ⟨g2, rfl⟩ : ∃ f, f2 = f + 1 := ⟨f2 - 1, by omega⟩
    obtain rfl : i = n := by omega
    exact he g1 g2 b1 b2 hI
  | succ k ih =>
    intro i b1 b2 f1 f2 hi h1 h2 hI
    obtain ⟨g1, rfl⟩ : ∃ f, f1 = f + 1 := ⟨f1 - 1, by omega⟩
    obtain ⟨g2, rfl⟩ : ∃ f, f2 = f + 1 := ⟨f2 - 1, by omega⟩
    rcases hs g1 g2 i b1 b2 (by omega) hI with ⟨c1, c2, e1, e2, hI'⟩ | h
    · rw [e1, e2]
      exact ih (i + 1) c1 c2 g1 g2 (by omega) (by omega) (by omega) hI'
    · exact h
theorem RS.cp {n : Nat} {st : Int} {F P S : Nat → Int} (h : RS n st F P S) (G Q : Nat → Int) : RS n st (cpZ F G 30) (cpZ P Q 5) S := by
  have hn := h.1.1
  have eF : ∀ k, k < 30 → cpZ F G 30 k = F k := fun k hk => if_pos hk
  have eP : ∀ k, k < 5 → cpZ P Q 5 k = P k := fun k hk => if_pos hk
  refine ⟨h.1.cong ⟨fun k hk => (eF k (by omega)).symm, fun i hi => (eP i (by omega)).symm⟩, fun b hb => ?_, h.2.2.1, h.2.2.2.1, fun k hk => ?_, fun i hi => ?_⟩
  · rw [eF _ (by omega)]; exact h.2.1 b hb
  · rw [eF _ (by omega)]; exact h.2.2.2.2.1 k hk
  · rw [eP _ (by omega)]; exact h.2.2.2.2.2 i hi
theorem VS.st {n : Nat} {F P : Nat → Int} {st : Int} (hV : VS n F P st) {i : Int} (hi : 0 ≤ i ∧ i ≤ 23) : VS n F P i := ⟨hV.1, hi, hV.2.2⟩
theorem RN.st {n : Nat} {st : Int} {F P N : Nat → Int} (h : RN n st F P N) {i : Int} (hi : 0 ≤ i ∧ i ≤ 23) : RN n i F P (upZ N 36 i) := by
  have hn := h.vn.2.1
  have e36 : upZ N 36 i 36 = i := upZ_same _ _ _
  have es : ES n (upZ N 36 i) (oP (upZ N 36 i)) F P := ⟨fun k hk => by rw [upZ_ne _ _ (by omega)]; exact h.es.1 k hk, fun j hj => by
    show upZ N 36 i (31 + j) = _
    rw [upZ_ne _ _ (by omega)]; exact h.es.2 j hj⟩
  refine ⟨⟨by rw [upZ_ne _ _ (by omega)]; exact h.vn.1, ?_⟩, es, e36⟩
  rw [e36]
  exact VS.cong ((h.vn.2.cong h.es).st hi) es.symm
theorem VS.up {n : Nat} {F P : Nat → Int} {st : Int} (hV : VS n F P st) {b w : Nat} (hb : b < n) {x : Int} (hx : inB w x) : VS n (upZ F (6 * b + w) x) P st := by
  have hw := hx.1
  refine ⟨hV.1, hV.2.1, fun k hk => ?_, hV.2.2.2⟩
  by_cases e : k = b
  · subst e; exact (VK_up (hV.2.2.1 _ hk) w x hx).1
  · have h1 := hV.2.2.1 k hk
    unfold VK at h1 ⊢
    rw [upZ_ne _ _ (by omega), upZ_ne _ _ (by omega), upZ_ne _ _ (by omega), upZ_ne _ _ (by omega), upZ_ne _ _ (by omega), upZ_ne _ _ (by omega)]
    exact h1
theorem RN.up {n : Nat} {st : Int} {F P N : Nat → Int} (h : RN n st F P N) {b w : Nat} (hb : b < n) {x : Int} (hx : inB w x) : RN n st (upZ F (6 * b + w) x) P (upZ N (6 * b + w) x) := by
  have hn := h.vn.2.1
  have hw := hx.1
  have e36 : upZ N (6 * b + w) x 36 = st := by rw [upZ_ne _ _ (by omega)]; exact h.e36
  have es : ES n (upZ N (6 * b + w) x) (oP (upZ N (6 * b + w) x)) (upZ F (6 * b + w) x) P := ⟨fun k hk => by
    by_cases e : k = 6 * b + w
    · subst e; rw [upZ_same, upZ_same]
    · rw [upZ_ne _ _ e, upZ_ne _ _ e]; exact h.es.1 k hk, fun j hj => by
    show upZ N (6 * b + w) x (31 + j) = _
    rw [upZ_ne _ _ (by omega)]; exact h.es.2 j hj⟩
  refine ⟨⟨by rw [upZ_ne _ _ (by omega)]; exact h.vn.1, ?_⟩, es, e36⟩
  rw [e36]
  have := h.vn.2.cong h.es
  rw [h.e36] at this
  exact VS.cong (this.up hb hx) es.symm
theorem offer_eq (a v i x : Int) (hv : inR v) (hx : inR x) : f_Least_offer a v i x = some (if x < v then 1 else 0, if x < v then i else a, if x < v then x else v) := by
  unfold f_Least_offer
  rw [chk_pos hx, chk_pos hv]
  by_cases c : x < v
  · rw [if_pos c, if_pos c, if_pos c, if_pos c]
  · rw [if_neg c, if_neg c, if_neg c, if_neg c]
theorem told_eq (a v x : Int) (ha : inR a) (hx : inR x) (h : ¬ a = -4) : f_Search_told a v x = some (if x = 0 then a else v) := by
  unfold f_Search_told f_Least_at f_Least_value
  rw [chk_pos hx, chk_pos ha, if_neg h]
  split <;> rfl
theorem setStart_eq (a x : Int) : f_Shop_setStart a x = some x := rfl
theorem seek_eq (a v x : Int) : f_Least_seekBelow a v x = some (-4, x) := rfl
theorem copy_eq (a b : Int) (c d : Nat → Int) (e f : Int) (g h : Nat → Int) : f_Shop_copyFrom a b c d e f g h = some (e, f, cpZ g c 30, cpZ h d 5) := rfl
/-- where the least is found, on both sides -/
def LST (m : Int) (i : Nat) (a v x y : Int) : Prop := (i = 0 ∧ a = -4 ∧ v = 1000000 ∧ x = 1000000 ∧ y = 0) ∨ (0 < i ∧ a = y ∧ v = x ∧ 0 ≤ a ∧ a < (i : Int) ∧ 0 ≤ v ∧ v ≤ m)
theorem LST.step {m : Int} {i : Nat} {a v x y : Int} (h : LST m i a v x y) (hm : m < 1000000) {z : Int} (hz : 0 ≤ z ∧ z ≤ m) : LST m (i + 1) (if z < v then (i : Int) else a) (if z < v then z else v) (if x ≤ z then x else z) (if x ≤ z then y else i) := by
  rcases h with ⟨h1, h2, h3, h4, h5⟩ | ⟨h1, h2, h3, h4, h5, h6, h7⟩
  · rw [if_pos (by omega), if_pos (by omega), if_neg (by omega), if_neg (by omega)]
    exact Or.inr ⟨by omega, rfl, rfl, by omega, by omega, hz.1, hz.2⟩
  · by_cases c : z < v
    · rw [if_pos c, if_pos c, if_neg (by omega), if_neg (by omega)]
      exact Or.inr ⟨by omega, rfl, rfl, by omega, by omega, hz.1, hz.2⟩
    · rw [if_neg c, if_neg c, if_pos (by omega), if_pos (by omega)]
      exact Or.inr ⟨by omega, h2, h3, h4, by omega, h6, h7⟩
theorem LST.bd {m : Int} {i : Nat} {a v x y : Int} (h : LST m i a v x y) (hm : 0 ≤ m ∧ m < 1000000) : (0 ≤ v ∧ v ≤ 1000000) ∧ x = v := by
  rcases h with ⟨h1, h2, h3, h4, h5⟩ | ⟨h1, h2, h3, h4, h5, h6, h7⟩ <;> omega
theorem p_begin {n : Nat} {st : Int} {F P S : Nat → Int} (h : RS n st F P S) (x : Int) (hx : inR x) (db ds : Int) (dF dP : Nat → Int) (la lv : Int) (N : Nat → Int) : ∃ v w1 w2, inR v ∧ f_HH_begin db ds dF dP la lv n st F P x = some (v, w1) ∧ f_M_begin N S x = some (v, w2) := by
  unfold f_HH_begin f_M_begin
  rw [gb (either_eq x hx), gb (mpart_eq x hx)]
  by_cases c : x = 0 ∨ x = 1
  · rw [if_pos c, if_pos c]
    obtain ⟨N', hf, hN⟩ := fetch_eq N S
    have hC := h.cp dF dP
    have hR := hC.rn hN
    have hV := hC.1
    have hn := hV.1
    generalize hF1 : cpZ F dF 30 = F1 at hC hR hV
    generalize hP1 : cpZ P dP 5 = P1 at hC hR hV
    obtain ⟨r1, r2, e1, e2, e3⟩ := lup2 (fun fuel (b : Int × Int × Int) i => f_Search_bestStart_L19 fuel n b.1 F1 P1 b.2.1 b.2.2 i) (fun fuel (b : (Nat → Int) × Int × Int) i => f_M_begin_L21 fuel b.1 b.2.1 b.2.2 i) 24
      (fun i b c => LST 540 i b.2.1 b.2.2 c.2.1 c.2.2 ∧ ∃ st', RN n st' F1 P1 c.1) (fun r1 r2 => r1.2.1 = r2.2.1 ∧ r1.2.2 = r2.1 ∧ 0 ≤ r1.2.1 ∧ r1.2.1 ≤ 23 ∧ 0 ≤ r1.2.2 ∧ r1.2.2 ≤ 540)
      (fun f1 f2 i b c hi hI => Or.inl (by
        obtain ⟨hL, st', hN⟩ := hI
        have hb := hL.bd (by decide)
        have hVi := hV.st (i := i) (by omega)
        have hNi := hN.st (i := i) (by omega)
        have ha := sAll_bd hVi
        have e1 := wrongAll_eq hVi
        have e2 := hNi.all
        generalize sAll F1 P1 i n = z at ha e1 e2
        refine ⟨((i : Int), if z < b.2.2 then (i : Int) else b.2.1, if z < b.2.2 then z else b.2.2), (upZ c.1 36 i, if c.2.1 ≤ z then c.2.1 else z, if c.2.1 ≤ z then c.2.2 else i), ?_, ?_, hL.step (by decide) ha, i, hNi⟩
        · show f_Search_bestStart_L19 (f1 + 1) n b.1 F1 P1 b.2.1 b.2.2 i = _
          rw [f_Search_bestStart_L19, chk_pos (by omega), if_neg (by omega), bnd_eq (setStart_eq _ _), bnd_eq e1, bnd_eq (offer_eq _ _ _ _ (by omega) (by omega))]
        · show f_M_begin_L21 (f2 + 1) c.1 c.2.1 c.2.2 i = _
          rw [f_M_begin_L21, chk_pos (by omega), if_neg (by omega), bnd_eq e2, chk_pos (by omega), chk_pos (by omega), lesser_eq _ _ (by omega) (by omega)]
          by_cases q : c.2.1 ≤ z
          · rw [if_pos q, if_pos q, if_pos q]; rfl
          · rw [if_neg q, if_neg q, if_neg q]; rfl))
      (fun f1 f2 b c hI => by
        obtain ⟨hL, _⟩ := hI
        rcases hL with ⟨h1, _⟩ | ⟨h1, h2, h3, h4, h5, h6, h7⟩
        · omega
        refine ⟨(b.1, b.2.1, b.2.2), (c.2.1, c.2.2, c.1), ?_, ?_, h2, h3, h4, by show b.2.1 ≤ 23; omega, h6, h7⟩
        · show f_Search_bestStart_L19 (f1 + 1) n b.1 F1 P1 b.2.1 b.2.2 ((24 : Nat) : Int) = _
          rw [f_Search_bestStart_L19, chk_pos (by decide), if_pos (by decide)]
        · show f_M_begin_L21 (f2 + 1) c.1 c.2.1 c.2.2 ((24 : Nat) : Int) = _
          rw [f_M_begin_L21, chk_pos (by decide), if_pos (by decide)])
      24 0 (st, -4, 1000000) (N', 1000000, 0) 5000 5000 (by omega) (by omega) (by omega) ⟨Or.inl ⟨rfl, rfl, rfl, rfl, rfl⟩, st, hR⟩
    obtain ⟨g1, g2, g3, g4, g5, g6⟩ := e3
    have e1 : f_Search_bestStart_L19 5000 n st F1 P1 (-4) 1000000 0 = some r1 := e1
    have e2 : f_M_begin_L21 5000 N' 1000000 0 0 = some r2 := e2
    have e4 : f_Search_bestStart db ds dF dP la lv n st F P = some ((n : Int), r1.1, F1, P1, r1.2.1, r1.2.2) := by
      unfold f_Search_bestStart
      rw [bnd_eq (copy_eq _ _ _ _ _ _ _ _), bnd_eq (seek_eq _ _ _), hF1, hP1, bnd_eq e1]
    rw [bnd_eq e4, bnd_eq (told_eq r1.2.1 r1.2.2 x (by omega) hx (by omega)), bnd_eq hf, bnd_eq e2, chk_pos hx]
    by_cases q : x = 0
    · rw [if_pos q, if_pos q]
      exact ⟨r1.2.1, _, _, by omega, rfl, by rw [g1]⟩
    · rw [if_neg q, if_neg q]
      exact ⟨r1.2.2, _, _, by omega, rfl, by rw [g2]⟩
  · rw [if_neg c, if_neg c]
    exact ⟨-1, _, _, by decide, rfl, rfl⟩
