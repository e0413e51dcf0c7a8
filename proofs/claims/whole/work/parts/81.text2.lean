/-! ===== text: the order's line ===== -/
def OR (u : Nat) (A R : Nat → Int) (pl hi : Int) : Prop :=
  u ≤ 5 ∧ (∀ i, i < u → A i = R i ∧ 0 ≤ A i ∧ A i ≤ 4) ∧ (∀ i j, i < u → j < u → A i = A j → i = j) ∧ (∃ q : Nat, q < 32 ∧ pl = (q : Int)) ∧ (∀ b : Nat, b < 5 → (zand (zshr pl b) 1 = 0 ↔ ∀ i, i < u → A i ≠ (b : Int))) ∧ (∀ i, i < u → A i ≤ hi) ∧ (hi = -4 ∨ ∃ i, i < u ∧ A i = hi)
theorem bit_up : ∀ (q : Fin 32) (b c : Fin 5), (zand (zshr (zor (q.val : Int) (zshl 1 (b.val : Int))) (c.val : Int)) 1 = 0 ↔ (zand (zshr (q.val : Int) (c.val : Int)) 1 = 0 ∧ c ≠ b)) ∧ 0 ≤ zor (q.val : Int) (zshl 1 (b.val : Int)) ∧ zor (q.val : Int) (zshl 1 (b.val : Int)) < 32 := by decide +kernel
theorem bit_0 : ∀ c : Fin 5, zand (zshr 0 (c.val : Int)) 1 = 0 := by decide +kernel
theorem OR.none (A R : Nat → Int) : OR 0 A R 0 (-4) :=
  ⟨by omega, fun i hi => by omega, fun i j hi => by omega, ⟨0, by omega, rfl⟩, fun b hb => ⟨fun _ i hi => by omega, fun _ => bit_0 ⟨b, hb⟩⟩, fun i hi => by omega, Or.inl rfl⟩
theorem OR.add {u : Nat} {A R : Nat → Int} {pl hi : Int} (h : OR u A R pl hi) (hu : u < 5) {v : Int} (hv : 0 ≤ v ∧ v ≤ 4) (hn : ∀ i, i < u → A i ≠ v) : OR (u + 1) (upZ A u v) (upZ R u v) (zor pl (zshl 1 v)) (if v ≤ hi then hi else v) := by
  obtain ⟨h1, h2, h3, ⟨q, hq, rfl⟩, h5, h6, h7⟩ := h
  obtain ⟨b, rfl⟩ : ∃ b : Nat, v = (b : Int) := ⟨v.toNat, by omega⟩
  have eo : ∀ i, i < u → upZ A u (b : Int) i = A i := fun i hi => upZ_ne _ _ (by omega)
  have er : ∀ i, i < u → upZ R u (b : Int) i = R i := fun i hi => upZ_ne _ _ (by omega)
  refine ⟨by omega, fun i hi => ?_, fun i j hi hj e => ?_, ?_, fun c hc => ?_, fun i hi => ?_, ?_⟩
  · by_cases c : i = u
    · subst c; rw [upZ_same, upZ_same]; exact ⟨rfl, hv⟩
    · rw [eo i (by omega), er i (by omega)]; exact h2 i (by omega)
  · by_cases c : i = u
    · by_cases d : j = u
      · omega
      · subst c
        rw [upZ_same, eo j (by omega)] at e
        exact absurd e.symm (hn j (by omega))
    · by_cases d : j = u
      · subst d
        rw [upZ_same, eo i (by omega)] at e
        exact absurd e (hn i (by omega))
      · rw [eo i (by omega), eo j (by omega)] at e
        exact h3 i j (by omega) (by omega) e
  · have := (bit_up ⟨q, hq⟩ ⟨b, by omega⟩ ⟨0, by omega⟩).2
    have : 0 ≤ zor (q : Int) (zshl 1 (b : Int)) ∧ zor (q : Int) (zshl 1 (b : Int)) < 32 := this
    exact ⟨(zor (q : Int) (zshl 1 (b : Int))).toNat, by omega, by omega⟩
  · have e := (bit_up ⟨q, hq⟩ ⟨b, by omega⟩ ⟨c, hc⟩).1
    have e : zand (zshr (zor (q : Int) (zshl 1 (b : Int))) (c : Int)) 1 = 0 ↔ (zand (zshr (q : Int) (c : Int)) 1 = 0 ∧ (⟨c, hc⟩ : Fin 5) ≠ ⟨b, by omega⟩) := e
    rw [e, h5 c hc]
    constructor
    · rintro ⟨g1, g2⟩ i hi
      by_cases d : i = u
      · subst d
        rw [upZ_same]
        intro q3
        exact g2 (Fin.ext (by show c = b; omega))
      · rw [eo i (by omega)]; exact g1 i (by omega)
    · intro g
      refine ⟨fun i hi => by have := g i (by omega); rw [eo i hi] at this; exact this, fun q3 => ?_⟩
      have := g u (by omega)
      rw [upZ_same] at this
      have q3 : c = b := congrArg Fin.val q3
      exact this (by omega)
  · by_cases c : i = u
    · subst c; rw [upZ_same]
      split <;> omega
    · rw [eo i (by omega)]
      have := h6 i (by omega)
      split <;> omega
  · by_cases c : (b : Int) ≤ hi
    · rw [if_pos c]
      rcases h7 with h7 | ⟨i, hi, h7⟩
      · exact Or.inl h7
      · exact Or.inr ⟨i, by omega, by rw [eo i hi]; exact h7⟩
    · rw [if_neg c]
      exact Or.inr ⟨u, by omega, upZ_same _ _ _⟩
theorem OR.room {u : Nat} {A R : Nat → Int} {pl hi : Int} (h : OR u A R pl hi) {v : Int} (hv : 0 ≤ v ∧ v ≤ 4) (hn : ∀ i, i < u → A i ≠ v) : u < 5 := by
  obtain ⟨h1, h2, h3, _⟩ := h
  by_cases c : u < 5
  · exact c
  · obtain ⟨j, hj, he⟩ := fb_onto (n := 5) (f := fun i => (A i).toNat) (fun i hi => by have := h2 i (by omega); omega) (fun i j hij hj e => by
      have a1 := h2 i (by omega)
      have a2 := h2 j (by omega)
      have := h3 i j (by omega) (by omega) (by omega)
      omega) (show v.toNat < 5 by omega)
    have a1 := h2 j (by omega)
    exact absurd (show A j = v by omega) (hn j (by omega))
theorem ahead_L {u : Nat} (hu : u ≤ 5) {A : Nat → Int} (hA : ∀ i, i < u → inR (A i)) {b : Int} (hb : inR b) : ∀ (m i f : Nat), i + m = u → m < f → ((∃ j, i ≤ j ∧ j < u ∧ A j = b) ∧ f_TextReader_isAhead_L2 f u A b i = some 1) ∨ ((∀ j, i ≤ j → j < u → A j ≠ b) ∧ f_TextReader_isAhead_L2 f u A b i = some 0)
  | 0, i, f, hi, hf => by
    obtain ⟨g, rfl⟩ : ∃ g, f = g + 1 := ⟨f - 1, by omega⟩
    right
    refine ⟨fun j h1 h2 => by omega, ?_⟩
    rw [f_TextReader_isAhead_L2, chk_pos (by omega), chk_pos (by omega), if_pos (by omega)]
  | m + 1, i, f, hi, hf => by
    obtain ⟨g, rfl⟩ : ∃ g, f = g + 1 := ⟨f - 1, by omega⟩
    have hAi := hA i (by omega)
    rw [f_TextReader_isAhead_L2, chk_pos (by omega), chk_pos (by omega), if_neg (by omega), chk_pos (by omega), Int.toNat_natCast, chk_pos hAi, chk_pos hb]
    by_cases c : A i = b
    · left
      exact ⟨⟨i, by omega, by omega, c⟩, if_pos c⟩
    · rw [if_neg c]
      rcases ahead_L hu hA hb m (i + 1) g (by omega) (by omega) with ⟨⟨j, h1, h2, h3⟩, h4⟩ | ⟨h1, h2⟩
      · exact Or.inl ⟨⟨j, by omega, h2, h3⟩, h4⟩
      · refine Or.inr ⟨fun j g1 g2 => ?_, h2⟩
        by_cases d : j = i
        · subst d; exact c
        · exact h1 j (by omega) g2
theorem ahead_c {u : Nat} (hu : u ≤ 5) {A : Nat → Int} (hA : ∀ i, i < u → inR (A i)) {b : Int} (hb : inR b) : ((∃ j, j < u ∧ A j = b) ∧ f_TextReader_isAhead u A b = some 1) ∨ ((∀ j, j < u → A j ≠ b) ∧ f_TextReader_isAhead u A b = some 0) := by
  rcases ahead_L hu hA hb u 0 5000 (by omega) (by omega) with ⟨⟨j, _, h2, h3⟩, h4⟩ | ⟨h1, h2⟩
  · exact Or.inl ⟨⟨j, h2, h3⟩, h4⟩
  · exact Or.inr ⟨fun j hj => h1 j (by omega) hj, h2⟩
/-! the reference, step by step -/
theorem nd_f (bg f wa o y : Int) (hf : 0 < f ∧ f ≤ 6) (ho : o = 0 ∨ o = 1) : f_M_needs bg f wa o y = some (f, wa) := by
  unfold f_M_needs
  rcases ho with rfl | rfl
  · rw [chk_pos (by decide), if_pos rfl, chk_pos (by omega), if_neg (by omega)]
  · rw [chk_pos (by decide), if_neg (by decide)]
theorem nd_0 (bg wa y : Int) : f_M_needs bg 0 wa 0 y = some (y, bg) := rfl
theorem nd_1 (bg wa y : Int) : f_M_needs bg 0 wa 1 y = some (0, wa) := rfl
theorem if_01 (c : Prop) [Decidable c] : ∃ o : Int, (o = 0 ∨ o = 1) ∧ (if c then some (1 : Int) else some 0) = some o := by
  by_cases h : c
  · exact ⟨1, Or.inr rfl, if_pos h⟩
  · exact ⟨0, Or.inl rfl, if_neg h⟩
theorem om_fault (g : Nat) (pl u hi k ps bg so va ff w : Int) (R T : Nat → Int) (hf : 0 < ff ∧ ff ≤ 6) : f_M_readOrder_L0 (g + 1) pl u hi k ps bg so va ff w R T = some (pl, u, hi, ps, bg, so, va, ff, w, R) := by
  rw [f_M_readOrder_L0, chk_pos (by omega), if_neg (by omega)]
theorem om_end (g : Nat) (pl u hi k ps bg so va wa : Int) (R T : Nat → Int) (hs : inR so) (h2 : ¬ so = 2) : f_M_readOrder_L0 (g + 1) pl u hi k ps bg so va 0 wa R T = some (pl, u, hi, ps, bg, so, va, 0, wa, R) := by
  rw [f_M_readOrder_L0, chk_pos (by decide), if_pos rfl, chk_pos hs, if_neg h2]
theorem om_bad (g : Nat) (pl u hi k ps bg va wa x ff w : Int) (R T : Nat → Int) (hf : 0 < ff ∧ ff ≤ 6) (hl : f_M_looked bg 2 va 0 wa 0 4 = some (x, ff, w)) : f_M_readOrder_L0 (g + 2) pl u hi k ps bg 2 va 0 wa R T = some (pl, u, hi, ps, bg, 2, va, ff, w, R) := by
  obtain ⟨o, ho, eo⟩ := if_01 (zand (zshr pl x) 1 = 0)
  rw [f_M_readOrder_L0, chk_pos (by decide), if_pos rfl, chk_pos (by decide), if_pos rfl, bnd_eq hl, bnd_eq eo, bnd_eq (nd_f bg ff w o 4 hf ho), chk_pos (by show inR ff; omega), if_neg (by show ¬ ff = 0; omega), Option.bind_some, bnd_eq (takes_f k ps bg 2 va ff w T hf)]
  exact om_fault g pl u hi k ps bg 2 va ff w R T hf
theorem om_twice (g : Nat) (pl u hi k ps bg va wa x : Int) (R T : Nat → Int) (hl : f_M_looked bg 2 va 0 wa 0 4 = some (x, 0, wa)) (hb : ¬ zand (zshr pl x) 1 = 0) : f_M_readOrder_L0 (g + 2) pl u hi k ps bg 2 va 0 wa R T = some (pl, u, hi, ps, bg, 2, va, 4, bg, R) := by
  have eo : (if zand (zshr pl x) 1 = 0 then some (1 : Int) else some 0) = some 0 := if_neg hb
  rw [f_M_readOrder_L0, chk_pos (by decide), if_pos rfl, chk_pos (by decide), if_pos rfl, bnd_eq hl, bnd_eq eo, bnd_eq (nd_0 bg wa 4), chk_pos (by show inR 4; decide), if_neg (by show ¬ (4 : Int) = 0; decide), Option.bind_some, bnd_eq (takes_f k ps bg 2 va 4 bg T (by decide))]
  exact om_fault g pl u hi k ps bg 2 va 4 bg R T (by decide)
theorem om_ok (g : Nat) (u : Nat) (hu : u < 5) (pl hi k ps bg va wa x ps' bg' so' va' f' wa' : Int) (R T : Nat → Int) (hx : inR x) (hh : inR hi) (hl : f_M_looked bg 2 va 0 wa 0 4 = some (x, 0, wa)) (hb : zand (zshr pl x) 1 = 0) (ht : f_M_takes k ps bg 2 va 0 wa T = some (ps', bg', so', va', f', wa')) : f_M_readOrder_L0 (g + 1) pl u hi k ps bg 2 va 0 wa R T = f_M_readOrder_L0 g (zor pl (zshl 1 x)) ((u + 1 : Nat) : Int) (if x ≤ hi then hi else x) k ps' bg' so' va' f' wa' (upZ R u x) T := by
  have eo : (if zand (zshr pl x) 1 = 0 then some (1 : Int) else some 0) = some 1 := if_pos hb
  have ei : (if x ≤ hi then some (zor pl (zshl 1 x), (u : Int) + 1, hi, upZ R u x) else some (zor pl (zshl 1 x), (u : Int) + 1, x, upZ R u x)) = some (zor pl (zshl 1 x), (u : Int) + 1, (if x ≤ hi then hi else x), upZ R u x) := by
    split <;> rfl
  rw [f_M_readOrder_L0, chk_pos (by decide), if_pos rfl, chk_pos (by decide), if_pos rfl, bnd_eq hl, bnd_eq eo, bnd_eq (nd_1 bg wa 4), chk_pos (by show inR 0; decide), if_pos (by show (0 : Int) = 0; rfl), chk_pos (by omega), chk_pos hx, chk_pos hh, Int.toNat_natCast, bnd_eq ei, bnd_eq ht]
  rfl
/-! the class, step by step -/
theorem oc_bad (g u p : Nat) (hu : u ≤ 5) (tk tp nm : Int) (A : Nat → Int) (k : Nat) (B : Nat → Int) {ff w a b c d : Int} (ht : f_TextReader_takesToken 0 0 p tk tp nm k B = some (0, ff, w, a, b, c, d)) : f_TextReader_takesOrderLine_L24 (g + 1) u 1 0 0 p tk tp nm A k B u = some (0, (u : Int), 1, ff, w, a, b, c, d, A) := by
  rw [f_TextReader_takesOrderLine_L24, chk_pos (by omega), if_neg (by omega), bnd_eq ht, chk_pos (by show inR 0; decide), if_pos (by show (0 : Int) = 0; rfl)]
theorem oc_stop (g u p : Nat) (hu : u ≤ 5) (tk tp nm : Int) (A : Nat → Int) (k : Nat) (B : Nat → Int) {a c d : Int} (ht : f_TextReader_takesToken 0 0 p tk tp nm k B = some (1, 0, 0, a, 3, c, d)) : f_TextReader_takesOrderLine_L24 (g + 1) u 1 0 0 p tk tp nm A k B u = some (1, (u : Int), 1, 0, 0, a, 3, c, d, A) := by
  rw [f_TextReader_takesOrderLine_L24, chk_pos (by omega), if_neg (by omega), bnd_eq ht, chk_pos (by show inR 1; decide), if_neg (by show ¬ (1 : Int) = 0; decide), chk_pos (by show inR 3; decide), if_pos (by show (3 : Int) = 3; rfl)]
theorem oc_not (g u p : Nat) (hu : u ≤ 5) (tk tp nm : Int) (A : Nat → Int) (k : Nat) (B : Nat → Int) {a b c d ff w : Int} (ht : f_TextReader_takesToken 0 0 p tk tp nm k B = some (1, 0, 0, a, b, c, d)) (hb : inR b) (h3 : ¬ b = 3) (hn : f_TextReader_isNumberWithin 0 0 b c d 0 4 = some (0, ff, w)) : f_TextReader_takesOrderLine_L24 (g + 1) u 1 0 0 p tk tp nm A k B u = some (0, (u : Int), 1, ff, w, a, b, c, d, A) := by
  rw [f_TextReader_takesOrderLine_L24, chk_pos (by omega), if_neg (by omega), bnd_eq ht, chk_pos (by show inR 1; decide), if_neg (by show ¬ (1 : Int) = 0; decide), chk_pos (by show inR b; exact hb), if_neg (by show ¬ b = 3; exact h3), bnd_eq hn, chk_pos (by show inR 0; decide), if_pos (by show (0 : Int) = 0; rfl)]
theorem oc_twice (g u p : Nat) (hu : u ≤ 5) (tk tp nm : Int) (A : Nat → Int) (k : Nat) (B : Nat → Int) {a c d : Int} (ht : f_TextReader_takesToken 0 0 p tk tp nm k B = some (1, 0, 0, a, 2, c, d)) (hn : f_TextReader_isNumberWithin 0 0 2 c d 0 4 = some (1, 0, 0)) (ha : f_TextReader_isAhead u A d = some 1) : f_TextReader_takesOrderLine_L24 (g + 1) u 1 0 0 p tk tp nm A k B u = some (0, (u : Int), 1, 4, c, a, 2, c, d, A) := by
  have ef : f_TextReader_failed 0 0 4 c = some (0, 4, c) := rfl
  rw [f_TextReader_takesOrderLine_L24, chk_pos (by omega), if_neg (by omega), bnd_eq ht, chk_pos (by show inR 1; decide), if_neg (by show ¬ (1 : Int) = 0; decide), chk_pos (by show inR 2; decide), if_neg (by show ¬ (2 : Int) = 3; decide), bnd_eq hn, chk_pos (by show inR 1; decide), if_neg (by show ¬ (1 : Int) = 0; decide), bnd_eq ha, chk_pos (by decide), if_neg (by decide), bnd_eq ef, chk_pos (by show (0 : Int) = 0 ∨ (0 : Int) = 1; exact Or.inl rfl)]
theorem oc_ok (g u p : Nat) (hu : u < 5) (tk tp nm : Int) (A : Nat → Int) (k : Nat) (B : Nat → Int) {a c d : Int} (ht : f_TextReader_takesToken 0 0 p tk tp nm k B = some (1, 0, 0, a, 2, c, d)) (hn : f_TextReader_isNumberWithin 0 0 2 c d 0 4 = some (1, 0, 0)) (ha : f_TextReader_isAhead u A d = some 0) : f_TextReader_takesOrderLine_L24 (g + 1) u 1 0 0 p tk tp nm A k B u = f_TextReader_takesOrderLine_L24 g ((u + 1 : Nat) : Int) 1 0 0 a 2 c d (upZ A u d) k B ((u + 1 : Nat) : Int) := by
  rw [f_TextReader_takesOrderLine_L24, chk_pos (by omega), if_neg (by omega), bnd_eq ht, chk_pos (by show inR 1; decide), if_neg (by show ¬ (1 : Int) = 0; decide), chk_pos (by show inR 2; decide), if_neg (by show ¬ (2 : Int) = 3; decide), bnd_eq hn, chk_pos (by show inR 1; decide), if_neg (by show ¬ (1 : Int) = 0; decide), bnd_eq ha, chk_pos (by decide), if_pos rfl, chk_pos (by omega), if_pos (by omega), chk_pos (by omega), Int.toNat_natCast]
  rfl
/-! both -/
theorem ord_both {k : Nat} {B T : Nat → Int} (h : RT k B T) : ∀ (g1 g2 u p : Nat) (A R : Nat → Int) (pl hi ps bg so va f wa tk tp nm : Int), 5 < u + g1 → 6 < u + g2 → p ≤ k → OR u A R pl hi → MT k B p ps bg so va f wa →
    (∃ ff w, FW k ff w ∧ (∃ u' a b c d A', f_TextReader_takesOrderLine_L24 g1 u 1 0 0 p tk tp nm A k B u = some (0, u', 1, ff, w, a, b, c, d, A')) ∧ (∃ pl' pm' hi' ps' bg' so' va' R', f_M_readOrder_L0 g2 pl u hi k ps bg so va f wa R T = some (pl', pm', hi', ps', bg', so', va', ff, w, R')))
    ∨ (∃ (u' : Nat) (A' R' : Nat → Int) (pl' hi' : Int) (p' : Nat) (ps' bg' so' va' wa' : Int), p ≤ p' ∧ p' ≤ k ∧ OR u' A' R' pl' hi' ∧ ¬ tBad k B (tS k B p') ∧ MT k B p' ps' bg' so' va' 0 wa' ∧ f_M_readOrder_L0 g2 pl u hi k ps bg so va f wa R T = some (pl', (u' : Int), hi', ps', bg', so', va', 0, wa', R') ∧
      ((tK k B (tS k B p') = 3 ∧ ∃ c d, f_TextReader_takesOrderLine_L24 g1 u 1 0 0 p tk tp nm A k B u = some (1, (u' : Int), 1, 0, 0, ((tX k B (tS k B p') : Nat) : Int), 3, c, d, A')) ∨
       (¬ tK k B (tS k B p') = 3 ∧ ∃ a b c d, f_TextReader_takesOrderLine_L24 g1 u 1 0 0 p tk tp nm A k B u = some (0, (u' : Int), 1, 2, ((tS k B p' : Nat) : Int), a, b, c, d, A')))) := by
  intro g1
  induction g1 with
  | zero =>
    intro g2 u p A R pl hi ps bg so va f wa tk tp nm h1 h2 hp hO hM
    have := hO.1
    omega
  | succ g1 ih =>
    intro g2 u p A R pl hi ps bg so va f wa tk tp nm h1 h2 hp hO hM
    have hu := hO.1
    have hs := tS_bd B hp
    obtain ⟨g2, rfl⟩ : ∃ g, g2 = g + 2 := ⟨g2 - 2, by omega⟩
    rcases hM with ⟨m1, m2, m3, m4, m5, m6⟩ | ⟨m1, m2, m3⟩
    · subst m2 m3 m4 m6
      have hKb := tK_bd k B (tS k B p)
      have hX := tX_bd (B := B) hs.2
      rcases tok_c h hp 0 0 tk tp nm with ⟨_, hc⟩ | ⟨hc, _⟩
      · by_cases c : tK k B (tS k B p) = 2
        · have hv := tV_bd m1 c
          have hgo := tX_go (tK_num m1 c).1 m1
          have e5 := m5 c
          subst e5
          have hc : f_TextReader_takesToken 0 0 p tk tp nm k B = some (1, 0, 0, ((tX k B (tS k B p) : Nat) : Int), 2, ((tS k B p : Nat) : Int), tV k B (tS k B p)) := by
            rw [hc, c, if_pos rfl]; rfl
          have el := looked_eq ((tS k B p : Nat) : Int) 2 (tV k B (tS k B p)) wa 0 4 (by decide) (by omega) (by decide) (by decide)
          have en := numIn_eq 0 0 2 ((tS k B p : Nat) : Int) (tV k B (tS k B p)) 0 4 (by decide) (by omega) (by decide) (by decide)
          rw [if_pos rfl] at el en
          rw [c]
          by_cases d : 0 ≤ tV k B (tS k B p) ∧ tV k B (tS k B p) ≤ 4
          · rw [if_pos d] at el en
            have hbit := hO.2.2.2.2.1 (tV k B (tS k B p)).toNat (by omega)
            rw [show (((tV k B (tS k B p)).toNat : Nat) : Int) = tV k B (tS k B p) by omega] at hbit
            rcases ahead_c hu (A := A) (fun i hi => by have := hO.2.1 i hi; omega) (b := tV k B (tS k B p)) (by omega) with ⟨⟨j, hj, ej⟩, ha⟩ | ⟨hn, ha⟩
            · left
              refine ⟨4, ((tS k B p : Nat) : Int), ⟨by decide, by omega, by omega⟩, ⟨_, _, _, _, _, _, oc_twice g1 u p hu tk tp nm A k B hc en ha⟩, ⟨_, _, _, _, _, _, _, _, om_twice g2 pl u hi k _ _ _ wa _ R T el (fun q => hbit.mp q j hj ej)⟩⟩
            · have hu5 := hO.room d hn
              obtain ⟨ps', bg', so', va', f', wa', e1, e2⟩ := mt_takes h hX.2 ((tS k B p : Nat) : Int) 2 (tV k B (tS k B p)) wa
              have hhi : inR hi := by
                rcases hO.2.2.2.2.2.2 with q | ⟨i, hi', q⟩
                · omega
                · have := hO.2.1 i hi'; omega
              rw [oc_ok g1 u p hu5 tk tp nm A k B hc en ha, om_ok (g2 + 1) u hu5 pl hi k _ _ _ wa _ ps' bg' so' va' f' wa' R T (by omega) hhi el (hbit.mpr hn) e1]
              rcases ih (g2 + 1) (u + 1) (tX k B (tS k B p)) _ _ _ _ ps' bg' so' va' f' wa' 2 _ _ (by omega) (by omega) hX.2 (hO.add hu5 d hn) e2 with r | ⟨u', A', R', pl', hi', p', ps2, bg2, so2, va2, wa2, r1, r2⟩
              · exact Or.inl r
              · exact Or.inr ⟨u', A', R', pl', hi', p', ps2, bg2, so2, va2, wa2, by omega, r2⟩
          · rw [if_neg d] at el en
            left
            exact ⟨3, ((tS k B p : Nat) : Int), ⟨by decide, by omega, by omega⟩, ⟨_, _, _, _, _, _, oc_not g1 u p hu tk tp nm A k B hc (by decide) (by decide) en⟩, ⟨_, _, _, _, _, _, _, _, om_bad g2 pl u hi k _ _ _ wa _ 3 _ R T (by decide) el⟩⟩
        · right
          refine ⟨u, A, R, pl, hi, p, _, _, _, _, _, Nat.le_refl p, hp, hO, m1, Or.inl ⟨m1, rfl, rfl, rfl, m5, rfl⟩, om_end (g2 + 1) pl u hi k _ _ _ va wa R T (by omega) c, ?_⟩
          by_cases d : tK k B (tS k B p) = 3
          · left
            have hc : f_TextReader_takesToken 0 0 p tk tp nm k B = some (1, 0, 0, ((tX k B (tS k B p) : Nat) : Int), 3, ((tS k B p : Nat) : Int), nm) := by
              rw [hc, d, if_neg (by decide)]
            exact ⟨d, _, _, oc_stop g1 u p hu tk tp nm A k B hc⟩
          · right
            exact ⟨d, _, _, _, _, oc_not g1 u p hu tk tp nm A k B hc (by omega) d (numIn_n _ _ _ _ _ _ _ (by omega) c)⟩
      · exact absurd hc m1
    · subst m2 m3
      left
      rcases tok_c h hp 0 0 tk tp nm with ⟨hc, _⟩ | ⟨_, nx, nm', hc⟩
      · exact absurd m1 hc
      · exact ⟨1, ((tS k B p : Nat) : Int), ⟨by decide, by omega, by omega⟩, ⟨_, _, _, _, _, _, oc_bad g1 u p hu tk tp nm A k B hc⟩, ⟨_, _, _, _, _, _, _, _, om_fault (g2 + 1) pl u hi k ps bg so va 1 _ R T (by decide)⟩⟩
