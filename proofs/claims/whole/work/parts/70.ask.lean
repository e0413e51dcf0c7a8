/-! ===== ask ===== -/
theorem lupX {α β : Type} (L : Nat → β → Int → Option α) (n : Nat) (I : Nat → β → Prop) (R : α → Prop)
    (hs : ∀ (f i : Nat) (b : β), i < n → I i b → (∃ c, L (f + 1) b (i : Int) = L f c ((i : Int) + 1) ∧ I (i + 1) c) ∨ ∃ r, L (f + 1) b (i : Int) = some r ∧ R r)
    (he : ∀ (f : Nat) (b : β), I n b → ∃ r, L (f + 1) b (n : Int) = some r ∧ R r) :
    ∀ (k i : Nat) (b : β) (f : Nat), i + k = n → k < f → I i b → ∃ r, L f b (i : Int) = some r ∧ R r := by
  intro k
  induction k with
  | zero =>
    intro i b f hi hf hI
    obtain ⟨g, rfl⟩ : ∃ g, f = g + 1 := ⟨f - 1, by omega⟩
    obtain rfl : i = n := by omega
    exact he g b hI
  | succ k ih =>
    intro i b f hi hf hI
    obtain ⟨g, rfl⟩ : ∃ g, f = g + 1 := ⟨f - 1, by omega⟩
    rcases hs g i b (by omega) hI with ⟨c, e, hI'⟩ | h
    · rw [e]
      exact ih (i + 1) c g (by omega) (by omega) hI'
    · exact h
/-- which starts are as seen -/
abbrev pS (F P : Nat → Int) (n k : Nat) (H O R : Nat → Int) : Nat → Bool := fun h => agr (agC F P (h : Nat) n H O R) k
theorem startsSeen_eq {n : Nat} {st : Int} {F P : Nat → Int} (hV : VS n F P st) {k : Nat} {H O R S : Nat → Int} (hQ : RQ k H O R S) : ∃ s', f_Search_startsAsSeen_L13 5000 n st F P k H O R 0 0 = some (sMask (pS F P n k H O R) 24, s') := by
  obtain ⟨r, e1, e2⟩ := lupE (fun fuel (c : Int × Int) i => f_Search_startsAsSeen_L13 fuel n c.1 F P k H O R c.2 i) 24 (fun i c => c.2 = sMask (pS F P n k H O R) i) (fun r => r.1 = sMask (pS F P n k H O R) 24)
    (fun f i c hi hI => by
      have hVi := hV.st (i := i) (by omega)
      have ea := agree_eq hVi hQ
      refine ⟨((i : Int), if pS F P n k H O R i = true then zor c.2 (zshl 1 i) else c.2), ?_, by show (if pS F P n k H O R i = true then zor c.2 (zshl 1 i) else c.2) = sMask _ (i + 1); rw [hI]; rfl⟩
      show f_Search_startsAsSeen_L13 (f + 1) n c.1 F P k H O R c.2 i = _
      rw [f_Search_startsAsSeen_L13, chk_pos (by omega), if_neg (by omega), bnd_eq (setStart_eq _ _), bnd_eq ea]
      by_cases q : agr (agC F P (i : Nat) n H O R) k = true
      · rw [if_pos q, chk_pos (by decide), if_neg (by decide), if_pos q]
      · rw [if_neg q, chk_pos (by decide), if_pos rfl, if_neg q])
    (fun f c hI => by
      refine ⟨(c.2, c.1), ?_, hI⟩
      show f_Search_startsAsSeen_L13 (f + 1) n c.1 F P k H O R c.2 ((24 : Nat) : Int) = _
      rw [f_Search_startsAsSeen_L13, chk_pos (by decide), if_pos (by decide)])
    24 0 (st, 0) 5000 (by omega) (by omega) rfl
  exact ⟨r.2, e1.trans (congrArg some (Prod.ext e2 rfl))⟩
/-- the most of a row -/
def mxT (f : Nat → Int) : Nat → Int
  | 0 => 0
  | t + 1 => if f t ≤ mxT f t then mxT f t else f t
theorem mxT_nn (f : Nat → Int) : ∀ T, 0 ≤ mxT f T
  | 0 => Int.le_refl 0
  | T + 1 => by have := mxT_nn f T; show 0 ≤ (if f T ≤ mxT f T then mxT f T else f T); split <;> omega
theorem mxT_ge (f : Nat → Int) : ∀ (T t : Nat), t < T → f t ≤ mxT f T
  | T + 1, t, h => by
    show f t ≤ (if f T ≤ mxT f T then mxT f T else f T)
    by_cases e : t = T
    · subst e; split <;> omega
    · have := mxT_ge f T t (by omega)
      split <;> omega
theorem mxT_le (f : Nat → Int) (c : Int) (hc : 0 ≤ c) : ∀ T : Nat, (∀ t, t < T → f t ≤ c) → mxT f T ≤ c
  | 0, _ => hc
  | T + 1, h => by
    have h1 := mxT_le f c hc T (fun t ht => h t (by omega))
    have h2 := h T (by omega)
    show (if f T ≤ mxT f T then mxT f T else f T) ≤ c
    split <;> omega
theorem mxT_eq {f g : Nat → Int} {T t : Nat} (ht : t < T) (h0 : g t = f t + 1) (h1 : ∀ i, i < T → i ≠ t → g i = f i) : mxT g T = if mxT f T < g t then g t else mxT f T := by
  have a1 := mxT_ge f T t ht
  have hu : mxT g T ≤ (if mxT f T < g t then g t else mxT f T) := by
    refine mxT_le g _ (by have := mxT_nn f T; split <;> omega) T (fun i hi => ?_)
    by_cases e : i = t
    · subst e; split <;> omega
    · have := mxT_ge f T i hi
      rw [h1 i hi e]
      split <;> omega
  have hl : mxT f T ≤ mxT g T := by
    refine mxT_le f _ (mxT_nn g T) T (fun i hi => ?_)
    have := mxT_ge g T i hi
    by_cases e : i = t
    · subst e; omega
    · rw [← h1 i hi e]; exact this
  have h2 := mxT_ge g T t ht
  split
  · rename_i c; rw [if_pos c] at hu; omega
  · rename_i c; rw [if_neg c] at hu; omega
theorem mxT_cong {f g : Nat → Int} : ∀ {T : Nat}, (∀ i, i < T → f i = g i) → mxT f T = mxT g T
  | 0, _ => rfl
  | T + 1, h => by
    show (if f T ≤ mxT f T then mxT f T else f T) = (if g T ≤ mxT g T then mxT g T else g T)
    rw [mxT_cong (fun i hi => h i (by omega)), h T (by omega)]
/-- how many starts tell t there -/
def cnT (p : Nat → Bool) (τ : Nat → Int) (h : Nat) : Nat → Int := fun t => (fb_ct (fun i => p i && decide (τ i = (t : Int))) h : Int)
theorem cnT_no {p : Nat → Bool} {τ : Nat → Int} {h : Nat} (c : p h = false) (t : Nat) : cnT p τ (h + 1) t = cnT p τ h t := by
  unfold cnT
  rw [fb_ct_succ, c, Bool.false_and]; rfl
theorem cnT_yes {p : Nat → Bool} {τ : Nat → Int} {h : Nat} (c : p h = true) (t : Nat) : cnT p τ (h + 1) t = cnT p τ h t + (if τ h = (t : Int) then 1 else 0) := by
  unfold cnT
  rw [fb_ct_succ, c, Bool.true_and]
  by_cases q : τ h = (t : Int)
  · rw [if_pos q, decide_eq_true q]; rfl
  · rw [if_neg q, decide_eq_false q]; rfl
def mxS (p : Nat → Bool) (τ : Nat → Int) : Int := mxT (cnT p τ 24) 24
theorem mxS_bd (p : Nat → Bool) (τ : Nat → Int) : 0 ≤ mxS p τ ∧ mxS p τ ≤ (fb_ct p 24 : Int) := by
  refine ⟨mxT_nn _ _, mxT_le _ _ (by omega) 24 (fun t _ => ?_)⟩
  unfold cnT
  have := fb_ct_sub (p := fun i => p i && decide (τ i = (t : Int))) (q := p) (n := 24) (fun k _ hk => by
    rw [Bool.and_eq_true] at hk; exact hk.1)
  omega
theorem mxS_pos (p : Nat → Bool) (τ : Nat → Int) (hτ : ∀ i, i < 24 → 0 ≤ τ i ∧ τ i ≤ 23) (h : 0 < fb_ct p 24) : 1 ≤ mxS p τ := by
  obtain ⟨i, hi, hp⟩ := fb_ct_pos.mp h
  have ht := hτ i hi
  have h1 := mxT_ge (cnT p τ 24) 24 (τ i).toNat (by omega)
  have h2 : 0 < fb_ct (fun j => p j && decide (τ j = (((τ i).toNat : Nat) : Int))) 24 := fb_ct_pos.mpr ⟨i, hi, by rw [Bool.and_eq_true, decide_eq_true_eq]; exact ⟨hp, by omega⟩⟩
  unfold mxS
  unfold cnT at h1 ⊢
  omega
theorem mxS_const (p : Nat → Bool) (x : Nat) (hx : x < 24) : mxS p (fun _ => (x : Int)) = (fb_ct p 24 : Int) := by
  have h1 := mxS_bd p (fun _ => (x : Int))
  have h2 := mxT_ge (cnT p (fun _ => (x : Int)) 24) 24 x hx
  have h3 : cnT p (fun _ => (x : Int)) 24 x = (fb_ct p 24 : Int) := by
    unfold cnT
    rw [fb_ct_cong (q := p) (fun k _ => by rw [decide_eq_true rfl, Bool.and_true])]
  unfold mxS at h1 ⊢
  omega
/-- the class: what a look leaves at most -/
theorem mostLeft_eq {n : Nat} {st : Int} {F P : Nat → Int} (hV : VS n F P st) (p : Nat → Bool) (r x : Nat) (hr : r < 5) (hx : x < 24) (sl : Nat → Int) : ∃ s' sl', f_Search_mostLeft n st F P sl r x (sMask p 24) = some (mxS p (fun h => sTold F P (h : Nat) n r x), s', sl') ∧ VS n F P s' := by
  have hn := hV.1
  have hw := sWin_bd (F := F) (r := r) (h := x) n
  unfold f_Search_mostLeft
  rw [bnd_eq (boxAt_eq hV r x (by omega) (by omega)), chk_pos (by omega)]
  by_cases c : sWin F r x n = -4
  · rw [if_pos c, bnd_eq (bitCount_eq p)]
    have e : mxS p (fun h => sTold F P (h : Nat) n r x) = mxS p (fun _ => (x : Int)) := by
      refine mxT_cong (fun t _ => ?_)
      unfold cnT
      refine congrArg Int.ofNat (fb_ct_cong (fun k _ => ?_))
      show (p k && decide (sTold F P (k : Nat) n r x = (t : Int))) = (p k && decide ((x : Int) = (t : Int)))
      unfold sTold
      rw [if_pos c]
    rw [e, mxS_const p x hx]
    exact ⟨st, sl, rfl, hV⟩
  · rw [if_neg c]
    have hz := lup0 (fun fuel (b : Nat → Int) i => f_Search_mostLeft_L29 fuel b i) 24 (fun i b => upZ b i 0) some (fun i b => ∀ j, j < i → b j = 0)
      (fun fuel i b hi hI => ⟨by
        show f_Search_mostLeft_L29 (fuel + 1) b i = _
        rw [f_Search_mostLeft_L29, Int.toNat_natCast]
        simp (disch := omega) only [chk_pos, if_neg], fun j hj => by
        by_cases c : j = i
        · subst c; exact upZ_same _ _ _
        · show upZ b i _ j = _
          rw [upZ_ne _ _ c]; exact hI j (by omega)⟩)
      (fun fuel b _ => by
        show f_Search_mostLeft_L29 (fuel + 1) b ((24 : Nat) : Int) = _
        rw [f_Search_mostLeft_L29, chk_pos (by decide), if_pos (by decide)]) sl 5000 (by omega) (fun j hj => by omega)
    rw [bnd_eq hz.1]
    obtain ⟨z, hz1, hz2⟩ : ∃ z, z = itr (fun i (b : Nat → Int) => upZ b i 0) 0 24 sl ∧ ∀ j, j < 24 → z j = 0 := ⟨_, rfl, hz.2⟩
    rw [← hz1]
    have ht : ∀ h : Nat, h < 24 → f_Shop_oclockBy n h F P (sWin F r x n) x = some (sTold F P (h : Nat) n r x) := fun h hh => by
      have e := oclockBy_eq (hV.st (i := h) (by omega)) (sWin F r x n) x (by omega) (by omega)
      rw [e]
      unfold sTold
      rw [if_neg c]
    obtain ⟨q, e1, e2, e3⟩ := lupE (fun fuel (c : Int × (Nat → Int) × Int) i => f_Search_mostLeft_L53 fuel n c.1 F P c.2.1 x (sMask p 24) (sWin F r x n) c.2.2 i) 24
      (fun i c => VS n F P c.1 ∧ (∀ t, t < 24 → c.2.1 t = cnT p (fun h => sTold F P (h : Nat) n r x) i t) ∧ c.2.2 = mxT (cnT p (fun h => sTold F P (h : Nat) n r x) i) 24) (fun q => VS n F P q.2.1 ∧ q.1 = mxS p (fun h => sTold F P (h : Nat) n r x))
      (fun f i c hi hI => by
        obtain ⟨i1, i2, i3⟩ := hI
        have hb : zand (zshr (sMask p 24) i) 1 = if p i = true then 1 else 0 := by
          rw [sMask_nat p 24 (by omega), bit_nat _ i (by have := nMask_lt p 24; omega) (by omega), nMask_bit p i 24 hi]
          split <;> rfl
        have hc : mxT (cnT p (fun h => sTold F P (h : Nat) n r x) i) 24 ≤ 24 := mxT_le _ _ (by omega) 24 (fun t _ => by
          unfold cnT
          have h1 : fb_ct (fun j => p j && decide ((fun h : Nat => sTold F P (h : Nat) n r x) j = (t : Int))) i ≤ i := fb_ct_le _ i
          omega)
        have hc0 := mxT_nn (cnT p (fun h => sTold F P (h : Nat) n r x) i) 24
        by_cases q : p i = true
        · have hbd := sTold_bd (F := F) (P := P) (st := (i : Int)) (n := n) r x (by omega)
          obtain ⟨t, et⟩ : ∃ t : Nat, sTold F P (i : Nat) n r x = t := ⟨(sTold F P (i : Nat) n r x).toNat, by omega⟩
          have hct : 0 ≤ cnT p (fun h => sTold F P (h : Nat) n r x) i t ∧ cnT p (fun h => sTold F P (h : Nat) n r x) i t ≤ 24 := ⟨by unfold cnT; omega, by
            have := mxT_ge (cnT p (fun h => sTold F P (h : Nat) n r x) i) 24 t (by omega)
            omega⟩
          have hup : ∀ u, u < 24 → upZ c.2.1 t (c.2.1 t + 1) u = cnT p (fun h => sTold F P (h : Nat) n r x) (i + 1) u := fun u hu => by
            rw [cnT_yes q]
            by_cases e : u = t
            · subst e; rw [upZ_same, i2 u hu, if_pos et]
            · rw [upZ_ne _ _ e, i2 u hu, if_neg (by rw [et]; omega), Int.add_zero]
          have hmx := mxT_eq (f := cnT p (fun h => sTold F P (h : Nat) n r x) i) (g := cnT p (fun h => sTold F P (h : Nat) n r x) (i + 1)) (T := 24) (t := t) (by omega) (by rw [cnT_yes q, if_pos et]) (fun j _ hj => by rw [cnT_yes q, if_neg (by rw [et]; omega), Int.add_zero])
          have hct1 : cnT p (fun h => sTold F P (h : Nat) n r x) (i + 1) t = cnT p (fun h => sTold F P (h : Nat) n r x) i t + 1 := by rw [cnT_yes q, if_pos et]
          refine ⟨((i : Int), upZ c.2.1 t (c.2.1 t + 1), mxT (cnT p (fun h => sTold F P (h : Nat) n r x) (i + 1)) 24), ?_, hV.st (by omega), hup, rfl⟩
          show f_Search_mostLeft_L53 (f + 1) n c.1 F P c.2.1 x (sMask p 24) (sWin F r x n) c.2.2 i = _
          have hh := hour_eq (t : Int) (by omega)
          have eo := ht i hi
          rw [et] at eo
          rw [f_Search_mostLeft_L53, chk_pos (by omega), if_neg (by omega), hb, if_pos q, if_pos rfl, bnd_eq (setStart_eq _ _), bnd_eq eo, gb hh, if_pos (by omega), chk_pos (by omega), Int.toNat_natCast, hup t (by omega), i3, chk_pos (by omega), chk_pos (by omega), ← hmx]
        · have q0 : p i = false := by cases e : p i with
            | false => rfl
            | true => exact absurd e q
          refine ⟨(c.1, c.2.1, c.2.2), ?_, i1, fun t h => by rw [cnT_no q0]; exact i2 t h, by show c.2.2 = _; rw [i3]; exact mxT_cong (fun t _ => (cnT_no q0 t).symm)⟩
          show f_Search_mostLeft_L53 (f + 1) n c.1 F P c.2.1 x (sMask p 24) (sWin F r x n) c.2.2 i = _
          rw [f_Search_mostLeft_L53, chk_pos (by omega), if_neg (by omega), hb, if_neg q, if_neg (by decide)])
      (fun f c hI => by
        refine ⟨(c.2.2, c.1, c.2.1), ?_, hI.1, hI.2.2⟩
        show f_Search_mostLeft_L53 (f + 1) n c.1 F P c.2.1 x (sMask p 24) (sWin F r x n) c.2.2 ((24 : Nat) : Int) = _
        rw [f_Search_mostLeft_L53, chk_pos (by decide), if_pos (by decide)])
      24 0 (st, z, 0) 5000 (by omega) (by omega) ⟨hV, fun t ht => by show z t = _; rw [hz2 t ht]; rfl, by
        have := mxT_le (cnT p (fun h => sTold F P (h : Nat) n r x) 0) 0 (by omega) 24 (fun t _ => by unfold cnT; exact Int.le_refl 0)
        have h2 := mxT_nn (cnT p (fun h => sTold F P (h : Nat) n r x) 0) 24
        show (0 : Int) = mxT _ 24
        omega⟩
    have e1 : f_Search_mostLeft_L53 5000 n st F P z x (sMask p 24) (sWin F r x n) 0 0 = some q := e1
    rw [bnd_eq e1]
    exact ⟨q.2.1, q.2.2, by rw [e3], e2⟩
