/-! ===== feed, end, rule, box, order, alter, start, change, sew ===== -/
theorem gb {α : Type} {x : Option Int} {c : Prop} [Decidable c] {A B : Option α} (h : x = some (if c then 1 else 0)) : Option.bind x (fun o => chk (inR o) (if o = 0 then A else B)) = if c then B else A := by
  rw [h, Option.bind_some]
  by_cases c0 : c
  · rw [if_pos c0, if_pos c0, chk_pos (by decide), if_neg (by decide)]
  · rw [if_neg c0, if_neg c0, chk_pos (by decide), if_pos rfl]
theorem fact_bd {n : Nat} {F P : Nat → Int} {st : Int} (hV : VS n F P st) (b w : Nat) (hb : b < n) (hw : w < 6) : 0 ≤ F (6 * b + w) ∧ F (6 * b + w) ≤ 23 := by
  have h := hV.2.2.1 b hb
  unfold VK at h
  rcases (show w = 0 ∨ w = 1 ∨ w = 2 ∨ w = 3 ∨ w = 4 ∨ w = 5 by omega) with rfl | rfl | rfl | rfl | rfl | rfl
  · rw [Nat.add_zero]; omega
  all_goals omega
theorem place_eq {n : Nat} {F P : Nat → Int} {st : Int} (hV : VS n F P st) (x : Int) (hx : 0 ≤ x ∧ x < n) : f_Shop_placeOf n P x = some ((sPl P n x.toNat : Nat) : Int) := by
  have hn := hV.1
  unfold f_Shop_placeOf
  have hs := sPl_spec hV (b := x.toNat) (by omega)
  have h := lfnd (fun fuel i => f_Shop_placeOf_L2 fuel n P x i) n (fun i => decide (P i = ((x.toNat : Nat) : Int))) (fun i => (i : Int)) (-4)
    (fun fuel i hi => by
      have hp := hV.2.2.2.1 i hi
      show f_Shop_placeOf_L2 (fuel + 1) n P x i = _
      rw [f_Shop_placeOf_L2, Int.toNat_natCast, chk_pos (by omega), chk_pos (by omega), if_neg (by omega), chk_pos (by omega), chk_pos (by omega), chk_pos (by omega)]
      by_cases c : P i = x
      · rw [if_pos c, if_pos (by rw [decide_eq_true_eq]; omega)]
      · rw [if_neg c, if_neg (by rw [decide_eq_true_eq]; omega)])
    (fun fuel => by
      show f_Shop_placeOf_L2 (fuel + 1) n P x n = _
      rw [f_Shop_placeOf_L2, chk_pos (by omega), chk_pos (by omega), if_pos (by omega)])
    n 0 5000 (by omega) (by omega)
  refine Eq.trans h ?_
  refine congrArg some (fnd_at n 0 (sPl P n x.toNat) (by omega) (by omega) (by rw [decide_eq_true_eq]; exact hs.2) (fun m h0 hm => ?_))
  rw [decide_eq_false_iff_not]
  intro e
  have := hV.2.2.2.2 m (sPl P n x.toNat) (by omega) hs.1 (by rw [e, hs.2])
  omega
theorem factNo_eq {n : Nat} {F : Nat → Int} (hn : n ≤ 5) (b w : Int) (hb : 0 ≤ b ∧ b < n) (hw : inR w) (h : ¬ (0 ≤ w ∧ w ≤ 5)) : f_Shop_fact n F b w = some (-1) := by
  unfold f_Shop_fact chk
  grind
def RT (k : Nat) (B T : Nat → Int) : Prop := k ≤ 160 ∧ ∀ i, i < k → B i = T i ∧ 0 ≤ B i ∧ B i ≤ 127
theorem z8_id : ∀ x : Int, 0 ≤ x → x ≤ 127 → z8 (z8 x) = x := by
  have h : ∀ x : Fin 128, z8 (z8 (x.val : Int)) = x.val := by decide +kernel
  intro x h0 h1
  have := h ⟨x.toNat, by omega⟩
  dsimp only at this
  rw [Int.toNat_of_nonneg h0] at this
  exact this
theorem p_feed {k : Nat} {B T : Nat → Int} (h : RT k B T) (x : Int) (hx : inR x) : ∃ (v : Int) (k' : Nat) (B' T' : Nat → Int), inR v ∧ f_HH_feed k B x = some (v, (k' : Int), B') ∧ f_M_feed k T x = some (v, (k' : Int), T') ∧ RT k' B' T' := by
  have hk := h.1
  unfold f_HH_feed f_M_feed
  rw [chk_pos (by omega), gb (within_eq x 0 127 hx (by decide) (by decide)), gb (in_eq x 0 127 (inL_of hx) (by decide) (by decide))]
  by_cases c : 0 ≤ x ∧ x ≤ 127
  · rw [if_pos c, if_pos c]
    have hf : f_Tape_isFull (k : Int) = some (if 160 ≤ (k : Int) then 1 else 0) := by
      unfold f_Tape_isFull
      rw [chk_pos (by omega)]
      by_cases q : (k : Int) < 160
      · rw [if_pos q, if_neg (by omega)]
      · rw [if_neg q, if_pos (by omega)]
    rw [gb hf, chk_pos (by omega)]
    by_cases q : (160 : Int) ≤ k
    · rw [if_pos q, if_pos (by omega)]
      exact ⟨-3, k, B, T, by decide, rfl, rfl, h⟩
    · rw [if_neg q, if_neg (by omega), chk_pos (by omega)]
      unfold f_Tape_append f_Tape_size
      rw [gb hf, if_neg q, chk_pos (by omega), z8_id x c.1 c.2, Int.toNat_natCast]
      refine ⟨(k : Int) + 1, k + 1, upZ B k x, upZ T k x, by omega, rfl, rfl, by omega, fun i hi => ?_⟩
      by_cases e : i = k
      · subst e; rw [upZ_same, upZ_same]; omega
      · rw [upZ_ne _ _ e, upZ_ne _ _ e]; exact h.2 i (by omega)
  · rw [if_neg c, if_neg c]
    exact ⟨-1, k, B, T, by decide, rfl, rfl, h⟩
theorem p_end {k : Nat} {B T : Nat → Int} (h : RT k B T) (x : Int) (hx : inR x) : ∃ (v : Int) (k' : Nat), inR v ∧ f_HH_end k x = some (v, (k' : Int)) ∧ f_M_end k x = some (v, (k' : Int)) ∧ RT k' B T := by
  have hk := h.1
  unfold f_HH_end f_M_end f_Tape_size
  rw [chk_pos (by omega), chk_pos (by omega), gb (in_eq x 0 k (inL_of hx) (by decide) (by constructor <;> omega)), Option.bind_some, gb (within_eq x 0 k hx (by decide) (by omega))]
  by_cases c : 0 ≤ x ∧ x ≤ (k : Int)
  · rw [if_pos c, if_pos c]
    unfold f_Tape_cut
    rw [gb (within_eq x 0 k hx (by decide) (by omega)), if_pos c]
    refine ⟨k, x.toNat, by omega, ?_, ?_, by omega, fun i hi => h.2 i (by omega)⟩
    · rw [Int.toNat_of_nonneg c.1]; rfl
    · rw [Int.toNat_of_nonneg c.1]
  · rw [if_neg c, if_neg c]
    exact ⟨-1, k, by decide, rfl, rfl, h⟩
theorem p_box {n : Nat} {st : Int} {F P S : Nat → Int} (h : RS n st F P S) (x w : Int) (hx : inR x) (hw : inR w) (N : Nat → Int) : ∃ v N', inR v ∧ f_HH_box n st F P x w = some v ∧ f_M_box N S x w = some (v, N') := by
  have hV := h.1
  have hn := hV.1
  unfold f_HH_box f_M_box
  rw [gb (has_eq hn x hx), gb (mbox_eq h.2.2.1 hn x hx)]
  by_cases c : 0 ≤ x ∧ x < (n : Int)
  · rw [if_pos c, if_pos c, chk_pos (by omega), chk_pos (by omega), gb (in_eq w 0 9 (inL_of hw) (by decide) (by decide))]
    obtain ⟨N', h1, h2⟩ := fetch_eq N S
    have hN := h.rn h2
    have hs := sPl_spec hV (b := x.toNat) (by omega)
    have hk := hV.2.2.1 x.toNat (by omega)
    have ho := sOwn_bd (F := F) (P := P) (st := st) (n := n) (b := x.toNat)
    by_cases c6 : w = 6
    · subst c6
      rw [if_pos rfl, if_pos (by decide), bnd_eq h1, if_pos rfl, bnd_eq (fact0 hn x c), bnd_eq (lastsOf_eq _ hk.1), bnd_eq (hN.lasts x c)]
      have hl := sLa_bd F x.toNat
      exact ⟨sLa F x.toNat, _, by omega, rfl, rfl⟩
    by_cases c7 : w = 7
    · subst c7
      rw [if_neg (by decide), if_pos rfl, if_pos (by decide), bnd_eq h1, if_neg (by decide), if_pos rfl, bnd_eq (own_eq hV x c), bnd_eq (hN.own x c)]
      exact ⟨_, _, by omega, rfl, rfl⟩
    by_cases c8 : w = 8
    · subst c8
      rw [if_neg (by decide), if_neg (by decide), if_pos rfl, if_pos (by decide), bnd_eq h1, if_neg (by decide), if_neg (by decide), if_pos rfl, bnd_eq (own_eq hV x c), bnd_eq (wrongOf_eq hV x _ c (by omega)), bnd_eq (hN.wrong x c)]
      refine ⟨_, _, ?_, rfl, rfl⟩
      have hd : ∀ d : Int, 0 ≤ dst (d % 24) ∧ dst (d % 24) ≤ 12 := fun d => by unfold dst; split <;> omega
      have h1 := hd (sOwn F P st n x.toNat - F (6 * x.toNat + 2))
      unfold sWr
      have h3 := hk.2.2.2.1
      have h4 : 0 ≤ F (6 * x.toNat + 3) * dst ((sOwn F P st n x.toNat - F (6 * x.toNat + 2)) % 24) := Int.mul_nonneg (by omega) h1.1
      have h5 : F (6 * x.toNat + 3) * dst ((sOwn F P st n x.toNat - F (6 * x.toNat + 2)) % 24) ≤ 9 * 12 := Int.mul_le_mul (by omega) h1.2 h1.1 (by decide)
      omega
    by_cases c9 : w = 9
    · subst c9
      rw [if_neg (by decide), if_neg (by decide), if_neg (by decide), if_pos rfl, if_pos (by decide), bnd_eq h1, if_neg (by decide), if_neg (by decide), if_neg (by decide), if_pos rfl, bnd_eq (hN.place x c)]
      have hp : f_Shop_placeOf n P x = some ((sPl P n x.toNat : Nat) : Int) := place_eq hV x c
      rw [bnd_eq hp]
      exact ⟨_, _, by omega, rfl, rfl⟩
    rw [if_neg c6, if_neg c7, if_neg c8, if_neg c9]
    by_cases c5 : 0 ≤ w ∧ w ≤ 5
    · rw [if_pos (by omega), bnd_eq h1, if_neg c6, if_neg c7, if_neg c8, if_neg c9, bnd_eq (fact_eq hn x w c c5), bnd_eq (hN.of x w c c5)]
      have hb := fact_bd hV x.toNat w.toNat (by omega) (by omega)
      exact ⟨_, _, by omega, rfl, rfl⟩
    · rw [if_neg (by omega)]
      have hp : f_Shop_fact n F x w = some (-1) := factNo_eq hn x w c hw c5
      rw [bnd_eq hp]
      exact ⟨_, _, by decide, rfl, rfl⟩
  · rw [if_neg c, if_neg c]
    exact ⟨-1, _, by decide, rfl, rfl⟩
theorem p_order {n : Nat} {st : Int} {F P S : Nat → Int} (h : RS n st F P S) (x w : Int) (hx : inR x) (hw : inR w) (N : Nat → Int) : ∃ v N', inR v ∧ f_HH_order n st F P x w = some v ∧ f_M_order N S x w = some (v, N') := by
  have hV := h.1
  have hn := hV.1
  unfold f_HH_order f_M_order
  rw [gb (has_eq hn x hx), gb (mbox_eq h.2.2.1 hn x hx)]
  by_cases c : 0 ≤ x ∧ x < (n : Int)
  · rw [if_pos c, if_pos c, gb (either_eq w hw), gb (mpart_eq w hw)]
    by_cases d : w = 0 ∨ w = 1
    · obtain ⟨N', h1, h2⟩ := fetch_eq N S
      have hN := h.rn h2
      have hp := hV.2.2.2.1 x.toNat (by omega)
      have hd := sDn_bd hV (x.toNat + 1) (by omega)
      have hst := hV.2.1
      rw [if_pos d, if_pos d, chk_pos (by omega), bnd_eq h1, chk_pos (by omega)]
      by_cases e : w = 0
      · rw [if_pos e, if_pos e]
        unfold f_Shop_boxIn
        rw [gb (has_eq hn x hx), if_pos c, chk_pos (by omega), chk_pos (by omega), show (31 + x).toNat = 31 + x.toNat by omega, ← h.2.2.2.2.2 x.toNat (by omega)]
        exact ⟨_, _, by omega, rfl, rfl⟩
      · rw [if_neg e, if_neg e]
        have h3 := doneIn_eq hV (x := x.toNat) (by omega)
        have h4 := hN.done (x := x.toNat) (by omega)
        rw [Int.toNat_of_nonneg c.1] at h3 h4
        rw [bnd_eq h3, bnd_eq h4]
        exact ⟨_, _, by omega, rfl, rfl⟩
    · rw [if_neg d, if_neg d]
      exact ⟨-1, _, by decide, rfl, rfl⟩
  · rw [if_neg c, if_neg c]
    exact ⟨-1, _, by decide, rfl, rfl⟩
abbrev inB (w x : Int) : Prop := (0 ≤ w ∧ w ≤ 5) ∧ tLEAST w.toNat ≤ x ∧ x ≤ tMOST w.toNat
theorem fits_eq (w x : Int) (hw : inR w) (hx : inR x) : f_Shop_fits w x = some (if inB w x then 1 else 0) := by
  have hi : f_Shop_isFact w = some (if 0 ≤ w ∧ w ≤ 5 then 1 else 0) := by
    unfold f_Shop_isFact
    rw [bnd_eq (within_eq w 0 5 hw (by decide) (by decide)), chk_pos (by split <;> simp)]
  have hd : ∀ k : Fin 6, inR (tLEAST k.val) ∧ inR (tMOST k.val) := by decide
  unfold f_Shop_fits
  rw [gb hi]
  by_cases c : 0 ≤ w ∧ w ≤ 5
  · have hd2 := hd ⟨w.toNat, by omega⟩
    rw [if_pos c, chk_pos (by omega), gb (within_eq x _ _ hx hd2.1 hd2.2)]
    by_cases d : tLEAST w.toNat ≤ x ∧ x ≤ tMOST w.toNat
    · rw [if_pos d, if_pos ⟨c, d⟩]
    · rw [if_neg d, if_neg (fun q => d q.2)]
  · rw [if_neg c, if_neg (fun q => c q.1)]
theorem canBe_eq (w x : Int) (hw : inR w) (hx : inR x) : f_M_canBe w x = some (if inB w x then 1 else 0) := by
  have h01 : ∀ (c : Prop) [Decidable c], (if c then (1 : Int) else 0) = 0 ∨ (if c then (1 : Int) else 0) = 1 := fun c _ => by split <;> simp
  have hi : ∀ (c d : Prop) [Decidable c] [Decidable d], (c ↔ d) → some (if c then (1 : Int) else 0) = some (if d then 1 else 0) := fun c d _ _ h => by
    by_cases q : c
    · rw [if_pos q, if_pos (h.mp q)]
    · rw [if_neg q, if_neg (fun r => q (h.mpr r))]
  unfold f_M_canBe
  rw [chk_pos (by omega)]
  by_cases c0 : w = 0
  · subst c0
    rw [if_pos rfl, chk_pos (by omega), bnd_eq (in_eq x 0 3 (inL_of hx) (by decide) (by decide)), chk_pos (h01 _)]
    exact hi _ _ ⟨fun q => ⟨by decide, q⟩, fun q => q.2⟩
  rw [if_neg c0]
  by_cases c1 : w = 1
  · subst c1
    rw [if_pos rfl, chk_pos (by omega), bnd_eq (in_eq x 1 12 (inL_of hx) (by decide) (by decide)), chk_pos (h01 _)]
    exact hi _ _ ⟨fun q => ⟨by decide, q⟩, fun q => q.2⟩
  rw [if_neg c1]
  by_cases c2 : w = 2
  · subst c2
    rw [if_pos rfl, bnd_eq (mhour_eq x hx), chk_pos (h01 _)]
    exact hi _ _ ⟨fun q => ⟨by decide, q⟩, fun q => q.2⟩
  rw [if_neg c2]
  by_cases c3 : w = 3
  · subst c3
    rw [if_pos rfl, chk_pos (by omega), bnd_eq (in_eq x 1 9 (inL_of hx) (by decide) (by decide)), chk_pos (h01 _)]
    exact hi _ _ ⟨fun q => ⟨by decide, q⟩, fun q => q.2⟩
  rw [if_neg c3]
  by_cases c4 : w = 4
  · subst c4
    rw [if_pos rfl, bnd_eq (mhour_eq x hx), chk_pos (h01 _)]
    exact hi _ _ ⟨fun q => ⟨by decide, q⟩, fun q => q.2⟩
  rw [if_neg c4]
  by_cases c5 : w = 5
  · subst c5
    rw [if_pos rfl, bnd_eq (mroom_eq x hx), chk_pos (h01 _)]
    exact hi _ _ ⟨fun q => ⟨by decide, q⟩, fun q => q.2⟩
  rw [if_neg c5, if_neg (fun q => by have := q.1; omega)]
/-- one fact changed -/
theorem VK_up {F : Nat → Int} {b : Nat} (h : VK F b) (w : Nat) (x : Int) (hx : inB w x) : VK (upZ F (6 * b + w) x) b ∧ upZ F (6 * b + w) x (6 * b + 1) ≤ max 12 (F (6 * b + 1)) := by
  have hw := hx.1
  have hx2 := hx.2
  rw [Int.toNat_natCast] at hx2
  unfold VK at h ⊢
  rcases (show w = 0 ∨ w = 1 ∨ w = 2 ∨ w = 3 ∨ w = 4 ∨ w = 5 by omega) with rfl | rfl | rfl | rfl | rfl | rfl
  · have h1 : (0 : Int) ≤ x ∧ x ≤ 3 := hx2
    simp only [upZ, Nat.add_zero, Nat.add_left_cancel_iff, Nat.add_eq_left]
    simp
    omega
  · have h1 : (1 : Int) ≤ x ∧ x ≤ 12 := hx2
    simp only [upZ]
    simp
    omega
  · have h1 : (0 : Int) ≤ x ∧ x ≤ 23 := hx2
    simp only [upZ]
    simp
    omega
  · have h1 : (1 : Int) ≤ x ∧ x ≤ 9 := hx2
    simp only [upZ]
    simp
    omega
  · have h1 : (0 : Int) ≤ x ∧ x ≤ 23 := hx2
    simp only [upZ]
    simp
    omega
  · have h1 : (0 : Int) ≤ x ∧ x ≤ 4 := hx2
    simp only [upZ]
    simp
    omega
theorem p_alter {n : Nat} {st : Int} {F P S : Nat → Int} (h : RS n st F P S) (b w x : Int) (hb : inR b) (hw : inR w) (hx : inR x) : ∃ v F' S', inR v ∧ f_HH_alter n F b w x = some (v, F') ∧ f_M_alter S b w x = some (v, S') ∧ RS n st F' P S' ∧ ∀ k, 37 ≤ k → S' k = S k := by
  have hV := h.1
  have hn := hV.1
  unfold f_HH_alter f_M_alter
  rw [gb (has_eq hn b hb), gb (mbox_eq h.2.2.1 hn b hb)]
  by_cases c : 0 ≤ b ∧ b < (n : Int)
  · rw [if_pos c, if_pos c, gb (fits_eq w x hw hx), gb (canBe_eq w x hw hx)]
    by_cases d : inB w x
    · have hw5 := d.1
      rw [if_pos d, if_pos d, bnd_eq (fact_eq hn b w c hw5), bnd_eq (setFact_eq hn b w x c hw5)]
      unfold f_M_becomes
      rw [chk_pos (by omega), Option.bind_some, show (6 * b + w).toNat = 6 * b.toNat + w.toNat by omega, ← h.2.2.2.2.1 _ (by omega)]
      have hfb := fact_bd hV b.toNat w.toNat (by omega) (by omega)
      refine ⟨F (6 * b.toNat + w.toNat), upZ F (6 * b.toNat + w.toNat) x, upZ S (6 * b.toNat + w.toNat) x, by omega, rfl, rfl, ⟨⟨hn, hV.2.1, fun k hk => ?_, hV.2.2.2⟩, fun k hk => ?_, ?_, ?_, fun k hk => ?_, fun i hi => ?_⟩, fun k hk => upZ_ne _ _ (by omega)⟩
      · by_cases e : k = b.toNat
        · subst e; exact (VK_up (hV.2.2.1 _ hk) w.toNat x (by rw [Int.toNat_of_nonneg hw5.1]; exact d)).1
        · have h1 := hV.2.2.1 k hk
          unfold VK at h1 ⊢
          rw [upZ_ne _ _ (by omega), upZ_ne _ _ (by omega), upZ_ne _ _ (by omega), upZ_ne _ _ (by omega), upZ_ne _ _ (by omega), upZ_ne _ _ (by omega)]
          exact h1
      · by_cases e : k = b.toNat
        · subst e
          have h1 := (VK_up (hV.2.2.1 _ hk) w.toNat x (by rw [Int.toNat_of_nonneg hw5.1]; exact d)).2
          have h2 := h.2.1 _ hk
          omega
        · rw [upZ_ne _ _ (by omega)]; exact h.2.1 k hk
      · rw [upZ_ne _ _ (by omega)]; exact h.2.2.1
      · rw [upZ_ne _ _ (by omega)]; exact h.2.2.2.1
      · by_cases e : k = 6 * b.toNat + w.toNat
        · subst e; rw [upZ_same, upZ_same]
        · rw [upZ_ne _ _ e, upZ_ne _ _ e]; exact h.2.2.2.2.1 k hk
      · rw [upZ_ne _ _ (by omega)]; exact h.2.2.2.2.2 i hi
    · rw [if_neg d, if_neg d]
      exact ⟨-1, _, _, by decide, rfl, rfl, h, fun _ _ => rfl⟩
  · rw [if_neg c, if_neg c]
    exact ⟨-1, _, _, by decide, rfl, rfl, h, fun _ _ => rfl⟩
theorem p_start {n : Nat} {st : Int} {F P S : Nat → Int} (h : RS n st F P S) (x : Int) (hx : inR x) : ∃ v st' S', inR v ∧ f_HH_start st x = some (v, st') ∧ f_M_start S x = some (v, S') ∧ RS n st' F P S' ∧ ∀ k, 37 ≤ k → S' k = S k := by
  have hV := h.1
  have hn := hV.1
  have hst := hV.2.1
  unfold f_HH_start f_M_start
  rw [gb (hour_eq x hx), gb (mhour_eq x hx)]
  by_cases c : 0 ≤ x ∧ x ≤ 23
  · rw [if_pos c, if_pos c]
    unfold f_Shop_startHour f_Shop_setStart f_M_becomes
    rw [chk_pos (by omega)]
    refine ⟨st, x, upZ S 36 x, by omega, rfl, by rw [← h.2.2.2.1]; rfl, ⟨⟨hn, c, hV.2.2⟩, h.2.1, ?_, upZ_same _ _ _, fun k hk => ?_, fun i hi => ?_⟩, fun k hk => upZ_ne _ _ (by omega)⟩
    · rw [upZ_ne _ _ (by omega)]; exact h.2.2.1
    · rw [upZ_ne _ _ (by omega)]; exact h.2.2.2.2.1 k hk
    · rw [upZ_ne _ _ (by omega)]; exact h.2.2.2.2.2 i hi
  · rw [if_neg c, if_neg c]
    exact ⟨-1, _, _, by decide, rfl, rfl, h, fun _ _ => rfl⟩
/-- two places exchanged -/
def swp (P : Nat → Int) (i j : Nat) : Nat → Int := upZ (upZ P i (P j)) j (P i)
theorem swp_at (P : Nat → Int) (i j k : Nat) : swp P i j k = P (if k = j then i else if k = i then j else k) := by
  unfold swp upZ
  by_cases c : k = j
  · rw [if_pos c, if_pos c]
  · rw [if_neg c, if_neg c]
    by_cases d : k = i
    · rw [if_pos d, if_pos d]
    · rw [if_neg d, if_neg d]
theorem VS.swp {n : Nat} {F P : Nat → Int} {st : Int} (hV : VS n F P st) {i j : Nat} (hi : i < n) (hj : j < n) : VS n F (swp P i j) st := by
  have hl : ∀ k, k < n → (if k = j then i else if k = i then j else k) < n := fun k hk => by
    split
    · omega
    · split <;> omega
  refine ⟨hV.1, hV.2.1, hV.2.2.1, fun k hk => ?_, fun k m hk hm e => ?_⟩
  · rw [swp_at]
    exact hV.2.2.2.1 _ (hl k hk)
  · rw [swp_at, swp_at] at e
    have := hV.2.2.2.2 _ _ (hl k hk) (hl m hm) e
    clear e
    grind
theorem exch_eq {n : Nat} {P : Nat → Int} (hn : n ≤ 5) (x y : Int) (hx : 0 ≤ x ∧ x < n) (hy : 0 ≤ y ∧ y < n) : f_Shop_exchange n P x y = some (swp P x.toNat y.toNat) := by
  unfold f_Shop_exchange
  rw [gb (has_eq hn x (by omega)), if_pos hx, gb (has_eq hn y (by omega)), if_pos hy, chk_pos (by omega), chk_pos (by omega)]
  rfl
theorem p_change {n : Nat} {st : Int} {F P S : Nat → Int} (h : RS n st F P S) (x y : Int) (hx : inR x) (hy : inR y) : ∃ v P' S', inR v ∧ f_HH_change n P x y = some (v, P') ∧ f_M_change S x y = some (v, S') ∧ RS n st F P' S' ∧ ∀ k, 37 ≤ k → S' k = S k := by
  have hV := h.1
  have hn := hV.1
  unfold f_HH_change f_M_change
  rw [gb (has_eq hn x hx), gb (mbox_eq h.2.2.1 hn x hx)]
  by_cases c : 0 ≤ x ∧ x < (n : Int)
  · rw [if_pos c, if_pos c, gb (has_eq hn y hy), gb (mbox_eq h.2.2.1 hn y hy)]
    by_cases d : 0 ≤ y ∧ y < (n : Int)
    · rw [if_pos d, if_pos d, chk_pos (by omega), chk_pos (by omega), chk_pos (by omega), chk_pos (by omega)]
      by_cases e : x = y
      · rw [if_pos e, if_pos e]
        exact ⟨-1, _, _, by decide, rfl, rfl, h, fun _ _ => rfl⟩
      · rw [if_neg e, if_neg e, chk_pos (by omega), chk_pos (by omega)]
        have hp := hV.2.2.2.1 x.toNat (by omega)
        have hb : f_Shop_boxIn n P x = some (P x.toNat) := by
          unfold f_Shop_boxIn
          rw [gb (has_eq hn x hx), if_pos c, chk_pos (by omega)]
        rw [bnd_eq hb, bnd_eq (exch_eq hn x y c d), show (31 + x).toNat = 31 + x.toNat by omega, show (31 + y).toNat = 31 + y.toNat by omega, ← h.2.2.2.2.2 x.toNat (by omega), ← h.2.2.2.2.2 y.toNat (by omega)]
        refine ⟨_, _, _, by omega, rfl, rfl, ⟨hV.swp (by omega) (by omega), h.2.1, ?_, ?_, fun k hk => ?_, fun i hi => ?_⟩, fun k hk => ?_⟩
        · rw [upZ_ne _ _ (by omega), upZ_ne _ _ (by omega)]; exact h.2.2.1
        · rw [upZ_ne _ _ (by omega), upZ_ne _ _ (by omega)]; exact h.2.2.2.1
        · rw [upZ_ne _ _ (by omega), upZ_ne _ _ (by omega)]; exact h.2.2.2.2.1 k hk
        · have h1 := h.2.2.2.2.2 i hi
          show upZ (upZ P _ _) _ _ i = _
          unfold upZ
          by_cases e1 : i = y.toNat
          · rw [if_pos e1, if_pos (by omega)]
          · rw [if_neg e1, if_neg (show ¬ 31 + i = 31 + y.toNat by omega)]
            by_cases e2 : i = x.toNat
            · rw [if_pos e2, if_pos (by omega)]
            · rw [if_neg e2, if_neg (show ¬ 31 + i = 31 + x.toNat by omega)]; exact h1
        · rw [upZ_ne _ _ (by omega), upZ_ne _ _ (by omega)]
    · rw [if_neg d, if_neg d]
      exact ⟨-1, _, _, by decide, rfl, rfl, h, fun _ _ => rfl⟩
  · rw [if_neg c, if_neg c]
    exact ⟨-1, _, _, by decide, rfl, rfl, h, fun _ _ => rfl⟩
