/-! ===== wake, where ===== -/
theorem becomesOf_eq (N : Nat → Int) (b w : Nat) (x : Int) (hb : b < 5) (hw : w < 6) : f_M_becomesOf N b w x = some (upZ N (6 * b + w) x) := by
  unfold f_M_becomesOf
  rw [chk_pos (by omega), show (6 * (b : Int) + (w : Int)).toNat = 6 * b + w by omega]
theorem fewest_eq {n : Nat} {st : Int} {F P S : Nat → Int} (h : RS n st F P S) (b w m : Nat) (hb : b < n) (hw : w < 6) (hm0 : 0 < m) (hm : m ≤ 24) (hl : f_Shop_least w = some 0) (hmo : f_Shop_most w = some ((m : Int) - 1)) (hi : ∀ i : Nat, i < m → inB w i) (x : Int) (hx : x = 0 ∨ x = 1)
    (db ds : Int) (dF dP : Nat → Int) (la lv : Int) (y N t : Nat → Int) : ∃ v r1 w1 w2, inR v ∧ f_Search_fewestYawns db ds dF dP la lv n st F P b w = some r1 ∧ f_Search_told r1.2.2.2.2.1 r1.2.2.2.2.2 x = some v ∧ w1 = r1 ∧ f_M_fewestBy y N S t b w m x = some (v, w2) := by
  obtain ⟨N', hf, hN⟩ := fetch_eq N S
  have hC := h.cp dF dP
  have hR := hC.rn hN
  have hV := hC.1
  have hn := hV.1
  have hxr : inR x := by omega
  unfold f_Search_fewestYawns f_M_fewestBy
  rw [bnd_eq (copy_eq _ _ _ _ _ _ _ _), bnd_eq (seek_eq _ _ _), bnd_eq hl, bnd_eq hf]
  generalize hF1 : cpZ F dF 30 = F1 at hC hR hV
  generalize hP1 : cpZ P dP 5 = P1 at hC hR hV
  obtain ⟨r1, r2, e1, e2, e3⟩ := lup2 (fun fuel (c : (Nat → Int) × Int × Int) i => f_Search_fewestYawns_L23 fuel n st c.1 P1 c.2.1 c.2.2 b w i) (fun fuel (c : (Nat → Int) × (Nat → Int) × (Nat → Int) × Int × Int) i => f_M_fewestBy_L14 fuel c.1 c.2.1 c.2.2.1 b w m c.2.2.2.1 c.2.2.2.2 i) m
    (fun i c d => LST 120 i c.2.1 c.2.2 d.2.2.2.1 d.2.2.2.2 ∧ VS n c.1 P1 st ∧ RN n st c.1 P1 d.2.1) (fun r1 r2 => r1.2.1 = r2.2.1 ∧ r1.2.2 = r2.1 ∧ 0 ≤ r1.2.1 ∧ r1.2.1 ≤ 23 ∧ 0 ≤ r1.2.2 ∧ r1.2.2 ≤ 120)
    (fun f1 f2 i c d hlt hI => Or.inl (by
      obtain ⟨hL, hV1, hR1⟩ := hI
      have hbd := hL.bd (by decide)
      have hV2 := hV1.up hb (hi i hlt)
      have hR2 := hR1.up hb (hi i hlt)
      obtain ⟨y', t', ed, hD⟩ := hR2.day d.1 d.2.2.1
      have ha := sYall_bd (upZ c.1 (6 * b + w) i) P1 st n
      have e1 := yawnsAll_eq hV2
      have e2 := hD.yawns
      have es := setFact_eq (n := n) (F := c.1) hn b w i (by omega) (by omega)
      rw [Int.toNat_natCast, Int.toNat_natCast] at es
      generalize sYall (upZ c.1 (6 * b + w) i) P1 st n = z at ha e1 e2
      refine ⟨(upZ c.1 (6 * b + w) i, if z < c.2.2 then (i : Int) else c.2.1, if z < c.2.2 then z else c.2.2), (y', upZ d.2.1 (6 * b + w) i, t', if d.2.2.2.1 ≤ z then d.2.2.2.1 else z, if d.2.2.2.1 ≤ z then d.2.2.2.2 else i), ?_, ?_, hL.step (by decide) ha, hV2, hR2⟩
      · show f_Search_fewestYawns_L23 (f1 + 1) n st c.1 P1 c.2.1 c.2.2 b w i = _
        rw [f_Search_fewestYawns_L23, bnd_eq hmo, chk_pos (by omega), chk_pos (by omega), if_neg (by omega), bnd_eq es, bnd_eq e1, bnd_eq (offer_eq _ _ _ _ (by omega) (by omega))]
      · show f_M_fewestBy_L14 (f2 + 1) d.1 d.2.1 d.2.2.1 b w m d.2.2.2.1 d.2.2.2.2 i = _
        rw [f_M_fewestBy_L14, chk_pos (by omega), chk_pos (by omega), if_neg (by omega), bnd_eq (becomesOf_eq _ b w _ (by omega) hw), bnd_eq ed, bnd_eq e2, chk_pos (by omega), chk_pos (by omega), lesser_eq _ _ (by omega) (by omega)]
        by_cases q : d.2.2.2.1 ≤ z
        · rw [if_pos q, if_pos q, if_pos q]; rfl
        · rw [if_neg q, if_neg q, if_neg q]; rfl))
    (fun f1 f2 c d hI => by
      obtain ⟨hL, _⟩ := hI
      rcases hL with ⟨h1, _⟩ | ⟨h1, h2, h3, h4, h5, h6, h7⟩
      · omega
      refine ⟨(c.1, c.2.1, c.2.2), (d.2.2.2.1, d.2.2.2.2, d.1, d.2.1, d.2.2.1), ?_, ?_, h2, h3, h4, by show c.2.1 ≤ 23; omega, h6, h7⟩
      · show f_Search_fewestYawns_L23 (f1 + 1) n st c.1 P1 c.2.1 c.2.2 b w m = _
        rw [f_Search_fewestYawns_L23, bnd_eq hmo, chk_pos (by omega), chk_pos (by omega), if_pos (by omega)]
      · show f_M_fewestBy_L14 (f2 + 1) d.1 d.2.1 d.2.2.1 b w m d.2.2.2.1 d.2.2.2.2 m = _
        rw [f_M_fewestBy_L14, chk_pos (by omega), chk_pos (by omega), if_pos (by omega)])
    m 0 (F1, -4, 1000000) (y, N', t, 1000000, 0) 5000 5000 (by omega) (by omega) (by omega) ⟨Or.inl ⟨rfl, rfl, rfl, rfl, rfl⟩, hV, hR⟩
  obtain ⟨g1, g2, g3, g4, g5, g6⟩ := e3
  have e1 : f_Search_fewestYawns_L23 5000 n st F1 P1 (-4) 1000000 b w 0 = some r1 := e1
  have e2 : f_M_fewestBy_L14 5000 y N' t b w m 1000000 0 0 = some r2 := e2
  rw [bnd_eq e1, bnd_eq e2, chk_pos hxr]
  refine ⟨if x = 0 then r1.2.1 else r1.2.2, _, _, (r2.2.2.1, r2.2.2.2.1, r2.2.2.2.2), ?_, rfl, told_eq _ _ _ (by show inR r1.2.1; omega) hxr (by show ¬ r1.2.1 = -4; omega), rfl, ?_⟩
  · split <;> omega
  · by_cases q : x = 0
    · rw [if_pos q, if_pos q, g1]
    · rw [if_neg q, if_neg q, g2]
theorem p_wake {n : Nat} {st : Int} {F P S : Nat → Int} (h : RS n st F P S) (x1 x2 : Int) (h1 : inR x1) (h2 : inR x2) (db ds : Int) (dF dP : Nat → Int) (la lv : Int) (y N t : Nat → Int) : ∃ v w1 w2, inR v ∧ f_HH_wake db ds dF dP la lv n st F P x1 x2 = some (v, w1) ∧ f_M_wake y N S t x1 x2 = some (v, w2) := by
  have hn := h.1.1
  unfold f_HH_wake f_HH_fewestYawns f_M_wake
  rw [gb (has_eq hn x1 h1), gb (either_eq x2 h2), gb (mbox_eq h.2.2.1 hn x1 h1), gb (mpart_eq x2 h2)]
  by_cases c1 : 0 ≤ x1 ∧ x1 < (n : Int)
  · rw [if_pos c1, if_pos c1]
    by_cases c2 : x2 = 0 ∨ x2 = 1
    · rw [if_pos c2, if_pos c2]
      obtain ⟨b, rfl⟩ : ∃ b : Nat, x1 = b := ⟨x1.toNat, by omega⟩
      obtain ⟨v, r1, w1, w2, g1, g2, g3, _, g4⟩ := fewest_eq h b 4 24 (by omega) (by omega) (by omega) (by omega) rfl rfl (fun i hi => ⟨by decide, by show (0 : Int) ≤ i; omega, by show (i : Int) ≤ 23; omega⟩) x2 c2 db ds dF dP la lv y N t
      have g2 : f_Search_fewestYawns db ds dF dP la lv n st F P b 4 = some r1 := g2
      have g4 : f_M_fewestBy y N S t b 4 24 x2 = some (v, w2) := g4
      rw [bnd_eq g2, bnd_eq g3, bnd_eq g4]
      exact ⟨v, _, _, g1, rfl, rfl⟩
    · rw [if_neg c2, if_neg c2]
      exact ⟨-1, _, _, by decide, rfl, rfl⟩
  · rw [if_neg c1, if_neg c1]
    exact ⟨-1, _, _, by decide, rfl, rfl⟩
theorem p_where {n : Nat} {st : Int} {F P S : Nat → Int} (h : RS n st F P S) (x1 x2 : Int) (h1 : inR x1) (h2 : inR x2) (db ds : Int) (dF dP : Nat → Int) (la lv : Int) (y N t : Nat → Int) : ∃ v w1 w2, inR v ∧ f_HH_where db ds dF dP la lv n st F P x1 x2 = some (v, w1) ∧ f_M_where y N S t x1 x2 = some (v, w2) := by
  have hn := h.1.1
  unfold f_HH_where f_HH_fewestYawns f_M_where
  rw [gb (has_eq hn x1 h1), gb (either_eq x2 h2), gb (mbox_eq h.2.2.1 hn x1 h1), gb (mpart_eq x2 h2)]
  by_cases c1 : 0 ≤ x1 ∧ x1 < (n : Int)
  · rw [if_pos c1, if_pos c1]
    by_cases c2 : x2 = 0 ∨ x2 = 1
    · rw [if_pos c2, if_pos c2]
      obtain ⟨b, rfl⟩ : ∃ b : Nat, x1 = b := ⟨x1.toNat, by omega⟩
      obtain ⟨v, r1, w1, w2, g1, g2, g3, _, g4⟩ := fewest_eq h b 5 5 (by omega) (by omega) (by omega) (by omega) rfl rfl (fun i hi => ⟨by decide, by show (0 : Int) ≤ i; omega, by show (i : Int) ≤ 4; omega⟩) x2 c2 db ds dF dP la lv y N t
      have g2 : f_Search_fewestYawns db ds dF dP la lv n st F P b 5 = some r1 := g2
      have g4 : f_M_fewestBy y N S t b 5 5 x2 = some (v, w2) := g4
      rw [bnd_eq g2, bnd_eq g3, bnd_eq g4]
      exact ⟨v, _, _, g1, rfl, rfl⟩
    · rw [if_neg c2, if_neg c2]
      exact ⟨-1, _, _, by decide, rfl, rfl⟩
  · rw [if_neg c1, if_neg c1]
    exact ⟨-1, _, _, by decide, rfl, rfl⟩
/-! ===== longer, when ===== -/
theorem p_longer {n : Nat} {st : Int} {F P S : Nat → Int} (h : RS n st F P S) (x : Int) (hx : inR x) (db ds : Int) (dF dP N : Nat → Int) : ∃ v w1 w2, inR v ∧ f_HH_longer db ds dF dP n st F P x = some (v, w1) ∧ f_M_longer N S x = some (v, w2) := by
  have hn := h.1.1
  unfold f_HH_longer f_M_longer
  rw [gb (has_eq hn x hx), gb (mbox_eq h.2.2.1 hn x hx)]
  by_cases c1 : 0 ≤ x ∧ x < (n : Int)
  · rw [if_pos c1, if_pos c1]
    obtain ⟨b, rfl⟩ : ∃ b : Nat, x = b := ⟨x.toNat, by omega⟩
    have hb : b < n := by omega
    obtain ⟨N', hf, hN⟩ := fetch_eq N S
    have hC := h.cp dF dP
    have hR := hC.rn hN
    have hV := hC.1
    have hk := h.1.2.2.1 b hb
    have hk1 := h.2.1 b hb
    obtain ⟨w, hw⟩ : ∃ w : Nat, F (6 * b + 1) = w := ⟨(F (6 * b + 1)).toNat, by have := hk.2.1; omega⟩
    have hw1 : 1 ≤ w ∧ w ≤ 12 := by have := hk.2.1; omega
    have e1 := fact1 (F := F) hn b (by omega)
    have e2 := fact2 (F := F) hn b (by omega)
    rw [Int.toNat_natCast] at e1 e2
    have hS1 : S (6 * b + 1) = w := by rw [← h.2.2.2.2.1 _ (by omega)]; exact hw
    have hF2 : cpZ F dF 30 (6 * b + 2) = F (6 * b + 2) := if_pos (by omega)
    unfold f_Search_leastLonger
    rw [bnd_eq (copy_eq _ _ _ _ _ _ _ _), bnd_eq e1, bnd_eq e2, bnd_eq hf, chk_pos (by omega), show (6 * (b : Int) + 1).toNat = 6 * b + 1 by omega, hS1, hw]
    generalize hF1 : cpZ F dF 30 = F1 at hC hR hV hF2
    generalize hP1 : cpZ P dP 5 = P1 at hC hR hV
    have ht := hk.2.2.1
    generalize F (6 * b + 2) = T at ht hF2
    obtain ⟨r1, r2, e1, e2, e3⟩ := lup2 (fun fuel (c : Nat → Int) i => f_Search_leastLonger_L26 fuel n st c P1 n st F P b w T i) (fun fuel (c : Nat → Int) i => f_M_longer_L26 fuel c S b ((w : Int) + i)) (13 - w)
      (fun i c d => c (6 * b + 2) = T ∧ VS n c P1 st ∧ RN n st c P1 d) (fun r1 r2 => r1.1 = r2.1 ∧ -4 ≤ r1.1 ∧ r1.1 ≤ 12)
      (fun f1 f2 i c d hlt hI => by
        obtain ⟨hT, hV1, hR1⟩ := hI
        have hB : inB ((1 : Nat) : Int) ((w : Int) + i) := ⟨by decide, by show (1 : Int) ≤ w + i; omega, by show (w : Int) + i ≤ 12; omega⟩
        have hV2 := hV1.up hb hB
        have hR2 := hR1.up hb hB
        have es := setFact_eq (n := n) (F := c) hn b 1 ((w : Int) + i) (by omega) (by decide)
        rw [Int.toNat_natCast] at es
        have es : f_Shop_setFact n c b 1 ((w : Int) + i) = some (upZ c (6 * b + 1) ((w : Int) + i)) := es
        have eb : f_M_becomesOf d b 1 ((w : Int) + i) = some (upZ d (6 * b + 1) ((w : Int) + i)) := becomesOf_eq d b 1 _ (by omega) (by omega)
        have eo := own_eq hV2 b (by omega)
        have em := hR2.own b (by omega)
        have e2 := hR2.of b 2 (by omega) (by decide)
        rw [Int.toNat_natCast] at eo em e2
        have hT2 : upZ c (6 * b + 1) ((w : Int) + i) (6 * b + 2) = T := by rw [upZ_ne _ _ (by omega)]; exact hT
        have e2 : f_M_of (upZ d (6 * b + 1) ((w : Int) + i)) b 2 = some T := by rw [e2]; exact congrArg some hT2
        have ho := sOwn_bd (F := upZ c (6 * b + 1) ((w : Int) + i)) (P := P1) (st := st) (n := n) (b := b)
        have k1 : f_Search_leastLonger_L26 (f1 + 1) n st c P1 n st F P b w T i = if sOwn (upZ c (6 * b + 1) ((w : Int) + i)) P1 st n b = T then some ((i : Int), (n : Int), st, upZ c (6 * b + 1) ((w : Int) + i), P1) else f_Search_leastLonger_L26 f1 n st (upZ c (6 * b + 1) ((w : Int) + i)) P1 n st F P b w T ((i : Int) + 1) := by
          rw [f_Search_leastLonger_L26, chk_pos (by omega), if_neg (by omega), chk_pos (by omega), if_neg (by omega), bnd_eq es, bnd_eq eo, chk_pos (by omega), chk_pos (by omega)]
        have k2 : f_M_longer_L26 (f2 + 1) d S b ((w : Int) + i) = if sOwn (upZ c (6 * b + 1) ((w : Int) + i)) P1 st n b = T then some ((i : Int), upZ d (6 * b + 1) ((w : Int) + i)) else f_M_longer_L26 f2 (upZ d (6 * b + 1) ((w : Int) + i)) S b ((w : Int) + i + 1) := by
          rw [f_M_longer_L26, chk_pos (by omega), if_neg (by omega), bnd_eq eb, bnd_eq em, bnd_eq e2, chk_pos (by omega), chk_pos (by omega), chk_pos (by omega), show (6 * (b : Int) + 1).toNat = 6 * b + 1 by omega, hS1, show (w : Int) + i - w = i by omega]
        by_cases q : sOwn (upZ c (6 * b + 1) ((w : Int) + i)) P1 st n b = T
        · rw [if_pos q] at k1 k2
          exact Or.inr ⟨_, _, k1, k2, rfl, by show (-4 : Int) ≤ i; omega, by show (i : Int) ≤ 12; omega⟩
        · rw [if_neg q] at k1 k2
          rw [Int.add_assoc] at k2
          exact Or.inl ⟨_, _, k1, k2, hT2, hV2, hR2⟩)
      (fun f1 f2 c d hI => by
        refine ⟨(-4, n, st, c, P1), (-4, d), ?_, ?_, rfl, by show (-4 : Int) ≤ -4; decide, by show (-4 : Int) ≤ 12; decide⟩
        · show f_Search_leastLonger_L26 (f1 + 1) n st c P1 n st F P b w T ((13 - w : Nat) : Int) = _
          rw [f_Search_leastLonger_L26, chk_pos (by omega)]
          by_cases q : (11 : Int) < ((13 - w : Nat) : Int)
          · rw [if_pos q]
          · rw [if_neg q, chk_pos (by omega), if_pos (by omega)]
        · show f_M_longer_L26 (f2 + 1) d S b ((w : Int) + ((13 - w : Nat) : Int)) = _
          rw [f_M_longer_L26, chk_pos (by omega), if_pos (by omega)])
      (13 - w) 0 F1 N' 5000 5000 (by omega) (by omega) (by omega) ⟨hF2, hV, hR⟩
    have e1 : f_Search_leastLonger_L26 5000 n st F1 P1 n st F P b w T 0 = some r1 := e1
    have e2 : f_M_longer_L26 5000 N' S b ((w : Int) + 0) = some r2 := e2
    rw [Int.add_zero] at e2
    rw [bnd_eq e1, e2]
    refine ⟨r1.1, _, r2.2, by omega, rfl, ?_⟩
    rw [e3.1]
  · rw [if_neg c1, if_neg c1]
    exact ⟨-1, _, _, by decide, rfl, rfl⟩
theorem p_when {n : Nat} {st : Int} {F P S : Nat → Int} (h : RS n st F P S) (x1 x2 x3 : Int) (h1 : inR x1) (h2 : inR x2) (h3 : inR x3) (db ds : Int) (dF dP : Nat → Int) (y N t : Nat → Int) : ∃ v w1 w2, inR v ∧ f_HH_when db ds dF dP n st F P x1 x2 x3 = some (v, w1) ∧ f_M_when y N S t x1 x2 x3 = some (v, w2) := by
  have hn := h.1.1
  unfold f_HH_when f_M_when
  rw [gb (has_eq hn x1 h1), gb (hour_eq x2 h2), gb (hour_eq x3 h3), gb (mbox_eq h.2.2.1 hn x1 h1), gb (mhour_eq x2 h2), gb (mhour_eq x3 h3)]
  by_cases c1 : 0 ≤ x1 ∧ x1 < (n : Int)
  · rw [if_pos c1, if_pos c1]
    by_cases c2 : 0 ≤ x2 ∧ x2 ≤ 23
    · rw [if_pos c2, if_pos c2]
      by_cases c3 : 0 ≤ x3 ∧ x3 ≤ 23
      · rw [if_pos c3, if_pos c3]
        obtain ⟨b, rfl⟩ : ∃ b : Nat, x1 = b := ⟨x1.toNat, by omega⟩
        obtain ⟨o, rfl⟩ : ∃ b : Nat, x2 = b := ⟨x2.toNat, by omega⟩
        have hb : b < n := by omega
        obtain ⟨N', hf, hN⟩ := fetch_eq N S
        have hC := h.cp dF dP
        have hR := hC.rn hN
        have hV := hC.1
        have hk := h.1.2.2.1 b hb
        obtain ⟨R, hR5⟩ : ∃ w : Nat, F (6 * b + 5) = w := ⟨(F (6 * b + 5)).toNat, by have := hk.2.2.2.2.2; omega⟩
        have hR4 : R < 5 := by have := hk.2.2.2.2.2; omega
        have e5 := fact5 (F := F) hn b (by omega)
        rw [Int.toNat_natCast] at e5
        have hF5 : cpZ F dF 30 (6 * b + 5) = (R : Int) := by rw [← hR5]; exact if_pos (by omega)
        unfold f_Search_firstOpening
        rw [bnd_eq (copy_eq _ _ _ _ _ _ _ _), bnd_eq e5, bnd_eq hf, hR5]
        generalize hF1 : cpZ F dF 30 = F1 at hC hR hV hF5
        generalize hP1 : cpZ P dP 5 = P1 at hC hR hV
        obtain ⟨r1, r2, e1, e2, e3⟩ := lup2 (fun fuel (c : Nat → Int) i => f_Search_firstOpening_L19 fuel n st c P1 n st F P b o x3 R i) (fun fuel (c : (Nat → Int) × (Nat → Int) × (Nat → Int)) i => f_M_when_L31 fuel c.1 c.2.1 S c.2.2 b o x3 i) 24
          (fun i c d => c (6 * b + 5) = R ∧ VS n c P1 st ∧ RN n st c P1 d.2.1) (fun r1 r2 => r1.1 = r2.1 ∧ -4 ≤ r1.1 ∧ r1.1 ≤ 23)
          (fun f1 f2 i c d hlt hI => by
            obtain ⟨hT, hV1, hR1⟩ := hI
            have hB : inB ((4 : Nat) : Int) (i : Int) := ⟨by decide, by show (0 : Int) ≤ i; omega, by show (i : Int) ≤ 23; omega⟩
            have hV2 := hV1.up hb hB
            have hR2 := hR1.up hb hB
            obtain ⟨y', t', ed, hD⟩ := hR2.day d.1 d.2.2
            have es := setFact_eq (n := n) (F := c) hn b 4 (i : Int) (by omega) (by decide)
            rw [Int.toNat_natCast] at es
            have es : f_Shop_setFact n c b 4 i = some (upZ c (6 * b + 4) i) := es
            have eb : f_M_becomesOf d.2.1 b 4 (i : Int) = some (upZ d.2.1 (6 * b + 4) i) := becomesOf_eq d.2.1 b 4 _ (by omega) (by omega)
            have eo := oclock_eq hV2 R o (by omega) (by omega)
            have e2 := hR2.of b 5 (by omega) (by decide)
            rw [Int.toNat_natCast] at e2
            have hT2 : upZ c (6 * b + 4) i (6 * b + 5) = R := by rw [upZ_ne _ _ (by omega)]; exact hT
            have e2 : f_M_of (upZ d.2.1 (6 * b + 4) i) b 5 = some (R : Int) := by rw [e2]; exact congrArg some hT2
            have ho := sTold_bd (F := upZ c (6 * b + 4) i) (P := P1) (st := st) (n := n) R o (by omega)
            have et := hD.wt R o hR4 (by omega)
            have et2 : (y', t').2 (24 * R + o) = sTold (upZ c (6 * b + 4) i) P1 st n R o := et
            have k1 : f_Search_firstOpening_L19 (f1 + 1) n st c P1 n st F P b o x3 R i = if sTold (upZ c (6 * b + 4) i) P1 st n R o = x3 then some ((i : Int), (n : Int), st, upZ c (6 * b + 4) i, P1) else f_Search_firstOpening_L19 f1 n st (upZ c (6 * b + 4) i) P1 n st F P b o x3 R ((i : Int) + 1) := by
              rw [f_Search_firstOpening_L19, chk_pos (by omega), if_neg (by omega), bnd_eq es, bnd_eq eo, chk_pos (by omega), chk_pos (by omega)]
            have k2 : f_M_when_L31 (f2 + 1) d.1 d.2.1 S d.2.2 b o x3 i = if sTold (upZ c (6 * b + 4) i) P1 st n R o = x3 then some ((i : Int), y', upZ d.2.1 (6 * b + 4) i, t') else f_M_when_L31 f2 y' (upZ d.2.1 (6 * b + 4) i) S t' b o x3 ((i : Int) + 1) := by
              rw [f_M_when_L31, chk_pos (by omega), if_neg (by omega), bnd_eq eb, bnd_eq ed, bnd_eq e2, show (24 * (R : Int) + o).toNat = 24 * R + o by omega, et2, chk_pos (by omega), chk_pos (by omega), chk_pos (by omega)]
            by_cases q : sTold (upZ c (6 * b + 4) i) P1 st n R o = x3
            · rw [if_pos q] at k1 k2
              exact Or.inr ⟨_, _, k1, k2, rfl, by show (-4 : Int) ≤ i; omega, by show (i : Int) ≤ 23; omega⟩
            · rw [if_neg q] at k1 k2
              exact Or.inl ⟨_, (y', upZ d.2.1 (6 * b + 4) i, t'), k1, k2, hT2, hV2, hR2⟩)
          (fun f1 f2 c d hI => by
            refine ⟨(-4, n, st, c, P1), (-4, d.1, d.2.1, d.2.2), ?_, ?_, rfl, by show (-4 : Int) ≤ -4; decide, by show (-4 : Int) ≤ 23; decide⟩
            · show f_Search_firstOpening_L19 (f1 + 1) n st c P1 n st F P b o x3 R ((24 : Nat) : Int) = _
              rw [f_Search_firstOpening_L19, chk_pos (by decide), if_pos (by decide)]
            · show f_M_when_L31 (f2 + 1) d.1 d.2.1 S d.2.2 b o x3 ((24 : Nat) : Int) = _
              rw [f_M_when_L31, chk_pos (by decide), if_pos (by decide)])
          24 0 F1 (y, N', t) 5000 5000 (by omega) (by omega) (by omega) ⟨hF5, hV, hR⟩
        have e1 : f_Search_firstOpening_L19 5000 n st F1 P1 n st F P b o x3 R 0 = some r1 := e1
        have e2 : f_M_when_L31 5000 y N' S t b o x3 0 = some r2 := e2
        rw [bnd_eq e1, e2]
        refine ⟨r1.1, _, r2.2, by omega, rfl, ?_⟩
        rw [e3.1]
      · rw [if_neg c3, if_neg c3]
        exact ⟨-1, _, _, by decide, rfl, rfl⟩
    · rw [if_neg c2, if_neg c2]
      exact ⟨-1, _, _, by decide, rfl, rfl⟩
  · rw [if_neg c1, if_neg c1]
    exact ⟨-1, _, _, by decide, rfl, rfl⟩
