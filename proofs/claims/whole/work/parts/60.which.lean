/-! ===== starts, kinds, works ===== -/
theorem zor_in (a b : Int) : inR (zor a b) := inR_of _
theorem p_starts {n : Nat} {st : Int} {F P S : Nat → Int} (h : RS n st F P S) {k : Nat} {H O R : Nat → Int} (hQ : RQ k H O R S) (db ds : Int) (dF dP y N t : Nat → Int) : ∃ v w1 w2, inR v ∧ f_HH_starts db ds dF dP k H O R n st F P = some (v, w1) ∧ f_M_starts y N S t = some (v, w2) := by
  obtain ⟨N', hf, hN⟩ := fetch_eq N S
  have hC := h.cp dF dP
  have hR := hC.rn hN
  have hV := hC.1
  have hn := hV.1
  generalize hF1 : cpZ F dF 30 = F1 at hC hR hV
  generalize hP1 : cpZ P dP 5 = P1 at hC hR hV
  obtain ⟨r1, r2, e1, e2, e3⟩ := lup2 (fun fuel (c : Int × Int) i => f_Search_startsAsSeen_L13 fuel n c.1 F1 P1 k H O R c.2 i) (fun fuel (c : (Nat → Int) × (Nat → Int) × (Nat → Int) × Int) i => f_M_which_L10 fuel c.1 c.2.1 S c.2.2.1 36 23 c.2.2.2 i) 24
    (fun i c d => c.2 = d.2.2.2 ∧ inR c.2 ∧ ∃ st', RN n st' F1 P1 d.2.1) (fun r1 r2 => r1.1 = r2.1 ∧ inR r1.1)
    (fun f1 f2 i c d hlt hI => Or.inl (by
      obtain ⟨hE, hr, st', hN⟩ := hI
      have hVi := hV.st (i := i) (by omega)
      have hNi := hN.st (i := i) (by omega)
      obtain ⟨y', t', es, hD⟩ := isSo_eq hNi hQ d.1 d.2.2.1
      have ea := agree_eq hVi hQ
      cases ha : agr (agC F1 P1 i n H O R) k with
      | true =>
        rw [ha, if_pos rfl] at es ea
        refine ⟨((i : Int), zor c.2 (zshl 1 i)), (y', upZ d.2.1 36 i, t', zor d.2.2.2 (zshl 1 i)), ?_, ?_, by show zor c.2 _ = zor d.2.2.2 _; rw [hE], zor_in _ _, i, hNi⟩
        · show f_Search_startsAsSeen_L13 (f1 + 1) n c.1 F1 P1 k H O R c.2 i = _
          rw [f_Search_startsAsSeen_L13, chk_pos (by omega), if_neg (by omega), bnd_eq (setStart_eq _ _), bnd_eq ea, chk_pos (by decide), if_neg (by decide)]
        · show f_M_which_L10 (f2 + 1) d.1 d.2.1 S d.2.2.1 36 23 d.2.2.2 i = _
          rw [f_M_which_L10, chk_pos (by omega), chk_pos (by decide), if_neg (by omega), chk_pos (by decide), show (36 : Int).toNat = 36 from rfl, bnd_eq es, bnd_eq (flag_eq 1 (Or.inr rfl))]
      | false =>
        rw [ha, if_neg (by decide)] at es ea
        refine ⟨((i : Int), c.2), (y', upZ d.2.1 36 i, t', d.2.2.2), ?_, ?_, hE, hr, i, hNi⟩
        · show f_Search_startsAsSeen_L13 (f1 + 1) n c.1 F1 P1 k H O R c.2 i = _
          rw [f_Search_startsAsSeen_L13, chk_pos (by omega), if_neg (by omega), bnd_eq (setStart_eq _ _), bnd_eq ea, chk_pos (by decide), if_pos rfl]
        · show f_M_which_L10 (f2 + 1) d.1 d.2.1 S d.2.2.1 36 23 d.2.2.2 i = _
          rw [f_M_which_L10, chk_pos (by omega), chk_pos (by decide), if_neg (by omega), chk_pos (by decide), show (36 : Int).toNat = 36 from rfl, bnd_eq es, bnd_eq (flag_eq 0 (Or.inl rfl)), zshl_0, zor_0 (by rw [← hE]; exact hr)]))
    (fun f1 f2 c d hI => by
      refine ⟨(c.2, c.1), (d.2.2.2, d.1, d.2.1, d.2.2.1), ?_, ?_, hI.1, hI.2.1⟩
      · show f_Search_startsAsSeen_L13 (f1 + 1) n c.1 F1 P1 k H O R c.2 ((24 : Nat) : Int) = _
        rw [f_Search_startsAsSeen_L13, chk_pos (by decide), if_pos (by decide)]
      · show f_M_which_L10 (f2 + 1) d.1 d.2.1 S d.2.2.1 36 23 d.2.2.2 ((24 : Nat) : Int) = _
        rw [f_M_which_L10, chk_pos (by decide), chk_pos (by decide), if_pos (by decide)])
    24 0 (st, 0) (y, N', t, 0) 5000 5000 (by omega) (by omega) (by omega) ⟨rfl, by show inR 0; decide, st, hR⟩
  have e1 : f_Search_startsAsSeen_L13 5000 n st F1 P1 k H O R 0 0 = some r1 := e1
  have e2 : f_M_which_L10 5000 y N' S t 36 23 0 0 = some r2 := e2
  have g1 : f_Search_startsAsSeen db ds dF dP n st F P k H O R = some (r1.1, (n : Int), r1.2, F1, P1) := by
    unfold f_Search_startsAsSeen
    rw [bnd_eq (copy_eq _ _ _ _ _ _ _ _), hF1, hP1, bnd_eq e1]
  have g2 : f_M_which y N S t 36 0 23 = some (r2.1, r2.2.1, r2.2.2.1, r2.2.2.2) := by
    unfold f_M_which
    rw [bnd_eq hf, bnd_eq e2]
  unfold f_HH_starts f_M_starts
  rw [bnd_eq g1, bnd_eq g2]
  exact ⟨r1.1, _, (r2.2.1, r2.2.2.1, r2.2.2.2), e3.2, rfl, by rw [e3.1]⟩
theorem facts_seen {n : Nat} {st : Int} {F P S : Nat → Int} (h : RS n st F P S) {k : Nat} {H O R : Nat → Int} (hQ : RQ k H O R S) (b w lo m : Nat) (hb : b < n) (hw : w < 6) (hlm : lo ≤ m) (hm : m ≤ 24) (hl : f_Shop_least w = some (lo : Int)) (hmo : f_Shop_most w = some ((m : Int) - 1)) (hi : ∀ i : Nat, lo ≤ i → i < m → inB w i)
    (db ds : Int) (dF dP y N t : Nat → Int) : ∃ v w1 w2, inR v ∧ f_Search_factsAsSeen db ds dF dP n st F P k H O R b w = some (v, w1) ∧ f_M_which y N S t (6 * (b : Int) + w) lo ((m : Int) - 1) = some (v, w2) := by
  obtain ⟨N', hf, hN⟩ := fetch_eq N S
  have hC := h.cp dF dP
  have hR := hC.rn hN
  have hV := hC.1
  have hn := hV.1
  generalize hF1 : cpZ F dF 30 = F1 at hC hR hV
  generalize hP1 : cpZ P dP 5 = P1 at hC hR hV
  obtain ⟨r1, r2, e1, e2, e3⟩ := lup2 (fun fuel (c : (Nat → Int) × Int) i => f_Search_factsAsSeen_L18 fuel n st c.1 P1 k H O R b w c.2 i) (fun fuel (c : (Nat → Int) × (Nat → Int) × (Nat → Int) × Int) i => f_M_which_L10 fuel c.1 c.2.1 S c.2.2.1 (6 * (b : Int) + w) ((m : Int) - 1) c.2.2.2 i) m
    (fun i c d => lo ≤ i ∧ c.2 = d.2.2.2 ∧ inR c.2 ∧ VS n c.1 P1 st ∧ RN n st c.1 P1 d.2.1) (fun r1 r2 => r1.1 = r2.1 ∧ inR r1.1)
    (fun f1 f2 i c d hlt hI => Or.inl (by
      obtain ⟨hlo, hE, hr, hV1, hR1⟩ := hI
      have hVi := hV1.up hb (hi i hlo hlt)
      have hNi := hR1.up hb (hi i hlo hlt)
      obtain ⟨y', t', es, hD⟩ := isSo_eq hNi hQ d.1 d.2.2.1
      have ea := agree_eq hVi hQ
      have ef := setFact_eq (n := n) (F := c.1) hn b w i (by omega) (by omega)
      rw [Int.toNat_natCast, Int.toNat_natCast] at ef
      cases ha : agr (agC (upZ c.1 (6 * b + w) i) P1 st n H O R) k with
      | true =>
        rw [ha, if_pos rfl] at es ea
        refine ⟨(upZ c.1 (6 * b + w) i, zor c.2 (zshl 1 i)), (y', upZ d.2.1 (6 * b + w) i, t', zor d.2.2.2 (zshl 1 i)), ?_, ?_, by omega, by show zor c.2 _ = zor d.2.2.2 _; rw [hE], zor_in _ _, hVi, hNi⟩
        · show f_Search_factsAsSeen_L18 (f1 + 1) n st c.1 P1 k H O R b w c.2 i = _
          rw [f_Search_factsAsSeen_L18, bnd_eq hmo, chk_pos (by omega), chk_pos (by omega), if_neg (by omega), bnd_eq ef, bnd_eq ea, chk_pos (by decide), if_neg (by decide)]
        · show f_M_which_L10 (f2 + 1) d.1 d.2.1 S d.2.2.1 (6 * (b : Int) + w) ((m : Int) - 1) d.2.2.2 i = _
          rw [f_M_which_L10, chk_pos (by omega), chk_pos (by omega), if_neg (by omega), chk_pos (by omega), show (6 * (b : Int) + w).toNat = 6 * b + w by omega, bnd_eq es, bnd_eq (flag_eq 1 (Or.inr rfl))]
      | false =>
        rw [ha, if_neg (by decide)] at es ea
        refine ⟨(upZ c.1 (6 * b + w) i, c.2), (y', upZ d.2.1 (6 * b + w) i, t', d.2.2.2), ?_, ?_, by omega, hE, hr, hVi, hNi⟩
        · show f_Search_factsAsSeen_L18 (f1 + 1) n st c.1 P1 k H O R b w c.2 i = _
          rw [f_Search_factsAsSeen_L18, bnd_eq hmo, chk_pos (by omega), chk_pos (by omega), if_neg (by omega), bnd_eq ef, bnd_eq ea, chk_pos (by decide), if_pos rfl]
        · show f_M_which_L10 (f2 + 1) d.1 d.2.1 S d.2.2.1 (6 * (b : Int) + w) ((m : Int) - 1) d.2.2.2 i = _
          rw [f_M_which_L10, chk_pos (by omega), chk_pos (by omega), if_neg (by omega), chk_pos (by omega), show (6 * (b : Int) + w).toNat = 6 * b + w by omega, bnd_eq es, bnd_eq (flag_eq 0 (Or.inl rfl)), zshl_0, zor_0 (by rw [← hE]; exact hr)]))
    (fun f1 f2 c d hI => by
      refine ⟨(c.2, c.1), (d.2.2.2, d.1, d.2.1, d.2.2.1), ?_, ?_, hI.2.1, hI.2.2.1⟩
      · show f_Search_factsAsSeen_L18 (f1 + 1) n st c.1 P1 k H O R b w c.2 m = _
        rw [f_Search_factsAsSeen_L18, bnd_eq hmo, chk_pos (by omega), chk_pos (by omega), if_pos (by omega)]
      · show f_M_which_L10 (f2 + 1) d.1 d.2.1 S d.2.2.1 (6 * (b : Int) + w) ((m : Int) - 1) d.2.2.2 m = _
        rw [f_M_which_L10, chk_pos (by omega), chk_pos (by omega), if_pos (by omega)])
    (m - lo) lo (F1, 0) (y, N', t, 0) 5000 5000 (by omega) (by omega) (by omega) ⟨Nat.le_refl _, rfl, by show inR 0; decide, hV, hR⟩
  have e1 : f_Search_factsAsSeen_L18 5000 n st F1 P1 k H O R b w 0 lo = some r1 := e1
  have e2 : f_M_which_L10 5000 y N' S t (6 * (b : Int) + w) ((m : Int) - 1) 0 lo = some r2 := e2
  refine ⟨r1.1, ((n : Int), st, r1.2, P1), (r2.2.1, r2.2.2.1, r2.2.2.2), e3.2, ?_, ?_⟩
  · unfold f_Search_factsAsSeen
    rw [bnd_eq (copy_eq _ _ _ _ _ _ _ _), bnd_eq hl, hF1, hP1, bnd_eq e1]
  · unfold f_M_which
    rw [bnd_eq hf, bnd_eq e2, e3.1]
theorem p_kinds {n : Nat} {st : Int} {F P S : Nat → Int} (h : RS n st F P S) {k : Nat} {H O R : Nat → Int} (hQ : RQ k H O R S) (x : Int) (hx : inR x) (db ds : Int) (dF dP y N t : Nat → Int) : ∃ v w1 w2, inR v ∧ f_HH_kinds db ds dF dP k H O R n st F P x = some (v, w1) ∧ f_M_kinds y N S t x = some (v, w2) := by
  have hn := h.1.1
  unfold f_HH_kinds f_M_kinds
  rw [gb (has_eq hn x hx), gb (mbox_eq h.2.2.1 hn x hx)]
  by_cases c : 0 ≤ x ∧ x < (n : Int)
  · rw [if_pos c, if_pos c]
    obtain ⟨b, rfl⟩ : ∃ b : Nat, x = b := ⟨x.toNat, by omega⟩
    obtain ⟨v, w1, w2, g1, g2, g3⟩ := facts_seen h hQ b 0 0 4 (by omega) (by omega) (by omega) (by omega) rfl rfl (fun i _ hi => ⟨by decide, by show (0 : Int) ≤ i; omega, by show (i : Int) ≤ 3; omega⟩) db ds dF dP y N t
    have g2 : f_Search_factsAsSeen db ds dF dP n st F P k H O R b 0 = some (v, w1) := g2
    have g3 : f_M_which y N S t (6 * (b : Int) + 0) 0 3 = some (v, w2) := g3
    rw [bnd_eq g2, bnd_eq g3]
    exact ⟨v, _, _, g1, rfl, rfl⟩
  · rw [if_neg c, if_neg c]
    exact ⟨-1, _, _, by decide, rfl, rfl⟩
theorem p_works {n : Nat} {st : Int} {F P S : Nat → Int} (h : RS n st F P S) {k : Nat} {H O R : Nat → Int} (hQ : RQ k H O R S) (x : Int) (hx : inR x) (db ds : Int) (dF dP y N t : Nat → Int) : ∃ v w1 w2, inR v ∧ f_HH_works db ds dF dP k H O R n st F P x = some (v, w1) ∧ f_M_works y N S t x = some (v, w2) := by
  have hn := h.1.1
  unfold f_HH_works f_M_works
  rw [gb (has_eq hn x hx), gb (mbox_eq h.2.2.1 hn x hx)]
  by_cases c : 0 ≤ x ∧ x < (n : Int)
  · rw [if_pos c, if_pos c]
    obtain ⟨b, rfl⟩ : ∃ b : Nat, x = b := ⟨x.toNat, by omega⟩
    obtain ⟨v, w1, w2, g1, g2, g3⟩ := facts_seen h hQ b 1 1 13 (by omega) (by omega) (by omega) (by omega) rfl rfl (fun i _ hi => ⟨by decide, by show (1 : Int) ≤ i; omega, by show (i : Int) ≤ 12; omega⟩) db ds dF dP y N t
    have g2 : f_Search_factsAsSeen db ds dF dP n st F P k H O R b 1 = some (v, w1) := g2
    have g3 : f_M_which y N S t (6 * (b : Int) + 1) 1 12 = some (v, w2) := g3
    rw [bnd_eq g2, bnd_eq g3]
    exact ⟨v, _, _, g1, rfl, rfl⟩
  · rw [if_neg c, if_neg c]
    exact ⟨-1, _, _, by decide, rfl, rfl⟩
/-! ===== drift ===== -/
theorem zand_bd (a : Int) : 0 ≤ zand a 32767 ∧ zand a 32767 ≤ 32767 := by
  have h1 : tN (zI a &&& zI 32767) = tN (zI a) &&& 32767 := tN_and _ _ _ _ rfl rfl
  have h2 : tN (zI a) &&& 32767 ≤ 32767 := Nat.and_le_right
  unfold zand
  rw [i32_nat _ _ h1 (by omega)]
  omega
theorem p_drift {n : Nat} {st : Int} {F P S : Nat → Int} (h : RS n st F P S) (x1 x2 x3 : Int) (h2 : inR x2) (h3 : inR x3) (db ds : Int) (dF dP y N t : Nat → Int) : ∃ v w1 w2, inR v ∧ f_HH_drift db ds dF dP n st F P x1 x2 x3 = some (v, w1) ∧ f_M_drift y N S t x1 x2 x3 = some (v, w2) := by
  have hn := h.1.1
  unfold f_HH_drift f_M_drift
  rw [gb (within_eq x2 1 60 h2 (by decide) (by decide)), gb (either_eq x3 h3), chk_pos h2, gb (in_eq x2 1 60 (inL_of h2) (by decide) (by decide)), gb (mpart_eq x3 h3)]
  by_cases c1 : 1 ≤ x2 ∧ x2 ≤ 60
  · rw [if_pos c1, if_pos c1]
    by_cases c2 : x3 = 0 ∨ x3 = 1
    · rw [if_pos c2, if_pos c2, bnd_eq (size_eq _), h.2.2.1, chk_pos (show inR (n : Int) by omega), chk_pos (show inR (n : Int) by omega)]
      by_cases c3 : (n : Int) = 0
      · rw [if_pos c3, if_pos c3]
        exact ⟨-2, _, _, by decide, rfl, rfl⟩
      · rw [if_neg c3, if_neg c3]
        obtain ⟨m, rfl⟩ : ∃ m : Nat, x2 = m := ⟨x2.toNat, by omega⟩
        obtain ⟨N', hf, hN⟩ := fetch_eq N S
        have hC := h.cp dF dP
        have hR := hC.rn hN
        have hV := hC.1
        generalize hF1 : cpZ F dF 30 = F1 at hC hR hV
        generalize hP1 : cpZ P dP 5 = P1 at hC hR hV
        obtain ⟨r1, r2, e1, e2, e3⟩ := lup2 (fun fuel (c : Int × (Nat → Int) × Int × Int) i => f_Search_drifted_L31 fuel n c.1 F1 c.2.1 m n c.2.2.1 c.2.2.2 i) (fun fuel (d : (Nat → Int) × Int × Int) i => f_M_drift_L47 fuel d.1 m d.2.1 d.2.2 i) m
          (fun i c d => c.2.2.1 = d.2.1 ∧ c.2.2.2 = d.2.2 ∧ (0 ≤ c.2.2.2 ∧ c.2.2.2 ≤ 540 * (i : Int)) ∧ VS n F1 c.2.1 c.1 ∧ RN n c.1 F1 c.2.1 d.1) (fun r1 r2 => r1.1 = r2.1 ∧ (0 ≤ r1.1 ∧ r1.1 ≤ 540 * 60) ∧ VS n F1 r1.2.2 r1.2.1 ∧ RN n r1.2.1 F1 r1.2.2 r2.2)
          (fun f1 f2 i c d hlt hI => Or.inl (by
            obtain ⟨hE, hE2, hbd, hV1, hR1⟩ := hI
            have hz := zand_bd (zshr (c.2.2.1 * 1103515245 + 12345) 16)
            have k1 : ∀ q : Int, q = zand (zshr (c.2.2.1 * 1103515245 + 12345) 16) 32767 → f_Search_drifted_L31 (f1 + 1) n c.1 F1 c.2.1 m n c.2.2.1 c.2.2.2 i = Option.bind (f_Shop_exchange n c.2.1 (q % n) (q / 8 % n)) (fun o17 => Option.bind (f_Shop_wrongOfAll n (q / 64 % 24) F1 o17) (fun o22 => f_Search_drifted_L31 f1 n (q / 64 % 24) F1 o17 m n (c.2.2.1 * 1103515245 + 12345) (c.2.2.2 + o22) ((i : Int) + 1))) := fun q hq => by
              subst hq
              rw [f_Search_drifted_L31, chk_pos (by omega), chk_pos (by omega), if_neg (by omega), if_neg (by omega), chk_pos (by omega), chk_pos (by omega), chk_pos (by omega)]
              refine congrArg _ (funext (fun o => ?_))
              rw [chk_pos (by omega), bnd_eq (setStart_eq _ _)]
            have hd30 : d.1 30 = (n : Int) := hR1.vn.1
            have k2 : ∀ q : Int, q = zand (zshr (c.2.2.1 * 1103515245 + 12345) 16) 32767 → f_M_drift_L47 (f2 + 1) d.1 m d.2.1 d.2.2 i = Option.bind (f_M_allWrong (upZ (upZ (upZ d.1 (31 + q % n).toNat (d.1 (31 + q / 8 % n).toNat)) (31 + q / 8 % n).toNat (d.1 (31 + q % n).toNat)) 36 (q / 64 % 24))) (fun o27 => f_M_drift_L47 f2 (upZ (upZ (upZ d.1 (31 + q % n).toNat (d.1 (31 + q / 8 % n).toNat)) (31 + q / 8 % n).toNat (d.1 (31 + q % n).toNat)) 36 (q / 64 % 24)) m (c.2.2.1 * 1103515245 + 12345) (d.2.2 + o27) ((i : Int) + 1)) := fun q hq => by
              subst hq
              have m1 := Int.emod_nonneg (zand (zshr (c.2.2.1 * 1103515245 + 12345) 16) 32767) c3
              have m2 := Int.emod_lt_of_pos (zand (zshr (c.2.2.1 * 1103515245 + 12345) 16) 32767) (b := n) (by omega)
              have m3 := Int.emod_nonneg (zand (zshr (c.2.2.1 * 1103515245 + 12345) 16) 32767 / 8) c3
              have m4 := Int.emod_lt_of_pos (zand (zshr (c.2.2.1 * 1103515245 + 12345) 16) 32767 / 8) (b := n) (by omega)
              rw [f_M_drift_L47, hd30, ← hE, chk_pos (by omega), chk_pos (by omega), if_neg (by omega), chk_pos (by omega), chk_pos (by omega), chk_pos (by omega), chk_pos (by omega), chk_pos (by omega), chk_pos (by omega)]
            have k1 := k1 _ rfl
            have k2 := k2 _ rfl
            generalize zand (zshr (c.2.2.1 * 1103515245 + 12345) 16) 32767 = q at hz k1 k2
            have m1 := Int.emod_nonneg q c3
            have m2 := Int.emod_lt_of_pos q (b := n) (by omega)
            have m3 := Int.emod_nonneg (q / 8) c3
            have m4 := Int.emod_lt_of_pos (q / 8) (b := n) (by omega)
            obtain ⟨u, hu⟩ : ∃ u : Nat, q % (n : Int) = u := ⟨(q % (n : Int)).toNat, by omega⟩
            obtain ⟨w, hw⟩ : ∃ u : Nat, q / 8 % (n : Int) = u := ⟨(q / 8 % (n : Int)).toNat, by omega⟩
            have hs : 0 ≤ q / 64 % 24 ∧ q / 64 % 24 ≤ 23 := by omega
            generalize q / 64 % 24 = s at hs k1 k2
            have hV2 := (hV1.swp (i := u) (j := w) (by omega) (by omega)).st hs
            have hR2 := (hR1.swapped (i := u) (j := w) (by omega) (by omega)).st hs
            have hx := exch_eq (P := c.2.1) hn u w (by omega) (by omega)
            rw [Int.toNat_natCast, Int.toNat_natCast] at hx
            have o1 : d.1 (31 + u) = c.2.1 u := hR1.es.2 u (by omega)
            have o2 : d.1 (31 + w) = c.2.1 w := hR1.es.2 w (by omega)
            have ha := sAll_bd hV2
            rw [hu, hw, bnd_eq hx, bnd_eq (wrongAll_eq hV2)] at k1
            rw [hu, hw, show (31 + (u : Int)).toNat = 31 + u by omega, show (31 + (w : Int)).toNat = 31 + w by omega, o1, o2, bnd_eq hR2.all] at k2
            refine ⟨(s, swp c.2.1 u w, c.2.2.1 * 1103515245 + 12345, c.2.2.2 + sAll F1 (swp c.2.1 u w) s n), (_, c.2.2.1 * 1103515245 + 12345, d.2.2 + sAll F1 (swp c.2.1 u w) s n), k1, k2, rfl, by show c.2.2.2 + _ = d.2.2 + _; rw [hE2], ?_, hV2, hR2⟩
            show 0 ≤ c.2.2.2 + sAll F1 (swp c.2.1 u w) s n ∧ c.2.2.2 + sAll F1 (swp c.2.1 u w) s n ≤ 540 * ((i + 1 : Nat) : Int)
            omega))
          (fun f1 f2 c d hI => by
            refine ⟨(c.2.2.2, c.1, c.2.1), (d.2.2, d.1), ?_, ?_, hI.2.1, ⟨hI.2.2.1.1, by have := hI.2.2.1.2; show c.2.2.2 ≤ 540 * 60; omega⟩, hI.2.2.2⟩
            · show f_Search_drifted_L31 (f1 + 1) n c.1 F1 c.2.1 m n c.2.2.1 c.2.2.2 m = _
              rw [f_Search_drifted_L31, chk_pos (by omega), chk_pos (by omega), if_pos (by omega)]
            · show f_M_drift_L47 (f2 + 1) d.1 m d.2.1 d.2.2 m = _
              rw [f_M_drift_L47, chk_pos (by omega), chk_pos (by omega), if_pos (by omega)])
          m 0 (st, P1, x1, 0) (N', x1, 0) 5000 5000 (by omega) (by omega) (by omega) ⟨rfl, rfl, by show (0 : Int) ≤ 0 ∧ (0 : Int) ≤ 540 * ((0 : Nat) : Int); omega, hV, hR⟩
        have e1 : f_Search_drifted_L31 5000 n st F1 P1 m n x1 0 0 = some r1 := e1
        have e2 : f_M_drift_L47 5000 N' m x1 0 0 = some r2 := e2
        obtain ⟨g1, g2, g3, g4⟩ := e3
        obtain ⟨y', t', ed, hD⟩ := g4.day y t
        rw [bnd_eq hf, bnd_eq e2, bnd_eq ed, chk_pos h3]
        unfold f_Search_drifted
        rw [bnd_eq (size_eq _), chk_pos (show inR (n : Int) by omega), if_pos (by omega), bnd_eq (copy_eq _ _ _ _ _ _ _ _), hF1, hP1, bnd_eq e1, chk_pos h3]
        by_cases c4 : x3 = 0
        · rw [if_pos c4, if_pos c4]
          exact ⟨r1.1, _, _, by omega, rfl, by rw [g1]⟩
        · rw [if_neg c4, if_neg c4, bnd_eq (yawnsAll_eq g3), bnd_eq hD.yawns]
          have hb := sYall_bd F1 r1.2.2 r1.2.1 n
          exact ⟨sYall F1 r1.2.2 r1.2.1 n, _, _, by omega, rfl, rfl⟩
    · rw [if_neg c2, if_neg c2]
      exact ⟨-1, _, _, by decide, rfl, rfl⟩
  · rw [if_neg c1, if_neg c1]
    exact ⟨-1, _, _, by decide, rfl, rfl⟩
