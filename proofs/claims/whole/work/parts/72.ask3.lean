theorem ways0_eq (W : Nat → Int) : ∃ W', f_M_ask_L17 5000 W 0 = some W' ∧ ∀ j, j < 2880 → W' j = 0 := by
  have hz := lup0 (fun fuel (b : Nat → Int) i => f_M_ask_L17 fuel b i) 2880 (fun i b => upZ b i 0) some (fun i b => ∀ j, j < i → b j = 0)
    (fun fuel i b hi hI => ⟨by
      show f_M_ask_L17 (fuel + 1) b i = _
      rw [f_M_ask_L17, Int.toNat_natCast]
      simp (disch := omega) only [chk_pos, if_neg], fun j hj => by
      by_cases c : j = i
      · subst c; exact upZ_same _ _ _
      · show upZ b i _ j = _
        rw [upZ_ne _ _ c]; exact hI j (by omega)⟩)
    (fun fuel b _ => by
      show f_M_ask_L17 (fuel + 1) b ((2880 : Nat) : Int) = _
      rw [f_M_ask_L17, chk_pos (by decide), if_pos (by decide)]) W 5000 (by omega) (fun j hj => by omega)
  exact ⟨_, hz.1, hz.2⟩
theorem ways1_eq (T W : Nat → Int) (hT : ∀ j, j < 120 → 0 ≤ T j ∧ T j ≤ 23) : ∃ W', f_M_ask_L75 5000 T W 0 = some W' ∧ ∀ j t : Nat, j < 120 → t < 24 → W' (24 * j + t) = W (24 * j + t) + (if T j = (t : Int) then 1 else 0) := by
  obtain ⟨q, e1, e2⟩ := lupE (fun fuel (b : Nat → Int) i => f_M_ask_L75 fuel T b i) 120 (fun i b => (∀ j t : Nat, j < i → t < 24 → b (24 * j + t) = W (24 * j + t) + (if T j = (t : Int) then 1 else 0)) ∧ ∀ m, 24 * i ≤ m → b m = W m) (fun b => ∀ j t : Nat, j < 120 → t < 24 → b (24 * j + t) = W (24 * j + t) + (if T j = (t : Int) then 1 else 0))
    (fun f i b hi hI => by
      have ht := hT i hi
      obtain ⟨t0, et⟩ : ∃ t : Nat, T i = t := ⟨(T i).toNat, by omega⟩
      refine ⟨upZ b (24 * i + t0) (b (24 * i + t0) + 1), ?_, fun j t hj ht2 => ?_, fun m hm => ?_⟩
      · show f_M_ask_L75 (f + 1) T b i = _
        rw [f_M_ask_L75, Int.toNat_natCast, et, chk_pos (by omega), if_neg (by omega), chk_pos (by omega), chk_pos (by omega), show (24 * (i : Int) + t0).toNat = 24 * i + t0 by omega]
      · by_cases e : j = i
        · subst e
          rw [et]
          by_cases e2 : t = t0
          · subst e2
            rw [upZ_same, hI.2 _ (by omega), if_pos rfl]
          · rw [upZ_ne _ _ (by omega), hI.2 _ (by omega), if_neg (by omega), Int.add_zero]
        · rw [upZ_ne _ _ (by omega)]
          exact hI.1 j t (by omega) ht2
      · rw [upZ_ne _ _ (by omega)]
        exact hI.2 m (by omega))
    (fun f b hI => by
      refine ⟨b, ?_, hI.1⟩
      show f_M_ask_L75 (f + 1) T b ((120 : Nat) : Int) = _
      rw [f_M_ask_L75, chk_pos (by decide), if_pos (by decide)])
    120 0 W 5000 (by omega) (by omega) ⟨fun j t hj => by omega, fun m _ => rfl⟩
  exact ⟨q, e1, e2⟩
theorem row_max (W : Nat → Int) (j : Nat) (hj : j < 120) (hW : ∀ t, t < 24 → 0 ≤ W (24 * j + t) ∧ W (24 * j + t) ≤ 24) : f_M_ask_L132 5000 W j 0 0 = some (mxT (fun t => W (24 * j + t)) 24) := by
  have h := lup0 (fun fuel (c : Int) i => f_M_ask_L132 fuel W j c i) 24 (fun i c => if W (24 * j + i) ≤ c then c else W (24 * j + i)) some (fun i c => c = mxT (fun t => W (24 * j + t)) i ∧ 0 ≤ c ∧ c ≤ 24)
    (fun fuel i c hi hI => by
      have hw := hW i hi
      refine ⟨?_, by rw [hI.1]; rfl, ?_⟩
      · show f_M_ask_L132 (fuel + 1) W j c i = _
        rw [f_M_ask_L132, show (24 * (j : Int) + i).toNat = 24 * j + i by omega, chk_pos (by omega), if_neg (by omega), chk_pos (by omega), chk_pos (by omega), chk_pos (by omega)]
        by_cases q : W (24 * j + i) ≤ c
        · rw [if_pos q, if_pos q]
        · rw [if_neg q, if_neg q]
      · show 0 ≤ (if W (24 * j + i) ≤ c then c else W (24 * j + i)) ∧ (if W (24 * j + i) ≤ c then c else W (24 * j + i)) ≤ 24
        split <;> omega)
    (fun fuel c _ => by
      show f_M_ask_L132 (fuel + 1) W j c ((24 : Nat) : Int) = _
      rw [f_M_ask_L132, chk_pos (by decide), if_pos (by decide)]) 0 5000 (by omega) ⟨rfl, by omega, by omega⟩
  exact h.1.trans (congrArg some h.2.1)
/-- what a cell leaves at most -/
def mxC (F P : Nat → Int) (n : Nat) (p : Nat → Bool) (j : Nat) : Int := mxS p (fun h => sTold F P (h : Nat) n ((j / 24 : Nat) : Int) ((j % 24 : Nat) : Int))
theorem ways_eq {n : Nat} {st : Int} {F P S N : Nat → Int} (hN : RN n st F P N) {k : Nat} {H O R : Nat → Int} (hQ : RQ k H O R S) (y t W : Nat → Int) (hW : ∀ j, j < 2880 → W j = 0) : ∃ y' N' t' W', f_M_ask_L46 5000 y N S t W 0 0 = some ((fb_ct (pS F P n k H O R) 24 : Int), y', N', t', W') ∧ ∀ j u : Nat, j < 120 → u < 24 → W' (24 * j + u) = cnT (pS F P n k H O R) (fun h => sTold F P (h : Nat) n ((j / 24 : Nat) : Int) ((j % 24 : Nat) : Int)) 24 u := by
  obtain ⟨q, e1, e2, e3⟩ := lupE (fun fuel (c : Int × (Nat → Int) × (Nat → Int) × (Nat → Int) × (Nat → Int)) i => f_M_ask_L46 fuel c.2.1 c.2.2.1 S c.2.2.2.1 c.2.2.2.2 c.1 i) 24
    (fun i c => c.1 = (fb_ct (pS F P n k H O R) i : Int) ∧ (∃ s, RN n s F P c.2.2.1) ∧ ∀ j u : Nat, j < 120 → u < 24 → c.2.2.2.2 (24 * j + u) = cnT (pS F P n k H O R) (fun h => sTold F P (h : Nat) n ((j / 24 : Nat) : Int) ((j % 24 : Nat) : Int)) i u)
    (fun q => q.1 = (fb_ct (pS F P n k H O R) 24 : Int) ∧ ∀ j u : Nat, j < 120 → u < 24 → q.2.2.2.2 (24 * j + u) = cnT (pS F P n k H O R) (fun h => sTold F P (h : Nat) n ((j / 24 : Nat) : Int) ((j % 24 : Nat) : Int)) 24 u)
    (fun f i c hi hI => by
      obtain ⟨i1, ⟨s, hs⟩, i3⟩ := hI
      have hNi := hs.st (i := i) (by omega)
      obtain ⟨y', t', es, hD⟩ := isSo_eq hNi hQ c.2.1 c.2.2.2.1
      have hle := fb_ct_le (pS F P n k H O R) i
      cases ha : pS F P n k H O R i with
      | true =>
        have ha2 : agr (agC F P (i : Nat) n H O R) k = true := ha
        rw [ha2, if_pos rfl] at es
        obtain ⟨W', w1, w2⟩ := ways1_eq t' c.2.2.2.2 (fun j hj => by
          have e := hD.wt (j / 24) (j % 24) (by omega) (by omega)
          rw [show 24 * (j / 24) + j % 24 = j by omega] at e
          rw [e]
          exact sTold_bd _ _ (by omega))
        refine ⟨(c.1 + 1, y', upZ c.2.2.1 36 i, t', W'), ?_, by show c.1 + 1 = _; rw [fb_ct_succ, ha, if_pos rfl, i1]; omega, ⟨i, hNi⟩, fun j u hj hu => ?_⟩
        · show f_M_ask_L46 (f + 1) c.2.1 c.2.2.1 S c.2.2.2.1 c.2.2.2.2 c.1 i = _
          rw [f_M_ask_L46, chk_pos (by omega), if_neg (by omega), bnd_eq es, chk_pos (by show inR 1; decide), if_neg (by show ¬ (1 : Int) = 0; decide), bnd_eq w1]
        · show W' (24 * j + u) = _
          have e := hD.wt (j / 24) (j % 24) (by omega) (by omega)
          rw [show 24 * (j / 24) + j % 24 = j by omega] at e
          rw [w2 j u hj hu, i3 j u hj hu, cnT_yes ha, e]
      | false =>
        have ha2 : agr (agC F P (i : Nat) n H O R) k = false := ha
        rw [ha2, if_neg (by decide)] at es
        refine ⟨(c.1, y', upZ c.2.2.1 36 i, t', c.2.2.2.2), ?_, by show c.1 = _; rw [fb_ct_succ, ha, if_neg (by decide), i1]; omega, ⟨i, hNi⟩, fun j u hj hu => ?_⟩
        · show f_M_ask_L46 (f + 1) c.2.1 c.2.2.1 S c.2.2.2.1 c.2.2.2.2 c.1 i = _
          rw [f_M_ask_L46, chk_pos (by omega), if_neg (by omega), bnd_eq es, chk_pos (by show inR 0; decide), if_pos (by show (0 : Int) = 0; rfl)]
        · show c.2.2.2.2 (24 * j + u) = _
          rw [i3 j u hj hu, cnT_no ha])
    (fun f c hI => by
      refine ⟨(c.1, c.2.1, c.2.2.1, c.2.2.2.1, c.2.2.2.2), ?_, hI.1, hI.2.2⟩
      show f_M_ask_L46 (f + 1) c.2.1 c.2.2.1 S c.2.2.2.1 c.2.2.2.2 c.1 ((24 : Nat) : Int) = _
      rw [f_M_ask_L46, chk_pos (by decide), if_pos (by decide)])
    24 0 (0, y, N, t, W) 5000 (by omega) (by omega) ⟨rfl, ⟨st, hN⟩, fun j u hj hu => by show W (24 * j + u) = _; rw [hW _ (by omega)]; rfl⟩
  obtain ⟨q1, q2, q3, q4, q5⟩ := q
  dsimp only at e2 e3
  subst e2
  exact ⟨_, _, _, _, e1, e3⟩
theorem least_eq (W : Nat → Int) (mx : Nat → Int) (hW : ∀ j : Nat, j < 120 → f_M_ask_L132 5000 W j 0 0 = some (mx j)) (hm : ∀ j, 0 ≤ mx j ∧ mx j ≤ 24) (c0 : Int) (hc : 0 ≤ c0 ∧ c0 ≤ 24) : f_M_ask_L119 5000 W c0 (-4) 0 = some (itr (stp mx) 0 120 (c0, -4)) := by
  have h := lup0 (fun fuel (c : Int × Int) i => f_M_ask_L119 fuel W c.1 c.2 i) 120 (stp mx) some (fun _ c => 0 ≤ c.1 ∧ c.1 ≤ 24)
    (fun fuel i c hi hI => by
      have hb := hm i
      refine ⟨?_, ?_⟩
      · show f_M_ask_L119 (fuel + 1) W c.1 c.2 i = _
        rw [f_M_ask_L119, chk_pos (by omega), if_neg (by omega), bnd_eq (hW i hi), chk_pos (by omega), chk_pos (by omega), lesser_eq _ _ (by omega) (by omega)]
        unfold stp
        by_cases q : c.1 ≤ mx i
        · rw [if_pos q, if_pos q, if_pos q]; rfl
        · rw [if_neg q, if_neg q, if_neg q]; rfl
      · unfold stp
        by_cases q : c.1 ≤ mx i
        · rw [if_pos q]; exact hI
        · rw [if_neg q]; exact hb)
    (fun fuel c _ => by
      show f_M_ask_L119 (fuel + 1) W c.1 c.2 ((120 : Nat) : Int) = _
      rw [f_M_ask_L119, chk_pos (by decide), if_pos (by decide)]) (c0, -4) 5000 (by omega) hc
  exact h.1
theorem p_ask {n : Nat} {st : Int} {F P S : Nat → Int} (h : RS n st F P S) {k : Nat} {H O R : Nat → Int} (hQ : RQ k H O R S) (x : Int) (hx : inR x) (db ds : Int) (dF dP : Nat → Int) (la lv : Int) (sl y N t W : Nat → Int) : ∃ v w1 w2, inR v ∧ f_HH_ask db ds dF dP la lv sl k H O R n st F P x = some (v, w1) ∧ f_M_ask y N S t W x = some (v, w2) := by
  unfold f_HH_ask f_M_ask
  rw [gb (either_eq x hx), gb (mpart_eq x hx)]
  by_cases c : x = 0 ∨ x = 1
  · rw [if_pos c, if_pos c]
    obtain ⟨N', hf, hN⟩ := fetch_eq N S
    have hC := h.cp dF dP
    have hV := hC.1
    have hn := hV.1
    have hC2 := h.cp (cpZ F dF 30) (cpZ P dP 5)
    have eC : cpZ F (cpZ F dF 30) 30 = cpZ F dF 30 := by funext j; unfold cpZ; by_cases q : j < 30 <;> simp [q]
    have eP : cpZ P (cpZ P dP 5) 5 = cpZ P dP 5 := by funext j; unfold cpZ; by_cases q : j < 5 <;> simp [q]
    have hR := hC.rn hN
    generalize hF1 : cpZ F dF 30 = F1 at hC hV hR eC
    generalize hP1 : cpZ P dP 5 = P1 at hC hV hR eP
    obtain ⟨s', es⟩ := startsSeen_eq hV hQ
    have e1 : f_Search_startsAsSeen db ds dF dP n st F P k H O R = some (sMask (pS F1 P1 n k H O R) 24, (n : Int), s', F1, P1) := by
      unfold f_Search_startsAsSeen
      rw [bnd_eq (copy_eq _ _ _ _ _ _ _ _), hF1, hP1, bnd_eq es]
    obtain ⟨W0, w1, w2⟩ := ways0_eq W
    obtain ⟨y', N2, t', W', w3, w4⟩ := ways_eq hR hQ y t W0 w2
    generalize pS F1 P1 n k H O R = p at es e1 w3 w4
    have h24 := fb_ct_le p 24
    have hm : ∀ j, 0 ≤ mxC F1 P1 n p j ∧ mxC F1 P1 n p j ≤ (fb_ct p 24 : Int) := fun j => mxS_bd _ _
    have hm1 : 0 < fb_ct p 24 → ∀ j, j < 120 → 1 ≤ mxC F1 P1 n p j := fun hp j _ => mxS_pos _ _ (fun i _ => sTold_bd _ _ (by omega)) hp
    have hmx : ∀ r x : Nat, r < 5 → x < 24 → mxC F1 P1 n p (24 * r + x) = mxS p (fun h => sTold F1 P1 (h : Nat) n r x) := fun r x hr hx => by
      unfold mxC
      rw [show (24 * r + x) / 24 = r by omega, show (24 * r + x) % 24 = x by omega]
    have hrow : ∀ j : Nat, j < 120 → f_M_ask_L132 5000 W' j 0 0 = some (mxC F1 P1 n p j) := fun j hj => by
      have hc : ∀ u, u < 24 → 0 ≤ W' (24 * j + u) ∧ W' (24 * j + u) ≤ 24 := fun u hu => by
        rw [w4 j u hj hu]
        unfold cnT
        have h1 : fb_ct (fun i => p i && decide ((fun h : Nat => sTold F1 P1 (h : Nat) n ((j / 24 : Nat) : Int) ((j % 24 : Nat) : Int)) i = (u : Int))) 24 ≤ 24 := fb_ct_le _ 24
        omega
      rw [row_max W' j hj hc]
      exact congrArg some (mxT_cong (fun u hu => w4 j u hj hu))
    have eL := least_eq W' (mxC F1 P1 n p) hrow (fun j => by have := hm j; omega) (fb_ct p 24 : Int) (by omega)
    obtain ⟨s2, sl2, eA⟩ := look_all hV p (mxC F1 P1 n p) hmx hm hm1 sl
    have h0 : okL (mxC F1 P1 n p) (fb_ct p 24) 0 ((fb_ct p 24 : Int), -4) := ⟨by show (0 : Int) ≤ _ ∧ _; omega, Or.inl rfl⟩
    have hok := okL_itr hm h0 120
    generalize itr (stp (mxC F1 P1 n p)) 0 120 ((fb_ct p 24 : Int), -4) = d at eL eA hok
    obtain ⟨k1, k2⟩ := hok
    have k2 : d.2 = -4 ∨ (0 ≤ d.2 ∧ d.2 < 120) := k2
    have e5 : f_Search_bestLook n s' F1 P1 la lv sl n st F P (sMask p 24) = some ((n : Int), s2, F1, P1, enc d.2, d.1, sl2) := by
      unfold f_Search_bestLook
      rw [bnd_eq (copy_eq _ _ _ _ _ _ _ _), bnd_eq (bitCount_eq p), bnd_eq (seek_eq _ _ _), eC, eP, bnd_eq eA]
    rw [bnd_eq e1, bnd_eq e5, bnd_eq w1, bnd_eq hf, bnd_eq w3, bnd_eq eL, chk_pos (by omega)]
    by_cases c4 : d.2 = -4
    · have e6 : f_Search_told (enc d.2) d.1 x = some (-4) := by
        unfold f_Search_told f_Least_at f_Least_value enc
        rw [if_pos c4, chk_pos hx, chk_pos (by decide), if_pos rfl]
        split <;> rfl
      rw [if_pos c4, bnd_eq e6]
      exact ⟨-4, _, _, by decide, rfl, rfl⟩
    · have he : enc d.2 = 100 * (d.2 / 24) + d.2 % 24 := if_neg c4
      rw [if_neg c4, bnd_eq (told_eq (enc d.2) d.1 x (by omega) hx (by omega)), chk_pos hx, chk_pos (by omega), he]
      by_cases q : x = 0
      · rw [if_pos q, if_pos q]
        exact ⟨100 * (d.2 / 24) + d.2 % 24, _, _, by omega, rfl, rfl⟩
      · rw [if_neg q, if_neg q]
        exact ⟨d.1, _, _, by omega, rfl, rfl⟩
  · rw [if_neg c, if_neg c]
    exact ⟨-1, _, _, by decide, rfl, rfl⟩
