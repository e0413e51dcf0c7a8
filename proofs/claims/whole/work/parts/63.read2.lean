theorem p_read {n : Nat} {st : Int} {F P S : Nat → Int} (h : RS n st F P S) {C L Z C' L' Z' : Nat → Int} (hH : RH C L Z C' L' Z') (x1 x2 x3 x4 : Int) (h1 : inR x1) (h2 : inR x2) (h3 : inR x3) (h4 : inR x4) (lt : Int) (hlt : inR lt) (db ds : Int) (dF dP B : Nat → Int) :
    ∃ (v t' a b : Int) (a1 a2 : Nat → Int) (n' : Nat) (st' : Int) (F' P' B' S' : Nat → Int), inR v ∧ inR t' ∧ f_HH_read lt db ds dF dP C L Z n st F P x1 x2 x3 x4 = some (v, t', a, b, a1, a2, (n' : Int), st', F', P') ∧ f_M_read lt B C' L' Z' S x1 x2 x3 x4 = some (v, t', B', S') ∧ RS n' st' F' P' S' ∧ ∀ k, 37 ≤ k → S' k = S k := by
  have hn := h.1.1
  unfold f_HH_read f_M_read
  rw [gb (shas_eq x1 h1), gb (slane_eq x2 h2), gb (within_eq x4 0 13 h4 (by decide) (by decide)), gb (msheet_eq x1 x2 h1 h2), chk_pos h4, gb (in_eq x4 0 13 (inL_of h4) (by decide) (by decide))]
  by_cases c1 : 0 ≤ x1 ∧ x1 ≤ 3
  · rw [if_pos c1]
    by_cases c2 : 0 ≤ x2 ∧ x2 ≤ 2
    · rw [if_pos c2, if_pos (show (0 ≤ x1 ∧ x1 ≤ 3) ∧ 0 ≤ x2 ∧ x2 ≤ 2 from ⟨c1, c2⟩)]
      by_cases c3 : 0 ≤ x4 ∧ x4 ≤ 13
      · rw [if_pos c3, if_pos c3]
        obtain ⟨s, rfl⟩ : ∃ s : Nat, x1 = s := ⟨x1.toNat, by omega⟩
        obtain ⟨m, rfl⟩ : ∃ m : Nat, x4 = m := ⟨x4.toNat, by omega⟩
        have hs : s < 4 := by omega
        obtain ⟨B1, hB, hB2⟩ := copy56 B S
        have ed : f_Search_draftOf db ds dF dP n st F P = some ((n : Int), st, cpZ F dF 30, cpZ P dP 5) := rfl
        rw [bnd_eq ed, bnd_eq hB]
        have hC := h.cp dF dP
        generalize cpZ F dF 30 = F1 at hC
        generalize cpZ P dP 5 = P1 at hC
        obtain ⟨r1, r2, e1, e2, e3⟩ := lup2 (fun fuel (c : Int × (Nat → Int) × (Nat → Int) × Int × Int) i => f_HH_read_L49 fuel lt c.1 st c.2.1 c.2.2.1 C L Z n st F P s x2 x3 m c.2.2.2.1 c.2.2.2.2 i) (fun fuel (d : (Nat → Int) × Int × Int) i => f_M_read_L62 fuel lt B1 C' L' Z' d.1 s x2 x3 m d.2.1 d.2.2 i) m
          (fun i c d => ∃ q : Nat, c.1 = q ∧ RS q st c.2.1 c.2.2.1 d.1 ∧ (∀ k, 37 ≤ k → d.1 k = S k) ∧ c.2.2.2.1 = d.2.1 ∧ (0 ≤ d.2.1 ∧ d.2.1 ≤ 3) ∧ c.2.2.2.2 = d.2.2 ∧ (0 ≤ d.2.2 ∧ d.2.2 ≤ (i : Int)) ∧ (d.2.1 = 0 → inR (x3 + 3 * i)))
          (fun r1 r2 => r1.1 = r2.1 ∧ r1.2.1 = r2.2.1 ∧ inR r1.1 ∧ inR r1.2.1 ∧ ∃ q : Nat, r1.2.2.2.2.2.2.1 = q ∧ RS q r1.2.2.2.2.2.2.2.1 r1.2.2.2.2.2.2.2.2.1 r1.2.2.2.2.2.2.2.2.2 r2.2.2.2 ∧ ∀ k, 37 ≤ k → r2.2.2.2 k = S k)
          (fun f1 f2 i c d hi hI => by
            obtain ⟨c1, cF, cP, c6, c7⟩ := c
            obtain ⟨dS, d5, d6⟩ := d
            obtain ⟨q, i1, i2, i3, i4, i5, i6, i7, i8⟩ := hI
            dsimp only at i1 i2 i3 i4 i5 i6 i7 i8
            subst i1 i4 i6
            by_cases z : c6 = 0
            · subst z
              have he := i8 rfl
              obtain ⟨g, g1, g2, g3, g4⟩ := three_eq hH s hs x2 x3 i (by omega) h2 h3 he
              by_cases z : g = 0
              · subst z
                obtain ⟨g5, g6, g7⟩ := g4 rfl
                obtain ⟨e, hee⟩ : ∃ e : Nat, x3 + 3 * (i : Int) = e := ⟨(x3 + 3 * (i : Int)).toNat, by omega⟩
                have hq : ∀ c : Nat, (c : Int) < Z s → C (40 * s + c) = C' (40 * s + c) ∧ inR (C (40 * s + c)) := by
                  rcases hH s hs with p | p
                  · have := p.1; omega
                  · exact p.2.2.2.2
                have v0 := hq e (by omega)
                have v1 := hq (e + 1) (by omega)
                have v2 := hq (e + 2) (by omega)
                have t0 := cellAt_eq (C := C) s e hs g5 (by omega)
                have t1 := cellAt_eq (C := C) s (e + 1) hs g5 (by omega)
                have t2 := cellAt_eq (C := C) s (e + 2) hs g5 (by omega)
                have k1 : f_HH_read_L49 (f1 + 1) lt q st cF cP C L Z n st F P s x2 x3 m 0 c7 i = Option.bind (f_HH_sewnFromCells C Z q cF cP s e) (fun o34 => chk (inR o34.1) (if o34.1 = 0 then some ((-20) - (i : Int), lt, o34.2.1, st, o34.2.2.1, o34.2.2.2, (n : Int), st, F, P) else f_HH_read_L49 f1 lt o34.2.1 st o34.2.2.1 o34.2.2.2 C L Z n st F P s x2 x3 m 0 (c7 + 1) ((i : Int) + 1))) := by
                  rw [f_HH_read_L49, chk_pos (by omega), chk_pos (by omega), if_neg (by omega), chk_pos (by decide), if_pos rfl, bnd_eq g2, chk_pos (by decide), if_pos rfl, hee]
                have k2 : f_M_read_L62 (f2 + 1) lt B1 C' L' Z' dS s x2 x3 m 0 c7 i = Option.bind (f_M_sew dS (C (40 * s + e)) (C (40 * s + (e + 1))) (C (40 * s + (e + 2)))) (fun o55 => chk (inR o55.1) (if 0 ≤ o55.1 then f_M_read_L62 f2 lt B1 C' L' Z' o55.2 s x2 x3 m 0 (c7 + 1) ((i : Int) + 1) else Option.bind (f_M_read_L217 5000 B1 o55.2 0) (fun o65 => some ((-20) - (i : Int), lt, B1, o65)))) := by
                  rw [f_M_read_L62, chk_pos (by omega), chk_pos (by omega), if_neg (by omega), chk_pos (by decide), if_pos rfl, bnd_eq g3, chk_pos (by decide), if_pos rfl, chk_pos (by omega), chk_pos (by omega), chk_pos (by omega), show (40 * (s : Int) + x3 + 3 * i).toNat = 40 * s + e by omega, show (40 * (s : Int) + x3 + 3 * i + 1).toNat = 40 * s + (e + 1) by omega, show (40 * (s : Int) + x3 + 3 * i + 2).toNat = 40 * s + (e + 2) by omega, ← v0.1, ← v1.1, ← v2.1]
                have ks : f_HH_sewnFromCells C Z q cF cP s e = Option.bind (f_Shop_refusal q (C (40 * s + e)) (C (40 * s + (e + 1))) (C (40 * s + (e + 2)))) (fun o7 => chk (inR o7) (if o7 = 0 then Option.bind (f_Shop_addPlain q cF cP (C (40 * s + e)) (C (40 * s + (e + 1))) (C (40 * s + (e + 2)))) (fun o12 => some (1, o12.2.1, o12.2.2.1, o12.2.2.2)) else some (0, (q : Int), cF, cP))) := by
                  have t1 : f_Sheets_cellAt C Z s ((e : Int) + 1) = some (C (40 * s + (e + 1))) := t1
                  have t2 : f_Sheets_cellAt C Z s ((e : Int) + 2) = some (C (40 * s + (e + 2))) := t2
                  unfold f_HH_sewnFromCells
                  rw [bnd_eq t0, bnd_eq t1, bnd_eq t2]
                have hqn := i2.1.1
                rcases sew_both i2 _ _ _ v0.2 v1.2 v2.2 with ⟨F', P', S', p1, p2, p3, p4, p5⟩ | ⟨r, hr, p1, p2⟩
                · left
                  rw [bnd_eq p1, chk_pos (by decide), if_pos rfl, bnd_eq p2] at ks
                  rw [bnd_eq ks] at k1
                  rw [bnd_eq p3] at k2
                  refine ⟨(((q + 1 : Nat) : Int), F', P', 0, c7 + 1), (S', 0, c7 + 1), ?_, ?_, q + 1, rfl, p4, fun k hk => by show S' k = S k; rw [p5 k hk, i3 k hk], rfl, i5, rfl, ?_, fun _ => ?_⟩
                  · refine k1.trans ?_
                    rw [chk_pos (by show inR 1; decide), if_neg (by show ¬ (1 : Int) = 0; decide)]
                  · refine k2.trans ?_
                    rw [chk_pos (by show inR ((q : Int) + 1); omega), if_pos (by show 0 ≤ (q : Int) + 1; omega)]
                  · show 0 ≤ c7 + 1 ∧ c7 + 1 ≤ ((i + 1 : Nat) : Int)
                    omega
                  · show inR (x3 + 3 * ((i + 1 : Nat) : Int))
                    omega
                · right
                  have hr0 : ¬ r = 0 := by omega
                  rw [bnd_eq p1, chk_pos (by omega), if_neg hr0] at ks
                  rw [bnd_eq ks] at k1
                  obtain ⟨S2, w1, w2, w3⟩ := back56 B1 dS
                  rw [bnd_eq p2] at k2
                  refine ⟨((-20) - (i : Int), lt, (q : Int), st, cF, cP, (n : Int), st, F, P), ((-20) - (i : Int), lt, B1, S2), ?_, ?_, rfl, rfl, by show inR ((-20) - (i : Int)); omega, hlt, n, rfl, h.congS (fun j hj => by show S2 j = S j; rw [w2 j (by omega), hB2 j (by omega)]), fun k hk => ?_⟩
                  · refine k1.trans ?_
                    rw [chk_pos (by show inR 0; decide), if_pos rfl]
                  · refine k2.trans ?_
                    rw [chk_pos (by show inR r; omega), if_neg (by show ¬ 0 ≤ r; omega), bnd_eq w1]
                  · show S2 k = S k
                    by_cases e : k < 56
                    · rw [w2 k e, hB2 k e]
                    · rw [w3 k (by omega), i3 k hk]
              · left
                refine ⟨((q : Int), cF, cP, g, c7), (dS, g, c7), ?_, ?_, q, rfl, i2, i3, rfl, g1, rfl, ?_, fun e => absurd e z⟩
                · show f_HH_read_L49 (f1 + 1) lt q st cF cP C L Z n st F P s x2 x3 m 0 c7 i = _
                  rw [f_HH_read_L49, chk_pos (by omega), chk_pos (by omega), if_neg (by omega), chk_pos (by decide), if_pos rfl, bnd_eq g2, chk_pos (by omega), if_neg z]
                · show f_M_read_L62 (f2 + 1) lt B1 C' L' Z' dS s x2 x3 m 0 c7 i = _
                  rw [f_M_read_L62, chk_pos (by omega), chk_pos (by omega), if_neg (by omega), chk_pos (by decide), if_pos rfl, bnd_eq g3, chk_pos (by omega), if_neg z]
                · show 0 ≤ c7 ∧ c7 ≤ ((i + 1 : Nat) : Int)
                  omega
            · right
              refine ⟨(c7, c6, (q : Int), st, cF, cP, (q : Int), st, cpZ cF F 30, cpZ cP P 5), (c7, c6, B1, dS), ?_, ?_, rfl, rfl, by show inR c7; omega, by show inR c6; omega, q, rfl, i2.cp F P, i3⟩
              · show f_HH_read_L49 (f1 + 1) lt q st cF cP C L Z n st F P s x2 x3 m c6 c7 i = _
                rw [f_HH_read_L49, chk_pos (by omega), chk_pos (by omega), if_neg (by omega), chk_pos (by omega), if_neg z, bnd_eq (copy_eq _ _ _ _ _ _ _ _)]
              · show f_M_read_L62 (f2 + 1) lt B1 C' L' Z' dS s x2 x3 m c6 c7 i = _
                rw [f_M_read_L62, chk_pos (by omega), chk_pos (by omega), if_neg (by omega), chk_pos (by omega), if_neg z])
          (fun f1 f2 c d hI => by
            obtain ⟨c1, cF, cP, c6, c7⟩ := c
            obtain ⟨dS, d5, d6⟩ := d
            obtain ⟨q, i1, i2, i3, i4, i5, i6, i7, i8⟩ := hI
            dsimp only at i1 i2 i3 i4 i5 i6 i7 i8
            subst i1 i4 i6
            refine ⟨(c7, c6, (q : Int), st, cF, cP, (q : Int), st, cpZ cF F 30, cpZ cP P 5), (c7, c6, B1, dS), ?_, ?_, rfl, rfl, by show inR c7; omega, by show inR c6; omega, q, rfl, i2.cp F P, i3⟩
            · show f_HH_read_L49 (f1 + 1) lt q st cF cP C L Z n st F P s x2 x3 m c6 c7 m = _
              rw [f_HH_read_L49, chk_pos (by omega), chk_pos (by omega), if_pos (by omega), bnd_eq (copy_eq _ _ _ _ _ _ _ _)]
            · show f_M_read_L62 (f2 + 1) lt B1 C' L' Z' dS s x2 x3 m c6 c7 m = _
              rw [f_M_read_L62, chk_pos (by omega), chk_pos (by omega), if_pos (by omega)])
          m 0 ((n : Int), F1, P1, 0, 0) (S, 0, 0) 5000 5000 (by omega) (by omega) (by omega) ⟨n, rfl, hC, fun _ _ => rfl, rfl, by show (0 : Int) ≤ 0 ∧ (0 : Int) ≤ 3; decide, rfl, by show (0 : Int) ≤ 0 ∧ (0 : Int) ≤ ((0 : Nat) : Int); decide, fun _ => by show inR (x3 + 3 * ((0 : Nat) : Int)); omega⟩
        obtain ⟨a1, a2, a3, a4, a5, a6, a7, a8, a9, a10⟩ := r1
        obtain ⟨b1, b2, b3, b4⟩ := r2
        obtain ⟨g1, g2, g3, g4, q, g5, g6, g7⟩ := e3
        dsimp only at g1 g2 g3 g4 g5 g6 g7
        subst g1 g2 g5
        exact ⟨_, _, _, _, _, _, q, _, _, _, _, _, g3, g4, e1, e2, g6, g7⟩
      · rw [if_neg c3, if_neg c3]
        exact ⟨-1, lt, _, _, _, _, n, _, _, _, _, _, by decide, hlt, rfl, rfl, h, fun _ _ => rfl⟩
    · rw [if_neg c2, if_neg (fun q : (0 ≤ x1 ∧ x1 ≤ 3) ∧ 0 ≤ x2 ∧ x2 ≤ 2 => c2 q.2)]
      exact ⟨-1, lt, _, _, _, _, n, _, _, _, _, _, by decide, hlt, rfl, rfl, h, fun _ _ => rfl⟩
  · rw [if_neg c1, if_neg (fun q : (0 ≤ x1 ∧ x1 ≤ 3) ∧ 0 ≤ x2 ∧ x2 ≤ 2 => c1 q.1)]
    exact ⟨-1, lt, _, _, _, _, n, _, _, _, _, _, by decide, hlt, rfl, rfl, h, fun _ _ => rfl⟩
