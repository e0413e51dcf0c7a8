/-! ===== text: the whole of it ===== -/
def TOut (k : Nat) (c : Option (Int × Int × Int × Int × Int × Int × Int × Int × Int × Int × Int × (Nat → Int) × Int × Int × (Nat → Int) × (Nat → Int))) (r : Option (Int × Int × Int × Int × Int × Int × Int × Int × Int × Int × Int × Int × (Nat → Int) × (Nat → Int))) : Prop :=
  (∃ ff w, FW k ff w ∧ (∃ a1 a2 a3 a4 a5, c = some (0, a1, a2, a3, a4, ff, w, a5)) ∧ ∃ b1 b2 b3 b4 b5 b6 b7 b8 b9 b10 b11, r = some (b1, b2, b3, b4, b5, b6, b7, b8, b9, b10, ff, w, b11))
  ∨ (∃ (u n : Nat) (st ot sd : Int) (A R F P D : Nat → Int) (pl hi : Int) (c' : Nat) (ps so va wa : Int), TXR u n st ot sd A R F P D pl hi ∧ c' ≤ 160 ∧ r = some ((c' : Int), ot, sd, pl, (u : Int), hi, ps, (k : Int), so, va, 0, wa, D, R) ∧
    ((∃ P', PI u n A P' ∧ (∀ j, j < u → A j < (n : Int)) ∧ ∃ a1 a2 a3 a4, c = some (1, (u : Int), ot, sd, (c' : Int), 0, 0, a1, a2, a3, a4, A, (n : Int), st, F, P')) ∨
     ((∃ j, j < u ∧ (n : Int) ≤ A j) ∧ ∃ a1 a2 a3 a4 a5, c = some (0, a1, a2, a3, a4, 6, (k : Int), a5))))
theorem text_f (g : Nat) (ot sd pl pm hi k ps bg so va ff w : Int) (D R T : Nat → Int) (c : Int) (hf : 0 < ff ∧ ff ≤ 6) : f_M_text_L20 (g + 1) ot sd pl pm hi k ps bg so va ff w D R T c = some (c, ot, sd, pl, pm, hi, ps, bg, so, va, ff, w, D, R) := by
  rw [f_M_text_L20, chk_pos (by omega), if_neg (by omega)]
theorem text_loop {k : Nat} {B T : Nat → Int} (h : RT k B T) : ∀ (g1 g2 p c u n : Nat) (st ot sd : Int) (A R F P D : Nat → Int) (pl hi ps bg so va f wa tk tp nm : Int), k - p < g1 → k - p < g2 → p ≤ k → c ≤ p → TXR u n st ot sd A R F P D pl hi → MT k B p ps bg so va f wa →
    TOut k (f_TextReader_takesAll_L6 g1 u ot sd c 0 0 p tk tp nm A n st F P k B c) (f_M_text_L20 g2 ot sd pl u hi k ps bg so va f wa D R T c) := by
  have hk := h.1
  intro g1
  induction g1 with
  | zero => intro g2 p c u n st ot sd A R F P D pl hi ps bg so va f wa tk tp nm h1; omega
  | succ g1 ih =>
    intro g2 p c u n st ot sd A R F P D pl hi ps bg so va f wa tk tp nm h1 h2 hp hc hR hM
    obtain ⟨g2, rfl⟩ : ∃ g, g2 = g + 1 := ⟨g2 - 1, by omega⟩
    have hs := tS_bd B hp
    have hX := tX_bd (B := B) hs.2
    have hKb := tK_bd k B (tS k B p)
    rw [f_TextReader_takesAll_L6, chk_pos (by omega), if_neg (by omega)]
    rcases hM with ⟨m1, m2, m3, m4, m5, m6⟩ | ⟨m1, m2, m3⟩
    · subst m2 m3 m4 m6
      rcases tok_c h hp 0 0 tk tp nm with ⟨_, ht⟩ | ⟨ht, _⟩
      · rw [bnd_eq ht, chk_pos (by show inR 1; decide), if_neg (by show ¬ (1 : Int) = 0; decide), chk_pos (by show inR (tK k B (tS k B p)); omega), f_M_text_L20, chk_pos (by decide), if_pos rfl, chk_pos (by omega)]
        by_cases c0 : tK k B (tS k B p) = 0
        · rw [if_pos (by show tK k B (tS k B p) = 0; exact c0), if_pos c0]
          have hks := tK_end c0
          have hsk : tS k B p = k := by omega
          obtain ⟨hO, hD, hot, hsd, h0⟩ := hR
          right
          refine ⟨u, n, st, ot, sd, A, R, F, P, D, pl, hi, c, _, _, _, _, ⟨hO, hD, hot, hsd, h0⟩, by omega, by rw [hsk], ?_⟩
          have e0 : f_TextReader_takesOrder u 0 0 A n P k = f_TextReader_takesOrder_L2 5000 u 0 0 A n P k ((0 : Nat) : Int) := rfl
          rcases to_L hk (F := F) (st := st) (fun P' q1 q2 => ⟨hD.1, hD.2.1, fun b hb => (hD.2.2.2.2.2.2.1 b hb).1, q1, q2⟩) hD.1 hO.1 (fun i hi => (hO.2.1 i hi).2) hO.2.2.1 u 0 5000 P (by omega) (by have := hO.1; omega) (PI.first hD.2.2.2.2.2.2.2) (fun j hj => by omega) with ⟨q1, P', q2⟩ | ⟨q1, P', q2, q3⟩
          · right
            refine ⟨q1, ?_⟩
            rw [bnd_eq (e0.trans q2), chk_pos (Or.inl rfl)]
            exact ⟨_, _, _, _, _, rfl⟩
          · left
            refine ⟨P', q2, q1, ?_⟩
            rw [bnd_eq (e0.trans q3), chk_pos (Or.inr rfl)]
            exact ⟨_, _, _, _, rfl⟩
        · have hsk : tS k B p < k := by
            by_cases q : k ≤ tS k B p
            · exact absurd (by unfold tK; rw [if_pos q]) c0
            · omega
          have hgo := tX_go hsk m1
          rw [if_neg (by show ¬ tK k B (tS k B p) = 0; exact c0), if_neg c0]
          rcases line_both (nm := if tK k B (tS k B p) = 2 then nvl B (tS k B p) (tE k B (tS k B p) - tS k B p) else nm) (va := va) (wa := wa) h hX.1 hX.2 hR (K := tK k B (tS k B p)) (by omega) with ⟨ff, w, hff, ⟨a1, a2, a3, a4, e1⟩, ⟨b1, b2, b3, b4, b5, b6, b7, b8, b9, b10, e2⟩⟩ | ⟨u', n', st', ot', sd', A', R', F', P', D', pl', hi', p', tk', tp', nm', ps', bg', so', va', f', wa', r1, r2, r3, r4, e1, e2⟩
          · left
            obtain ⟨g3, rfl⟩ : ∃ g, g2 = g + 1 := ⟨g2 - 1, by omega⟩
            obtain ⟨b10, b11⟩ := b10
            refine ⟨ff, w, hff, ?_, ?_⟩
            · rw [bnd_eq e1, chk_pos (by show inR 0; decide), if_pos (by show (0 : Int) = 0; rfl)]
              exact ⟨_, _, _, _, _, rfl⟩
            · rw [bnd_eq e2]
              rw [text_f g3 b1 b2 b3 b4 b5 k b6 b7 b8 b9 ff w b10 b11 T _ hff.1]
              exact ⟨_, _, _, _, _, _, _, _, _, _, _, rfl⟩
          · rw [bnd_eq e1, bnd_eq e2, chk_pos (by show inR 1; decide), if_neg (by show ¬ (1 : Int) = 0; decide)]
            exact ih g2 p' (c + 1) u' n' st' ot' sd' A' R' F' P' D' pl' hi' ps' bg' so' va' f' wa' tk' tp' nm' (by omega) (by omega) r2 (by omega) r3 r4
      · exact absurd ht m1
    · subst m2 m3
      left
      rcases tok_c h hp 0 0 tk tp nm with ⟨ht, _⟩ | ⟨_, nx, nm', ht⟩
      · exact absurd m1 ht
      · refine ⟨1, ((tS k B p : Nat) : Int), ⟨by decide, by omega, by omega⟩, ?_, ?_⟩
        · rw [bnd_eq ht, chk_pos (by show inR 0; decide), if_pos (by show (0 : Int) = 0; rfl)]
          exact ⟨_, _, _, _, _, rfl⟩
        · rw [text_f g2 ot sd pl u hi k ps bg so va 1 _ D R T _ (by decide)]
          exact ⟨_, _, _, _, _, _, _, _, _, _, _, rfl⟩
theorem drop_L (a b : Int) : f_HH_text_L75 5000 a b 2 0 = some (0, 0) := rfl
theorem p_text {n : Nat} {st : Int} {F P S : Nat → Int} (h : RS n st F P S) {q : Nat} {H O Q : Nat → Int} (hQ : RQ q H O Q S)
    {t0 u0 b0 s0 : Int} {H0 O0 R0 F0 P0 : Nat → Int} (hI0 : RI t0 u0 H0 O0 R0 b0 s0 F0 P0 (shf 56 S)) {t1 u1 b1 s1 : Int} {H1 O1 R1 F1 P1 : Nat → Int} (hI1 : RI t1 u1 H1 O1 R1 b1 s1 F1 P1 (shf 112 S)) {K : Nat → Int} (hK0 : K 0 = t0) (hK1 : K 1 = t1)
    {k : Nat} {B T : Nat → Int} (hT : RT k B T) (lf au ot sd ln ff fp nx tk tp nm : Int) (A : Nat → Int) (db ds : Int) (dF dP : Nat → Int) (ho hs pl pm hi ps bg so va fa wa : Int) (D R : Nat → Int) :
    ∃ (v lf' t0' t1' : Int) (au' ot' sd' ln' ff' fp' nx' tk' tp' nm' : Int) (A' : Nat → Int) (db' ds' : Int) (dF' dP' : Nat → Int) (q' n' : Nat) (st' : Int) (F' P' : Nat → Int) (ho' hs' pl' pm' hi' ps' bg' so' va' wa' : Int) (D' K' R' S' : Nat → Int), inR v ∧ inR lf' ∧
      f_HH_text lf t0 t1 au ot sd ln ff fp nx tk tp nm A db ds dF dP q n st F P k B = some (v, lf', t0', t1', au', ot', sd', ln', ff', fp', nx', tk', tp', nm', A', db', ds', dF', dP', (q' : Int), (n' : Int), st', F', P', 0) ∧
      f_M_text ho hs pl pm hi k ps bg so va fa wa D K R S T = some (v, ho', hs', pl', pm', hi', 0, ps', bg', so', va', lf', wa', D', K', R', S') ∧
      RS n' st' F' P' S' ∧ RQ q' H O Q S' ∧ RI t0' u0 H0 O0 R0 b0 s0 F0 P0 (shf 56 S') ∧ RI t1' u1 H1 O1 R1 b1 s1 F1 P1 (shf 112 S') ∧ K' 0 = t0' ∧ K' 1 = t1' := by
  have hk := hT.1
  have hq := hQ.1
  obtain ⟨D0, d1, d2⟩ := first_m ho hs pl pm hi D
  obtain ⟨ps1, bg1, so1, va1, f1, wa1, e1, e2⟩ := mt_takes hT (Nat.zero_le k) bg so va wa
  have e1 : f_M_takes k 0 bg so va 0 wa T = some (ps1, bg1, so1, va1, f1, wa1) := e1
  have hb : f_TextReader_beginAnew au ot sd ln ff fp nx db ds = some (0, 0, 0, 0, 0, 0, 0, 0, 6) := rfl
  have ht := text_loop hT 5000 5000 0 0 0 0 6 0 0 A R dF dP D0 0 (-4) ps1 bg1 so1 va1 f1 wa1 tk tp nm (by omega) (by omega) (by omega) (by omega) ⟨OR.none A R, d2 dF dP, Or.inl rfl, Or.inl rfl, fun _ => ⟨rfl, rfl, rfl⟩⟩ e2
  have ea : f_TextReader_takesAll au ot sd ln ff fp nx tk tp nm A db ds dF dP k B = f_TextReader_takesAll_L6 5000 ((0 : Nat) : Int) 0 0 ((0 : Nat) : Int) 0 0 ((0 : Nat) : Int) tk tp nm A ((0 : Nat) : Int) 6 dF dP k B ((0 : Nat) : Int) := by
    unfold f_TextReader_takesAll
    rw [bnd_eq hb]
    rfl
  have et : f_Tape_cut k 0 = some 0 := by
    unfold f_Tape_cut
    rw [gb (within_eq 0 0 k (by decide) (by decide) (by omega)), if_pos (by omega)]
  have eq : f_Sightings_cut q 0 = some 0 := by
    unfold f_Sightings_cut
    rw [gb (within_eq 0 0 q (by decide) (by decide) (by omega)), if_pos (by omega)]
  rcases ht with ⟨gf, w, hff, ⟨a1, a2, a3, a4, a5, c1⟩, ⟨z1, z2, z3, z4, z5, z6, z7, z8, z9, z10, ⟨z11, z12⟩, c2⟩⟩ | ⟨u, n', st', ot', sd', A', R', F', P', D', pl', hi', c', ps', so', va', wa', hR, hc', c2, c1⟩
  · obtain ⟨a5, a6, a7, a8, a9, a10, a11, a12, a13⟩ := a5
    have hf1 := hff.1
    have hw := hff.2
    have ef : f_TextReader_faultFound gf = some gf := rfl
    have ep : f_TextReader_faultPlace w = some w := rfl
    have rc : f_HH_text lf t0 t1 au ot sd ln ff fp nx tk tp nm A db ds dF dP q n st F P k B = some (-10 - w, gf, t0, t1, a1, a2, a3, a4, gf, w, a5, a6, a7, a8, a9, a10, a11, a12, a13, (q : Int), (n : Int), st, F, P, 0) := by
      unfold f_HH_text
      rw [bnd_eq (ea.trans c1), bnd_eq et, bnd_eq ef, chk_pos (by show inR 0; decide), if_pos (by show (0 : Int) = 0; rfl), bnd_eq ep]
    have rm : f_M_text ho hs pl pm hi k ps bg so va fa wa D K R S T = some (-10 - w, z2, z3, z4, z5, z6, 0, z7, z8, z9, z10, gf, w, z11, K, z12, S) := by
      unfold f_M_text
      rw [bnd_eq d1, bnd_eq e1]
      have c2 : f_M_text_L20 5000 0 0 0 0 (-4) k ps1 bg1 so1 va1 f1 wa1 D0 R T 0 = some (z1, z2, z3, z4, z5, z6, z7, z8, z9, z10, gf, w, z11, z12) := c2
      rw [bnd_eq c2, chk_pos (by show inR gf; omega), if_neg (by show ¬ gf = 0; omega), Option.bind_some, chk_pos (by show inR gf; omega), if_neg (by show ¬ gf ≤ 0; omega)]
    exact ⟨_, _, _, _, _, _, _, _, _, _, _, _, _, _, _, _, _, _, _, q, n, _, _, _, _, _, _, _, _, _, _, _, _, _, _, _, _, _, by omega, by omega, rc, rm, h, hQ, hI0, hI1, hK0, hK1⟩
  · have c2 : f_M_text_L20 5000 0 0 0 0 (-4) k ps1 bg1 so1 va1 f1 wa1 D0 R T 0 = some ((c' : Int), ot', sd', pl', (u : Int), hi', ps', (k : Int), so', va', 0, wa', D', R') := c2
    obtain ⟨hO, hD, hot, hsd, h0⟩ := hR
    have h30 := hD.2.2.1
    have hn' := hD.1
    have hhi : inR hi' := by
      rcases hO.2.2.2.2.2.2 with z | ⟨i, hi2, z⟩
      · omega
      · have := hO.2.1 i hi2; omega
    rcases c1 with ⟨P2, hP2, hlt, a1, a2, a3, a4, c1⟩ | ⟨⟨j, hj, hjn⟩, a1, a2, a3, a4, a5, c1⟩
    · have hhn : ¬ (n' : Int) ≤ hi' := by
        rcases hO.2.2.2.2.2.2 with z | ⟨i, hi2, z⟩
        · omega
        · have := hlt i hi2; omega
      obtain ⟨S', k1, k2, k3, k4⟩ := keep_m hD hO hP2 K S
      have rc : f_HH_text lf t0 t1 au ot sd ln ff fp nx tk tp nm A db ds dF dP q n st F P k B = some ((c' : Int), 0, 0, 0, (u : Int), ot', sd', (c' : Int), 0, 0, a1, a2, a3, a4, A', (n' : Int), st', F', P2, 0, (n' : Int), st', cpZ F' F 30, cpZ P2 P 5, 0) := by
        have ef : f_TextReader_faultFound 0 = some 0 := rfl
        have ed : f_TextReader_draft = some () := rfl
        have el : f_TextReader_linesRead (c' : Int) = some (c' : Int) := rfl
        have ecp : f_Shop_copyFrom n st F P n' st' F' P2 = some ((n' : Int), st', cpZ F' F 30, cpZ P2 P 5) := rfl
        unfold f_HH_text
        rw [bnd_eq (ea.trans c1), bnd_eq et, bnd_eq ef, chk_pos (by show inR 1; decide), if_neg (by show ¬ (1 : Int) = 0; decide), bnd_eq ed, bnd_eq ecp, bnd_eq eq, bnd_eq (drop_L t0 t1), bnd_eq el]
      have rm : f_M_text ho hs pl pm hi k ps bg so va fa wa D K R S T = some ((c' : Int), ot', sd', pl', (u : Int), hi', 0, ps', (k : Int), so', va', 0, wa', D', upZ (upZ K 0 0) 1 0, R', S') := by
        unfold f_M_text
        rw [bnd_eq d1, bnd_eq e1, bnd_eq c2, chk_pos (by show inR 0; decide), if_pos (by show (0 : Int) = 0; rfl), chk_pos (by show inR hi'; exact hhi), chk_pos (by show inR (D' 30); omega), if_neg (by show ¬ D' 30 ≤ hi'; omega), Option.bind_some, bnd_eq (nd_1 k wa' 6), Option.bind_some, chk_pos (by show inR 0; decide), if_pos (by show (0 : Int) ≤ 0; decide), bnd_eq k1]
      refine ⟨_, _, _, _, _, _, _, _, _, _, _, _, _, _, _, _, _, _, _, 0, n', _, _, _, _, _, _, _, _, _, _, _, _, _, _, _, _, _, by omega, by decide, rc, rm, k2.cp F P, ⟨by omega, k3, fun i hi => by omega⟩, Or.inl rfl, Or.inl rfl, ?_, upZ_same _ _ _⟩
      rw [upZ_ne _ _ (by omega)]; exact upZ_same _ _ _
    · obtain ⟨a5, a6, a7, a8, a9, a10, a11, a12, a13⟩ := a5
      have hhn : (n' : Int) ≤ hi' := by
        have := hO.2.2.2.2.2.1 j hj; omega
      have ef : f_TextReader_faultFound 6 = some 6 := rfl
      have ep : f_TextReader_faultPlace (k : Int) = some (k : Int) := rfl
      have rc : f_HH_text lf t0 t1 au ot sd ln ff fp nx tk tp nm A db ds dF dP q n st F P k B = some (-10 - (k : Int), 6, t0, t1, a1, a2, a3, a4, 6, (k : Int), a5, a6, a7, a8, a9, a10, a11, a12, a13, (q : Int), (n : Int), st, F, P, 0) := by
        unfold f_HH_text
        rw [bnd_eq (ea.trans c1), bnd_eq et, bnd_eq ef, chk_pos (by show inR 0; decide), if_pos (by show (0 : Int) = 0; rfl), bnd_eq ep]
      have rm : f_M_text ho hs pl pm hi k ps bg so va fa wa D K R S T = some (-10 - (k : Int), ot', sd', pl', (u : Int), hi', 0, ps', (k : Int), so', va', 6, (k : Int), D', K, R', S) := by
        unfold f_M_text
        rw [bnd_eq d1, bnd_eq e1, bnd_eq c2, chk_pos (by show inR 0; decide), if_pos (by show (0 : Int) = 0; rfl), chk_pos (by show inR hi'; exact hhi), chk_pos (by show inR (D' 30); omega), if_pos (by show D' 30 ≤ hi'; omega), Option.bind_some, bnd_eq (nd_0 k wa' 6), Option.bind_some, chk_pos (by show inR 6; decide), if_neg (by show ¬ (6 : Int) ≤ 0; decide)]
      exact ⟨_, _, _, _, _, _, _, _, _, _, _, _, _, _, _, _, _, _, _, q, n, _, _, _, _, _, _, _, _, _, _, _, _, _, _, _, _, _, by omega, by decide, rc, rm, h, hQ, hI0, hI1, hK0, hK1⟩
