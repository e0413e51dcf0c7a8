/-! ===== text: the lines one by one ===== -/
theorem ex11 (L : Int) (D : Nat → Int) (hD : inR (D 30)) : ∃ o : Int, (o = 0 ∨ o = 1) ∧ (if 4 ≤ L then some (1 : Int) else chk (inR (D 30)) (if 5 ≤ (D 30) then some 0 else some 1)) = some o := by
  by_cases c : 4 ≤ L
  · exact ⟨1, Or.inr rfl, if_pos c⟩
  · rw [if_neg c, chk_pos hD]
    by_cases d : 5 ≤ D 30
    · exact ⟨0, Or.inl rfl, if_pos d⟩
    · exact ⟨1, Or.inr rfl, if_neg d⟩
theorem ex16 (L y ot : Int) (h : ot = 0 ∨ ot = 1) : ∃ o : Int, (o = 0 ∨ o = 1) ∧ (if L = y then chk (inR ot) (if ot = 0 then some (1 : Int) else some 0) else some 1) = some o := by
  by_cases c : L = y
  · rw [if_pos c, chk_pos (by omega)]
    by_cases d : ot = 0
    · exact ⟨1, Or.inr rfl, if_pos d⟩
    · exact ⟨0, Or.inl rfl, if_neg d⟩
  · exact ⟨1, Or.inr rfl, if_neg c⟩
theorem ex27 (L y ot : Int) : ∃ o : Int, (o = 0 ∨ o = 1) ∧ (if ot = 0 then if L = y then some (1 : Int) else some 0 else some 1) = some o := by
  by_cases c : ot = 0
  · rw [if_pos c]
    by_cases d : L = y
    · exact ⟨1, Or.inr rfl, if_pos d⟩
    · exact ⟨0, Or.inl rfl, if_neg d⟩
  · exact ⟨1, Or.inr rfl, if_neg c⟩
section LINE
variable {k : Nat} {B T : Nat → Int} {u n : Nat} {st ot sd : Int} {A R F P D : Nat → Int} {pl hi : Int} {s x : Nat} {K nm va wa L : Int}
theorem line_none (hsx : s ≤ x) (hx : x ≤ k) (hR : TXR u n st ot sd A R F P D pl hi) (hK : inR K) (hc : (if K = 1 then Option.bind (f_TextReader_lineOfName x s k B) (fun o36 => some o36) else some (-4)) = some (-4)) (hm : (if K = 1 then Option.bind (f_M_lineNow k x s T) (fun o77 => some o77) else some (-4)) = some (-4)) :
    LOut k B x (f_TextReader_takesLine u ot sd 0 0 x K s nm A n st F P k B) (f_M_readLine ot sd pl u hi k x s K va 0 wa D R T) := by
  obtain ⟨hO, hD, hot, hsd, _⟩ := hR
  obtain ⟨o11, h11, e11⟩ := ex11 (-4) D (by have := hD.1; have := hD.2.2.1; omega)
  obtain ⟨o16, h16, e16⟩ := ex16 (-4) 4 ot hot
  obtain ⟨o21, h21, e21⟩ := ex16 (-4) 5 sd hsd
  obtain ⟨o27, h27, e27⟩ := ex27 (-4) 4 ot
  obtain ⟨o32, h32, e32⟩ := ex27 (-4) 5 sd
  left
  refine ⟨2, s, ⟨by decide, by omega, by omega⟩, ?_, ?_⟩
  · rw [tl_L hc hK (by decide), if_pos rfl, bnd_eq (failed_eq 0 0 2 s), chk_pos (Or.inl rfl)]
    exact ⟨_, _, _, _, rfl⟩
  · rw [rl_gen hm hK (by decide) (if_pos rfl) e11 e16 e21 (nd_0 s wa 2) (nd_f s 2 s o11 5 (by decide) h11) (nd_f s 2 s o16 4 (by decide) h16) (nd_f s 2 s o21 4 (by decide) h21) hot hsd h27 h32 e27 e32 (takes_f k x s K va 2 s T (by decide)) (by decide), if_neg (by decide)]
    exact ⟨_, _, _, _, _, _, _, _, _, _, rfl⟩
theorem line_order (h : RT k B T) (hsx : s ≤ x) (hx : x ≤ k) (hR : TXR u n st ot sd A R F P D pl hi) (hK : inR K) (hc : (if K = 1 then Option.bind (f_TextReader_lineOfName x s k B) (fun o36 => some o36) else some (-4)) = some 4) (hm : (if K = 1 then Option.bind (f_M_lineNow k x s T) (fun o77 => some o77) else some (-4)) = some 4) :
    LOut k B x (f_TextReader_takesLine u ot sd 0 0 x K s nm A n st F P k B) (f_M_readLine ot sd pl u hi k x s K va 0 wa D R T) := by
  obtain ⟨hO, hD, hot, hsd, h0⟩ := hR
  have e11 : (if (4 : Int) ≤ 4 then some (1 : Int) else chk (inR (D 30)) (if 5 ≤ (D 30) then some 0 else some 1)) = some 1 := if_pos (by decide)
  have e6 : (if (4 : Int) = (-4) then some (0 : Int) else some 1) = some 1 := if_neg (by decide)
  have e21 : (if (4 : Int) = 5 then chk (inR sd) (if sd = 0 then some (1 : Int) else some 0) else some 1) = some 1 := if_neg (by decide)
  have e32 := if_32 sd 4 hsd (by decide)
  rw [tl_L hc hK (by decide), if_neg (by decide), if_pos rfl]
  rcases hot with hot | hot
  · subst hot
    obtain ⟨hu, hpl, hhi⟩ := h0 rfl
    subst hu hpl hhi
    have e16 : (if (4 : Int) = 4 then chk (inR 0) (if (0 : Int) = 0 then some (1 : Int) else some 0) else some 1) = some 1 := rfl
    have e27 : (if (0 : Int) = 0 then if (4 : Int) = 4 then some (1 : Int) else some 0 else some 1) = some 1 := rfl
    obtain ⟨ps', bg', so', va', f', wa', t1, t2⟩ := mt_takes h hx (s : Int) K va wa
    have hf' : inR f' := by
      rcases t2 with q | q
      · have := q.2.2.2.2.2; omega
      · have := q.2.1; omega
    rw [rl_gen hm hK (by decide) e6 e11 e16 e21 (nd_1 s wa 2) (nd_1 s wa 5) (nd_1 s wa 4) (nd_1 s wa 4) (Or.inl rfl) hsd (Or.inr rfl) hsd e27 e32 t1 hf']
    have ec : f_TextReader_takesOrderLine ((0 : Nat) : Int) 0 0 0 x K s nm A k B = f_TextReader_takesOrderLine_L24 5000 ((0 : Nat) : Int) 1 0 0 x K s nm A k B ((0 : Nat) : Int) := by
      unfold f_TextReader_takesOrderLine
      rw [chk_pos (by decide), if_pos rfl]
      rfl
    rw [ec]
    have hsb := tS_bd B hx
    by_cases cb : tBad k B (tS k B x)
    · rcases t2 with q | ⟨q1, q2, q3⟩
      · exact absurd cb q.1
      subst q2 q3
      rcases tok_c h hx 0 0 K s nm with ⟨z, _⟩ | ⟨_, nx, nm', z⟩
      · exact absurd cb z
      left
      refine ⟨1, ((tS k B x : Nat) : Int), ⟨by decide, by omega, by omega⟩, ?_, ?_⟩
      · rw [bnd_eq (oc_bad 4999 0 x (by omega) K s nm A k B z), chk_pos (Or.inl rfl)]
        exact ⟨_, _, _, _, rfl⟩
      · rw [if_neg (by decide)]
        exact ⟨_, _, _, _, _, _, _, _, _, _, rfl⟩
    · have hf0 : f' = 0 := by
        rcases t2 with q | q
        · exact q.2.2.2.2.2
        · exact absurd q.1 cb
      subst hf0
      rw [if_pos (by decide)]
      have em : ∀ {pl' pm' hi' a b c d e f : Int} {R' : Nat → Int}, f_M_readOrder_L0 5000 0 ((0 : Nat) : Int) (-4) k ps' bg' so' va' 0 wa' R T = some (pl', pm', hi', a, b, c, d, e, f, R') → f_M_readLineOf 0 ((0 : Nat) : Int) (-4) k ps' bg' so' va' 0 wa' D R T 4 = some (pl', pm', hi', a, b, c, d, e, f, D, R') := by
        intro pl' pm' hi' a b c d e f R' q
        unfold f_M_readLineOf f_M_readOrder
        rw [chk_pos (by decide), if_pos rfl, bnd_eq q, Option.bind_some]
      rcases ord_both h 5000 5000 0 x A R 0 (-4) ps' bg' so' va' 0 wa' K s nm (by omega) (by omega) hx hO t2 with ⟨ff, w, hff, ⟨u', a, b, c, d, A', q1⟩, ⟨pl', pm', hi', ps2, bg2, so2, va2, R', q2⟩⟩ | ⟨u', A', R', pl', hi', p', ps2, bg2, so2, va2, wa2, r1, r2, r3, r4, r5, r6, r7⟩
      · left
        refine ⟨ff, w, hff, ?_, ?_⟩
        · rw [bnd_eq q1, chk_pos (Or.inl rfl)]
          exact ⟨_, _, _, _, rfl⟩
        · rw [em q2, rest_f 1 sd k T hff.1]
          exact ⟨_, _, _, _, _, _, _, _, _, _, rfl⟩
      · rw [em r6]
        have hs' := tS_bd B r2
        have hX' := tX_bd (B := B) hs'.2
        rcases rest_m h r2 r5 1 sd pl' (u' : Int) hi' D R' with ⟨z1, z2, ps3, bg3, so3, va3, f3, wa3, z3, z4⟩ | ⟨z1, z2, ps3, bg3, so3, va3, z4⟩ | ⟨z1, _⟩
        · rcases r7 with ⟨_, c, d, r7⟩ | ⟨r7, _⟩
          · right
            refine ⟨u', n, st, 1, sd, A', R', F, P, D, pl', hi', tX k B (tS k B p'), 3, c, d, ps3, bg3, so3, va3, f3, wa3, by omega, hX'.2, ⟨r3, hD, Or.inr rfl, hsd, fun q => by omega⟩, z3, ?_, z4⟩
            rw [bnd_eq r7, chk_pos (Or.inr rfl)]
          · exact absurd z2 r7
        · rcases r7 with ⟨r7, _⟩ | ⟨_, a, b, c, d, r7⟩
          · exact absurd r7 z2
          · left
            refine ⟨2, ((tS k B p' : Nat) : Int), ⟨by decide, by omega, by omega⟩, ?_, ?_⟩
            · rw [bnd_eq r7, chk_pos (Or.inl rfl)]
              exact ⟨_, _, _, _, rfl⟩
            · rw [z4]
              exact ⟨_, _, _, _, _, _, _, _, _, _, rfl⟩
        · exact absurd z1 r4
  · subst hot
    have e16 : (if (4 : Int) = 4 then chk (inR 1) (if (1 : Int) = 0 then some (1 : Int) else some 0) else some 1) = some 0 := rfl
    have e27 : (if (1 : Int) = 0 then if (4 : Int) = 4 then some (1 : Int) else some 0 else some 1) = some 1 := rfl
    left
    refine ⟨4, s, ⟨by decide, by omega, by omega⟩, ?_, ?_⟩
    · have ec : f_TextReader_takesOrderLine u 1 0 0 x K s nm A k B = some (0, (u : Int), 1, 4, (s : Int), (x : Int), K, (s : Int), nm, A) := by
        unfold f_TextReader_takesOrderLine
        rw [chk_pos (by decide), if_neg (by decide), bnd_eq (failed_eq 0 0 4 s), chk_pos (Or.inl rfl)]
      rw [bnd_eq ec, chk_pos (Or.inl rfl)]
      exact ⟨_, _, _, _, rfl⟩
    · rw [rl_gen hm hK (by decide) e6 e11 e16 e21 (nd_1 s wa 2) (nd_1 s wa 5) (nd_0 s wa 4) (nd_f s 4 s 1 4 (by decide) (Or.inr rfl)) (Or.inr rfl) hsd (Or.inr rfl) hsd e27 e32 (takes_f k x s K va 4 s T (by decide)) (by decide), if_neg (by decide)]
      exact ⟨_, _, _, _, _, _, _, _, _, _, rfl⟩
theorem line_start (h : RT k B T) (hsx : s ≤ x) (hx : x ≤ k) (hR : TXR u n st ot sd A R F P D pl hi) (hK : inR K) (hc : (if K = 1 then Option.bind (f_TextReader_lineOfName x s k B) (fun o36 => some o36) else some (-4)) = some 5) (hm : (if K = 1 then Option.bind (f_M_lineNow k x s T) (fun o77 => some o77) else some (-4)) = some 5) :
    LOut k B x (f_TextReader_takesLine u ot sd 0 0 x K s nm A n st F P k B) (f_M_readLine ot sd pl u hi k x s K va 0 wa D R T) := by
  obtain ⟨hO, hD, hot, hsd, h0⟩ := hR
  have e11 : (if (4 : Int) ≤ 5 then some (1 : Int) else chk (inR (D 30)) (if 5 ≤ (D 30) then some 0 else some 1)) = some 1 := if_pos (by decide)
  have e6 : (if (5 : Int) = (-4) then some (0 : Int) else some 1) = some 1 := if_neg (by decide)
  have e16 : (if (5 : Int) = 4 then chk (inR ot) (if ot = 0 then some (1 : Int) else some 0) else some 1) = some 1 := if_neg (by decide)
  have e27 := if_27 ot 5 hot (by decide)
  rw [tl_L hc hK (by decide), if_neg (by decide), if_neg (by decide), if_pos rfl]
  rcases hsd with hsd | hsd
  · subst hsd
    have e21 : (if (5 : Int) = 5 then chk (inR 0) (if (0 : Int) = 0 then some (1 : Int) else some 0) else some 1) = some 1 := rfl
    have e32 : (if (0 : Int) = 0 then if (5 : Int) = 5 then some (1 : Int) else some 0 else some 1) = some 1 := rfl
    obtain ⟨ps', bg', so', va', f', wa', t1, t2⟩ := mt_takes h hx (s : Int) K va wa
    have hf' : inR f' := by
      rcases t2 with q | q
      · have := q.2.2.2.2.2; omega
      · have := q.2.1; omega
    rw [rl_gen hm hK (by decide) e6 e11 e16 e21 (nd_1 s wa 2) (nd_1 s wa 5) (nd_1 s wa 4) (nd_1 s wa 4) hot (Or.inl rfl) hot (Or.inr rfl) e27 e32 t1 hf']
    have hsb := tS_bd B hx
    by_cases cb : tBad k B (tS k B x)
    · rcases t2 with q | ⟨q1, q2, q3⟩
      · exact absurd cb q.1
      subst q2 q3
      rcases tok_c h hx 0 0 K s nm with ⟨z, _⟩ | ⟨_, nx, nm', z⟩
      · exact absurd cb z
      left
      refine ⟨1, ((tS k B x : Nat) : Int), ⟨by decide, by omega, by omega⟩, ?_, ?_⟩
      · have ec : f_TextReader_takesStartLine 0 0 0 x K s nm st k B = some (0, 1, 1, ((tS k B x : Nat) : Int), nx, 2, ((tS k B x : Nat) : Int), nm', st) := by
          unfold f_TextReader_takesStartLine
          rw [chk_pos (by decide), if_pos rfl, bnd_eq z, chk_pos (by show inR 0; decide), if_pos (by show (0 : Int) = 0; rfl)]
        rw [bnd_eq ec, chk_pos (by show inR 0; decide), if_pos (by show (0 : Int) = 0; rfl)]
        exact ⟨_, _, _, _, rfl⟩
      · rw [if_neg (by decide)]
        exact ⟨_, _, _, _, _, _, _, _, _, _, rfl⟩
    · have hf0 : f' = 0 := by
        rcases t2 with q | q
        · exact q.2.2.2.2.2
        · exact absurd q.1 cb
      subst hf0
      rw [if_pos (by decide)]
      have em : ∀ {v a b c d e f : Int}, f_M_readNumber k ps' bg' so' va' 0 wa' T 0 23 = some (v, a, b, c, d, e, f) → f_M_readLineOf pl u hi k ps' bg' so' va' 0 wa' D R T 5 = some (pl, (u : Int), hi, a, b, c, d, e, f, upZ D 36 v, R) := by
        intro v a b c d e f q
        unfold f_M_readLineOf
        rw [chk_pos (by decide), if_neg (by decide), if_pos rfl, bnd_eq q]
      rcases num_both h hx t2 K s nm 0 23 (by decide) (by decide) with ⟨ff, w, hff, ⟨v', ps2, bg2, so2, va2, q1⟩, q2⟩ | ⟨v, p', tp', hv, hv2, hp1, hp2, q1, q2, ps2, bg2, so2, va2, f2, wa2, q3, q4⟩
      · left
        refine ⟨ff, w, hff, ?_, ?_⟩
        · have ec : ∃ a b c d, f_TextReader_takesStartLine 0 0 0 x K s nm st k B = some (0, 1, ff, w, a, b, c, d, st) := by
            unfold f_TextReader_takesStartLine
            rcases q2 with ⟨nx, tk', tp', nm', q2⟩ | ⟨nx, tk', tp', nm', q2, q3⟩
            · rw [chk_pos (by decide), if_pos rfl, bnd_eq q2, chk_pos (by show inR 0; decide), if_pos (by show (0 : Int) = 0; rfl)]
              exact ⟨_, _, _, _, rfl⟩
            · rw [chk_pos (by decide), if_pos rfl, bnd_eq q2, chk_pos (by show inR 1; decide), if_neg (by show ¬ (1 : Int) = 0; decide), bnd_eq q3, chk_pos (by show inR 0; decide), if_pos (by show (0 : Int) = 0; rfl)]
              exact ⟨_, _, _, _, rfl⟩
          obtain ⟨a, b, c, d, ec⟩ := ec
          rw [bnd_eq ec, chk_pos (by show inR 0; decide), if_pos (by show (0 : Int) = 0; rfl)]
          exact ⟨_, _, _, _, rfl⟩
        · rw [em q1, rest_f ot 1 k T hff.1]
          exact ⟨_, _, _, _, _, _, _, _, _, _, rfl⟩
      · have ec : f_TextReader_takesStartLine 0 0 0 x K s nm st k B = some (1, 1, 0, 0, (p' : Int), 2, tp', v, v) := by
          have es : f_Shop_setStart st v = some v := rfl
          unfold f_TextReader_takesStartLine
          rw [chk_pos (by decide), if_pos rfl, bnd_eq q1, chk_pos (by show inR 1; decide), if_neg (by show ¬ (1 : Int) = 0; decide), bnd_eq q2, chk_pos (by show inR 1; decide), if_neg (by show ¬ (1 : Int) = 0; decide), bnd_eq es]
        rw [em q3, bnd_eq ec, chk_pos (by show inR 1; decide), if_neg (by show ¬ (1 : Int) = 0; decide)]
        have hs' := tS_bd B hp2
        have hX' := tX_bd (B := B) hs'.2
        rcases rest_m h hp2 q4 ot 1 pl (u : Int) hi (upZ D 36 v) R with ⟨z1, z2, ps3, bg3, so3, va3, f3, wa3, z3, z4⟩ | ⟨z1, z2, ps3, bg3, so3, va3, z4⟩ | ⟨z1, ps3, bg3, so3, va3, z4⟩
        · rcases stop_c h hp2 2 tp' v with ⟨_, _, tp2, nm2, w1⟩ | ⟨_, w1, _⟩ | ⟨w1, _⟩
          · right
            refine ⟨u, n, v, ot, 1, A, R, F, P, upZ D 36 v, pl, hi, tX k B (tS k B p'), 3, tp2, nm2, ps3, bg3, so3, va3, f3, wa3, by omega, hX'.2, ⟨hO, hD.start hv, hot, Or.inr rfl, h0⟩, z3, ?_, z4⟩
            rw [bnd_eq w1, chk_pos (by show inR 1; decide), if_neg (by show ¬ (1 : Int) = 0; decide)]
          · exact absurd z2 w1
          · exact absurd w1 z1
        · rcases stop_c h hp2 2 tp' v with ⟨_, w1, _⟩ | ⟨_, _, nx, tk2, tp2, nm2, w1⟩ | ⟨w1, _⟩
          · exact absurd w1 z2
          · left
            refine ⟨2, ((tS k B p' : Nat) : Int), ⟨by decide, by omega, by omega⟩, ?_, ?_⟩
            · rw [bnd_eq w1, chk_pos (by show inR 0; decide), if_pos (by show (0 : Int) = 0; rfl)]
              exact ⟨_, _, _, _, rfl⟩
            · rw [z4]
              exact ⟨_, _, _, _, _, _, _, _, _, _, rfl⟩
          · exact absurd w1 z1
        · rcases stop_c h hp2 2 tp' v with ⟨w1, _⟩ | ⟨w1, _⟩ | ⟨_, nx, tk2, tp2, nm2, w1⟩
          · exact absurd z1 w1
          · exact absurd z1 w1
          · left
            refine ⟨1, ((tS k B p' : Nat) : Int), ⟨by decide, by omega, by omega⟩, ?_, ?_⟩
            · rw [bnd_eq w1, chk_pos (by show inR 0; decide), if_pos (by show (0 : Int) = 0; rfl)]
              exact ⟨_, _, _, _, rfl⟩
            · rw [z4]
              exact ⟨_, _, _, _, _, _, _, _, _, _, rfl⟩
  · subst hsd
    have e21 : (if (5 : Int) = 5 then chk (inR 1) (if (1 : Int) = 0 then some (1 : Int) else some 0) else some 1) = some 0 := rfl
    have e32 : (if (1 : Int) = 0 then if (5 : Int) = 5 then some (1 : Int) else some 0 else some 1) = some 1 := rfl
    left
    refine ⟨4, s, ⟨by decide, by omega, by omega⟩, ?_, ?_⟩
    · have ec : f_TextReader_takesStartLine 1 0 0 x K s nm st k B = some (0, 1, 4, (s : Int), (x : Int), K, (s : Int), nm, st) := by
        unfold f_TextReader_takesStartLine
        rw [chk_pos (by decide), if_neg (by decide), bnd_eq (failed_eq 0 0 4 s), chk_pos (Or.inl rfl)]
      rw [bnd_eq ec, chk_pos (by show inR 0; decide), if_pos (by show (0 : Int) = 0; rfl)]
      exact ⟨_, _, _, _, rfl⟩
    · rw [rl_gen hm hK (by decide) e6 e11 e16 e21 (nd_1 s wa 2) (nd_1 s wa 5) (nd_1 s wa 4) (nd_0 s wa 4) hot (Or.inr rfl) hot (Or.inr rfl) e27 e32 (takes_f k x s K va 4 s T (by decide)) (by decide), if_neg (by decide)]
      exact ⟨_, _, _, _, _, _, _, _, _, _, rfl⟩
theorem line_box (h : RT k B T) (hsx : s ≤ x) (hx : x ≤ k) (hR : TXR u n st ot sd A R F P D pl hi) (hK : inR K) (hL : 0 ≤ L ∧ L ≤ 3) (hc : (if K = 1 then Option.bind (f_TextReader_lineOfName x s k B) (fun o36 => some o36) else some (-4)) = some L) (hm : (if K = 1 then Option.bind (f_M_lineNow k x s T) (fun o77 => some o77) else some (-4)) = some L) :
    LOut k B x (f_TextReader_takesLine u ot sd 0 0 x K s nm A n st F P k B) (f_M_readLine ot sd pl u hi k x s K va 0 wa D R T) := by
  obtain ⟨hO, hD, hot, hsd, h0⟩ := hR
  have hn5 := hD.1
  have h30 := hD.2.2.1
  have e6 : (if L = (-4) then some (0 : Int) else some 1) = some 1 := if_neg (by omega)
  have e16 : (if L = 4 then chk (inR ot) (if ot = 0 then some (1 : Int) else some 0) else some 1) = some 1 := if_neg (by omega)
  have e21 : (if L = 5 then chk (inR sd) (if sd = 0 then some (1 : Int) else some 0) else some 1) = some 1 := if_neg (by omega)
  have e27 := if_27 ot L hot (by omega)
  have e32 := if_32 sd L hsd (by omega)
  rw [tl_L hc hK (by omega), if_neg (by omega), if_neg (by omega), if_neg (by omega)]
  by_cases cn : n < 5
  · have e11 : (if 4 ≤ L then some (1 : Int) else chk (inR (D 30)) (if 5 ≤ (D 30) then some 0 else some 1)) = some 1 := by
      rw [if_neg (by omega), h30, chk_pos (by omega), if_neg (by omega)]
    obtain ⟨ps', bg', so', va', f', wa', t1, t2⟩ := mt_takes h hx (s : Int) K va wa
    have hf' : inR f' := by
      rcases t2 with q | q
      · have := q.2.2.2.2.2; omega
      · have := q.2.1; omega
    rw [rl_gen hm hK (by omega) e6 e11 e16 e21 (nd_1 s wa 2) (nd_1 s wa 5) (nd_1 s wa 4) (nd_1 s wa 4) hot hsd hot hsd e27 e32 t1 hf']
    have hsb := tS_bd B hx
    by_cases cb : tBad k B (tS k B x)
    · rcases t2 with q | ⟨q1, q2, q3⟩
      · exact absurd cb q.1
      subst q2 q3
      rcases tok_c h hx 0 0 K s nm with ⟨z, _⟩ | ⟨_, nx, nm', z⟩
      · exact absurd cb z
      left
      refine ⟨1, ((tS k B x : Nat) : Int), ⟨by decide, by omega, by omega⟩, ?_, ?_⟩
      · obtain ⟨F1, e1⟩ := box_c0 cn x K s nm L F P k B
        rw [bnd_eq (e1.trans (bc_bad 4999 n x 1 (by omega) K s nm F1 (upZ P n n) k B z)), chk_pos (by show inR 0; decide), if_pos (by show (0 : Int) = 0; rfl)]
        exact ⟨_, _, _, _, rfl⟩
      · rw [if_neg (by decide)]
        exact ⟨_, _, _, _, _, _, _, _, _, _, rfl⟩
    · have hf0 : f' = 0 := by
        rcases t2 with q | q
        · exact q.2.2.2.2.2
        · exact absurd q.1 cb
      subst hf0
      rw [if_pos (by decide)]
      rcases boxline_both h hD cn L hL hx t2 K s nm pl u hi R with ⟨ff, w, hff, ⟨r, q1⟩, ps2, bg2, so2, va2, D', q2⟩ | ⟨p', tk', tp', nm', F', P', ps2, bg2, so2, va2, f2, wa2, D', hp1, hp2, q4, q5, q6, q7⟩
      · left
        refine ⟨ff, w, hff, ?_, ?_⟩
        · rw [bnd_eq q1, chk_pos (by show inR 0; decide), if_pos (by show (0 : Int) = 0; rfl)]
          exact ⟨_, _, _, _, rfl⟩
        · rw [q2, rest_f ot sd k T hff.1]
          exact ⟨_, _, _, _, _, _, _, _, _, _, rfl⟩
      · rw [q7, bnd_eq q6, chk_pos (by show inR 1; decide), if_neg (by show ¬ (1 : Int) = 0; decide)]
        have hs' := tS_bd B hp2
        have hX' := tX_bd (B := B) hs'.2
        rcases rest_m h hp2 q4 ot sd pl (u : Int) hi D' R with ⟨z1, z2, ps3, bg3, so3, va3, f3, wa3, z3, z4⟩ | ⟨z1, z2, ps3, bg3, so3, va3, z4⟩ | ⟨z1, ps3, bg3, so3, va3, z4⟩
        · rcases stop_c h hp2 tk' tp' nm' with ⟨_, _, tp2, nm2, w1⟩ | ⟨_, w1, _⟩ | ⟨w1, _⟩
          · right
            refine ⟨u, n + 1, st, ot, sd, A, R, F', P', D', pl, hi, tX k B (tS k B p'), 3, tp2, nm2, ps3, bg3, so3, va3, f3, wa3, by omega, hX'.2, ⟨hO, q5, hot, hsd, h0⟩, z3, ?_, z4⟩
            rw [bnd_eq w1, chk_pos (by show inR 1; decide), if_neg (by show ¬ (1 : Int) = 0; decide)]
          · exact absurd z2 w1
          · exact absurd w1 z1
        · rcases stop_c h hp2 tk' tp' nm' with ⟨_, w1, _⟩ | ⟨_, _, nx, tk2, tp2, nm2, w1⟩ | ⟨w1, _⟩
          · exact absurd w1 z2
          · left
            refine ⟨2, ((tS k B p' : Nat) : Int), ⟨by decide, by omega, by omega⟩, ?_, ?_⟩
            · rw [bnd_eq w1, chk_pos (by show inR 0; decide), if_pos (by show (0 : Int) = 0; rfl)]
              exact ⟨_, _, _, _, rfl⟩
            · rw [z4]
              exact ⟨_, _, _, _, _, _, _, _, _, _, rfl⟩
          · exact absurd w1 z1
        · rcases stop_c h hp2 tk' tp' nm' with ⟨w1, _⟩ | ⟨w1, _⟩ | ⟨_, nx, tk2, tp2, nm2, w1⟩
          · exact absurd z1 w1
          · exact absurd z1 w1
          · left
            refine ⟨1, ((tS k B p' : Nat) : Int), ⟨by decide, by omega, by omega⟩, ?_, ?_⟩
            · rw [bnd_eq w1, chk_pos (by show inR 0; decide), if_pos (by show (0 : Int) = 0; rfl)]
              exact ⟨_, _, _, _, rfl⟩
            · rw [z4]
              exact ⟨_, _, _, _, _, _, _, _, _, _, rfl⟩
  · have e11 : (if 4 ≤ L then some (1 : Int) else chk (inR (D 30)) (if 5 ≤ (D 30) then some 0 else some 1)) = some 0 := by
      rw [if_neg (by omega), h30, chk_pos (by omega), if_pos (by omega)]
    left
    refine ⟨5, s, ⟨by decide, by omega, by omega⟩, ?_, ?_⟩
    · have ef : f_Shop_isFull n = some 1 := by
        unfold f_Shop_isFull
        rw [chk_pos (by omega), if_neg (by omega)]
      have ec : f_TextReader_takesBoxLine 0 0 x K s nm n F P k B L = some (0, 5, (s : Int), (x : Int), K, (s : Int), nm, (n : Int), F, P) := by
        unfold f_TextReader_takesBoxLine
        rw [bnd_eq ef, chk_pos (by decide), if_neg (by decide), bnd_eq (failed_eq 0 0 5 s), chk_pos (Or.inl rfl)]
      rw [bnd_eq ec, chk_pos (by show inR 0; decide), if_pos (by show (0 : Int) = 0; rfl)]
      exact ⟨_, _, _, _, rfl⟩
    · rw [rl_gen hm hK (by omega) e6 e11 e16 e21 (nd_1 s wa 2) (nd_0 s wa 5) (nd_f s 5 s 1 4 (by decide) (Or.inr rfl)) (nd_f s 5 s 1 4 (by decide) (Or.inr rfl)) hot hsd hot hsd e27 e32 (takes_f k x s K va 5 s T (by decide)) (by decide), if_neg (by decide)]
      exact ⟨_, _, _, _, _, _, _, _, _, _, rfl⟩
theorem line_both (h : RT k B T) (hsx : s ≤ x) (hx : x ≤ k) (hR : TXR u n st ot sd A R F P D pl hi) (hK : inR K) :
    LOut k B x (f_TextReader_takesLine u ot sd 0 0 x K s nm A n st F P k B) (f_M_readLine ot sd pl u hi k x s K va 0 wa D R T) := by
  have hb := nmL_bd B s x
  obtain ⟨L, hL, hc, hm⟩ : ∃ L : Int, (L = -4 ∨ (0 ≤ L ∧ L ≤ 5)) ∧ (if K = 1 then Option.bind (f_TextReader_lineOfName x s k B) (fun o36 => some o36) else some (-4)) = some L ∧ (if K = 1 then Option.bind (f_M_lineNow k x s T) (fun o77 => some o77) else some (-4)) = some L := by
    by_cases c : K = 1
    · exact ⟨nmL B s x, hb, by rw [if_pos c, bnd_eq (lineOf_eq h hsx hx)], by rw [if_pos c, bnd_eq (lineNow_eq h hsx hx)]⟩
    · exact ⟨-4, Or.inl rfl, if_neg c, if_neg c⟩
  by_cases c0 : L = -4
  · subst c0; exact line_none hsx hx hR hK hc hm
  by_cases c4 : L = 4
  · subst c4; exact line_order h hsx hx hR hK hc hm
  by_cases c5 : L = 5
  · subst c5; exact line_start h hsx hx hR hK hc hm
  exact line_box h hsx hx hR hK (by omega) hc hm
end LINE
