/-! ===== text: a box's line ===== -/
def rdN (k : Int) (T : Nat → Int) (lo hi : Int) (s : Int × Int × Int × Int × Int × Int) : Option (Int × Int × Int × Int × Int × Int × Int) := f_M_readNumber k s.1 s.2.1 s.2.2.1 s.2.2.2.1 s.2.2.2.2.1 s.2.2.2.2.2 T lo hi
def MTt (k : Nat) (B : Nat → Int) (p : Nat) (s : Int × Int × Int × Int × Int × Int) : Prop := MT k B p s.1 s.2.1 s.2.2.1 s.2.2.2.1 s.2.2.2.2.1 s.2.2.2.2.2
theorem rdN_f (k : Int) (T : Nat → Int) (lo hi : Int) (s : Int × Int × Int × Int × Int × Int) (hf : 0 < s.2.2.2.2.1 ∧ s.2.2.2.2.1 ≤ 6) : rdN k T lo hi s = some (0, s) := readNumber_f k s.1 s.2.1 s.2.2.1 s.2.2.2.1 s.2.2.2.2.1 s.2.2.2.2.2 lo hi T hf
theorem least_n : ∀ j : Fin 6, f_Shop_least ((j.val : Nat) : Int) = some (tLEAST j.val) := by decide +kernel
theorem most_n : ∀ j : Fin 6, f_Shop_most ((j.val : Nat) : Int) = some (tMOST j.val) := by decide +kernel
theorem lm_bd : ∀ j : Fin 6, inR (tLEAST j.val) ∧ inR (tMOST j.val) := by decide +kernel
theorem bc_end (g n p : Nat) (tk tp nm : Int) (F P : Nat → Int) (k : Nat) (B : Nat → Int) : f_TextReader_takesBoxLine_L33 (g + 1) 0 0 p tk tp nm ((n + 1 : Nat) : Int) F P k B n ((6 : Nat) : Int) = some (1, 0, 0, (p : Int), tk, tp, nm, ((n + 1 : Nat) : Int), F, P) := by
  rw [f_TextReader_takesBoxLine_L33, chk_pos (by decide), if_pos (by decide)]
theorem bc_bad (g n p j : Nat) (hj : j < 6) (tk tp nm : Int) (F P : Nat → Int) (k : Nat) (B : Nat → Int) {ff w a b c d : Int} (ht : f_TextReader_takesToken 0 0 p tk tp nm k B = some (0, ff, w, a, b, c, d)) : f_TextReader_takesBoxLine_L33 (g + 1) 0 0 p tk tp nm ((n + 1 : Nat) : Int) F P k B n j = some (0, ff, w, a, b, c, d, ((n + 1 : Nat) : Int), F, P) := by
  rw [f_TextReader_takesBoxLine_L33, chk_pos (by omega), if_neg (by omega), bnd_eq ht, chk_pos (by show inR 0; decide), if_pos (by show (0 : Int) = 0; rfl)]
theorem bc_not (g n p j : Nat) (hj : j < 6) (tk tp nm : Int) (F P : Nat → Int) (k : Nat) (B : Nat → Int) {ff w a b c d : Int} (ht : f_TextReader_takesToken 0 0 p tk tp nm k B = some (1, 0, 0, a, b, c, d)) (hn : f_TextReader_isNumberWithin 0 0 b c d (tLEAST j) (tMOST j) = some (0, ff, w)) : f_TextReader_takesBoxLine_L33 (g + 1) 0 0 p tk tp nm ((n + 1 : Nat) : Int) F P k B n j = some (0, ff, w, a, b, c, d, ((n + 1 : Nat) : Int), F, P) := by
  rw [f_TextReader_takesBoxLine_L33, chk_pos (by omega), if_neg (by omega), bnd_eq ht, chk_pos (by show inR 1; decide), if_neg (by show ¬ (1 : Int) = 0; decide), bnd_eq (least_n ⟨j, hj⟩), bnd_eq (most_n ⟨j, hj⟩), bnd_eq hn, chk_pos (by show inR 0; decide), if_pos (by show (0 : Int) = 0; rfl)]
theorem bc_ok (g n p j : Nat) (hn5 : n < 5) (hj : j < 6) (tk tp nm : Int) (F P : Nat → Int) (k : Nat) (B : Nat → Int) {a c d : Int} (ht : f_TextReader_takesToken 0 0 p tk tp nm k B = some (1, 0, 0, a, 2, c, d)) (hn : f_TextReader_isNumberWithin 0 0 2 c d (tLEAST j) (tMOST j) = some (1, 0, 0)) : f_TextReader_takesBoxLine_L33 (g + 1) 0 0 p tk tp nm ((n + 1 : Nat) : Int) F P k B n j = f_TextReader_takesBoxLine_L33 g 0 0 a 2 c d ((n + 1 : Nat) : Int) (upZ F (6 * n + j) d) P k B n ((j + 1 : Nat) : Int) := by
  have es := setFact_eq (n := n + 1) (F := F) (by omega) (n : Int) (j : Int) d (by omega) (by omega)
  rw [Int.toNat_natCast, Int.toNat_natCast] at es
  rw [f_TextReader_takesBoxLine_L33, chk_pos (by omega), if_neg (by omega), bnd_eq ht, chk_pos (by show inR 1; decide), if_neg (by show ¬ (1 : Int) = 0; decide), bnd_eq (least_n ⟨j, hj⟩), bnd_eq (most_n ⟨j, hj⟩), bnd_eq hn, chk_pos (by show inR 1; decide), if_neg (by show ¬ (1 : Int) = 0; decide), bnd_eq es]
  rfl
theorem box_L {k : Nat} {B T : Nat → Int} (h : RT k B T) {n : Nat} (hn : n < 5) (P : Nat → Int) : ∀ (m j p g : Nat) (F : Nat → Int) (s : Int × Int × Int × Int × Int × Int) (tk tp nm : Int), j + m = 6 → m < g → p ≤ k → MTt k B p s →
    ∃ (vs : Nat → Int) (ss : Nat → Int × Int × Int × Int × Int × Int), ss j = s ∧ (∀ i, j ≤ i → i < 6 → rdN k T (tLEAST i) (tMOST i) (ss i) = some (vs i, ss (i + 1))) ∧
    ((∃ ff w, FW k ff w ∧ (ss 6).2.2.2.2.1 = ff ∧ (ss 6).2.2.2.2.2 = w ∧ ∃ r, f_TextReader_takesBoxLine_L33 g 0 0 p tk tp nm ((n + 1 : Nat) : Int) F P k B n j = some (0, ff, w, r))
    ∨ (∃ (p' : Nat) (tk' tp' nm' : Int) (F' : Nat → Int), p ≤ p' ∧ p' ≤ k ∧ MTt k B p' (ss 6) ∧ (∀ i, j ≤ i → i < 6 → tLEAST i ≤ vs i ∧ vs i ≤ tMOST i) ∧ (∀ i, j ≤ i → i < 6 → F' (6 * n + i) = vs i) ∧ (∀ q, q < 6 * n + j → F' q = F q) ∧ f_TextReader_takesBoxLine_L33 g 0 0 p tk tp nm ((n + 1 : Nat) : Int) F P k B n j = some (1, 0, 0, (p' : Int), tk', tp', nm', ((n + 1 : Nat) : Int), F', P)))
  | 0, j, p, g, F, s, tk, tp, nm, hj, hg, hp, hM => by
    obtain ⟨g, rfl⟩ : ∃ q, g = q + 1 := ⟨g - 1, by omega⟩
    obtain rfl : j = 6 := by omega
    exact ⟨fun _ => 0, fun _ => s, rfl, fun i h1 h2 => by omega, Or.inr ⟨p, tk, tp, nm, F, Nat.le_refl p, hp, hM, fun i h1 h2 => by omega, fun i h1 h2 => by omega, fun q _ => rfl, bc_end g n p tk tp nm F P k B⟩⟩
  | m + 1, j, p, g, F, s, tk, tp, nm, hj, hg, hp, hM => by
    obtain ⟨g, rfl⟩ : ∃ q, g = q + 1 := ⟨g - 1, by omega⟩
    have hb := lm_bd ⟨j, by omega⟩
    rcases num_both h hp hM tk tp nm (tLEAST j) (tMOST j) hb.1 hb.2 with ⟨ff, w, hff, ⟨v', ps', bg', so', va', e1⟩, hc⟩ | ⟨v, p', tp', hv, hv2, hp1, hp2, hc, hnw, ps', bg', so', va', f', wa', e1, e2⟩
    · have e1 : rdN k T (tLEAST j) (tMOST j) s = some (v', (ps', bg', so', va', ff, w)) := e1
      refine ⟨fun i => if i = j then v' else 0, fun i => if i = j then s else (ps', bg', so', va', ff, w), if_pos rfl, fun i h1 h2 => ?_, Or.inl ⟨ff, w, hff, ?_, ?_, ?_⟩⟩
      · show rdN k T (tLEAST i) (tMOST i) (if i = j then s else (ps', bg', so', va', ff, w)) = some (if i = j then v' else 0, if i + 1 = j then s else (ps', bg', so', va', ff, w))
        rw [if_neg (show ¬ i + 1 = j by omega)]
        by_cases c : i = j
        · subst c
          rw [if_pos rfl, if_pos rfl]; exact e1
        · rw [if_neg c, if_neg c]
          exact rdN_f k T _ _ (ps', bg', so', va', ff, w) hff.1
      · show (if (6 : Nat) = j then s else (ps', bg', so', va', ff, w)).2.2.2.2.1 = ff
        rw [if_neg (show ¬ (6 : Nat) = j by omega)]
      · show (if (6 : Nat) = j then s else (ps', bg', so', va', ff, w)).2.2.2.2.2 = w
        rw [if_neg (show ¬ (6 : Nat) = j by omega)]
      · rcases hc with ⟨nx, tk', tp', nm', hc⟩ | ⟨nx, tk', tp', nm', hc, hnw⟩
        · exact ⟨_, bc_bad g n p j (by omega) tk tp nm F P k B hc⟩
        · exact ⟨_, bc_not g n p j (by omega) tk tp nm F P k B hc hnw⟩
    · have e1 : rdN k T (tLEAST j) (tMOST j) s = some (v, (ps', bg', so', va', f', wa')) := e1
      rw [bc_ok g n p j hn (by omega) tk tp nm F P k B hc hnw]
      obtain ⟨vs, ss, i1, i2, i3⟩ := box_L h hn P m (j + 1) p' g (upZ F (6 * n + j) v) (ps', bg', so', va', f', wa') 2 tp' v (by omega) (by omega) hp2 e2
      have s6 : (if (6 : Nat) = j then s else ss 6) = ss 6 := if_neg (by omega)
      refine ⟨fun i => if i = j then v else vs i, fun i => if i = j then s else ss i, if_pos rfl, fun i h1 h2 => ?_, ?_⟩
      · show rdN k T (tLEAST i) (tMOST i) (if i = j then s else ss i) = some (if i = j then v else vs i, if i + 1 = j then s else ss (i + 1))
        rw [if_neg (show ¬ i + 1 = j by omega)]
        by_cases c : i = j
        · subst c
          rw [if_pos rfl, if_pos rfl, i1]; exact e1
        · rw [if_neg c, if_neg c]
          exact i2 i (by omega) h2
      · rcases i3 with ⟨ff, w, q1, q2, q3, q4⟩ | ⟨p2, tk2, tp2, nm2, F', q1, q2, q3, q4, q5, q6, q7⟩
        · refine Or.inl ⟨ff, w, q1, ?_, ?_, q4⟩
          · show (if (6 : Nat) = j then s else ss 6).2.2.2.2.1 = ff
            rw [s6]; exact q2
          · show (if (6 : Nat) = j then s else ss 6).2.2.2.2.2 = w
            rw [s6]; exact q3
        · refine Or.inr ⟨p2, tk2, tp2, nm2, F', by omega, q2, ?_, fun i h1 h2 => ?_, fun i h1 h2 => ?_, fun q hq => ?_, q7⟩
          · show MTt k B p2 (if (6 : Nat) = j then s else ss 6)
            rw [s6]; exact q3
          · show tLEAST i ≤ (if i = j then v else vs i) ∧ (if i = j then v else vs i) ≤ tMOST i
            by_cases c : i = j
            · subst c; rw [if_pos rfl]; exact hv
            · rw [if_neg c]; exact q4 i (by omega) h2
          · show F' (6 * n + i) = if i = j then v else vs i
            by_cases c : i = j
            · subst c; rw [if_pos rfl, q6 _ (by omega)]; exact upZ_same _ _ _
            · rw [if_neg c]; exact q5 i (by omega) h2
          · rw [q6 q (by omega)]; exact upZ_ne _ _ (by omega)
theorem box_m {n : Nat} (hn : n < 5) {D : Nat → Int} (hD : D 30 = (n : Int)) (x1 : Int) (hx : 0 ≤ x1 ∧ x1 ≤ 3) (pl pm hi k : Int) (R T : Nat → Int) (s1 s2 s3 s4 s5 s6 : Int × Int × Int × Int × Int × Int) (v1 v2 v3 v4 v5 : Int) (e1 : rdN k T 1 12 s1 = some (v1, s2)) (e2 : rdN k T 0 23 s2 = some (v2, s3)) (e3 : rdN k T 1 9 s3 = some (v3, s4)) (e4 : rdN k T 0 23 s4 = some (v4, s5)) (e5 : rdN k T 0 4 s5 = some (v5, s6)) :
    f_M_readLineOf pl pm hi k s1.1 s1.2.1 s1.2.2.1 s1.2.2.2.1 s1.2.2.2.2.1 s1.2.2.2.2.2 D R T x1 = some (pl, pm, hi, s6.1, s6.2.1, s6.2.2.1, s6.2.2.2.1, s6.2.2.2.2.1, s6.2.2.2.2.2, upZ (upZ (upZ (upZ (upZ (upZ (upZ D (6 * n) x1) (6 * n + 1) v1) (6 * n + 2) v2) (6 * n + 3) v3) (6 * n + 4) v4) (6 * n + 5) v5) 30 ((n : Int) + 1), R) := by
  have t0 : (6 * (n : Int) + 0).toNat = 6 * n := by omega
  have t1 : (6 * (n : Int) + 1).toNat = 6 * n + 1 := by omega
  have t2 : (6 * (n : Int) + 2).toNat = 6 * n + 2 := by omega
  have t3 : (6 * (n : Int) + 3).toNat = 6 * n + 3 := by omega
  have t4 : (6 * (n : Int) + 4).toNat = 6 * n + 4 := by omega
  have t5 : (6 * (n : Int) + 5).toNat = 6 * n + 5 := by omega
  have u0 : ∀ (f : Nat → Int) (v : Int), upZ f (6 * n) v 30 = f 30 := fun f v => upZ_ne _ _ (by omega)
  have u1 : ∀ (f : Nat → Int) (v : Int), upZ f (6 * n + 1) v 30 = f 30 := fun f v => upZ_ne _ _ (by omega)
  have u2 : ∀ (f : Nat → Int) (v : Int), upZ f (6 * n + 2) v 30 = f 30 := fun f v => upZ_ne _ _ (by omega)
  have u3 : ∀ (f : Nat → Int) (v : Int), upZ f (6 * n + 3) v 30 = f 30 := fun f v => upZ_ne _ _ (by omega)
  have u4 : ∀ (f : Nat → Int) (v : Int), upZ f (6 * n + 4) v 30 = f 30 := fun f v => upZ_ne _ _ (by omega)
  have u5 : ∀ (f : Nat → Int) (v : Int), upZ f (6 * n + 5) v 30 = f 30 := fun f v => upZ_ne _ _ (by omega)
  unfold rdN at e1 e2 e3 e4 e5
  unfold f_M_readLineOf
  rw [chk_pos (by omega), if_neg (by omega), if_neg (by omega)]
  simp only [hD, t0, u0]
  rw [chk_pos (by omega), bnd_eq e1]
  simp only [hD, t0, t1, u0, u1]
  rw [chk_pos (by omega), bnd_eq e2]
  simp only [hD, t0, t1, t2, u0, u1, u2]
  rw [chk_pos (by omega), bnd_eq e3]
  simp only [hD, t0, t1, t2, t3, u0, u1, u2, u3]
  rw [chk_pos (by omega), bnd_eq e4]
  simp only [hD, t0, t1, t2, t3, t4, u0, u1, u2, u3, u4]
  rw [chk_pos (by omega), bnd_eq e5]
  simp only [hD, t0, t1, t2, t3, t4, t5, u0, u1, u2, u3, u4, u5]
  rw [chk_pos (by omega)]
/-- the draft on both sides -/
def DR (n : Nat) (st : Int) (F P D : Nat → Int) : Prop := n ≤ 5 ∧ (0 ≤ st ∧ st ≤ 23) ∧ D 30 = (n : Int) ∧ D 36 = st ∧ D 37 = 0 ∧ (∀ j, j < 6 * n → F j = D j) ∧ (∀ b, b < n → VK F b ∧ F (6 * b + 1) ≤ 12) ∧ ∀ i, i < n → P i = (i : Int)
theorem DR.box {n : Nat} {st : Int} {F P D : Nat → Int} (h : DR n st F P D) (hn : n < 5) {F' : Nat → Int} {x1 v1 v2 v3 v4 v5 : Int} (hx : 0 ≤ x1 ∧ x1 ≤ 3) (h1 : 1 ≤ v1 ∧ v1 ≤ 12) (h2 : 0 ≤ v2 ∧ v2 ≤ 23) (h3 : 1 ≤ v3 ∧ v3 ≤ 9) (h4 : 0 ≤ v4 ∧ v4 ≤ 23) (h5 : 0 ≤ v5 ∧ v5 ≤ 4) (f0 : F' (6 * n) = x1) (f1 : F' (6 * n + 1) = v1) (f2 : F' (6 * n + 2) = v2) (f3 : F' (6 * n + 3) = v3) (f4 : F' (6 * n + 4) = v4) (f5 : F' (6 * n + 5) = v5) (fo : ∀ q, q < 6 * n → F' q = F q) :
    DR (n + 1) st F' (upZ P n n) (upZ (upZ (upZ (upZ (upZ (upZ (upZ D (6 * n) x1) (6 * n + 1) v1) (6 * n + 2) v2) (6 * n + 3) v3) (6 * n + 4) v4) (6 * n + 5) v5) 30 ((n : Int) + 1)) := by
  obtain ⟨a1, a2, a3, a4, a5, a6, a7, a8⟩ := h
  have far : ∀ (f : Nat → Int) (i j : Nat) (v : Int), j ≠ i → upZ f i v j = f j := fun f i j v h => upZ_ne _ _ h
  refine ⟨by omega, a2, upZ_same _ _ _, ?_, ?_, fun j hj => ?_, fun b hb => ?_, fun i hi => ?_⟩
  · rw [far _ _ _ _ (by omega), far _ _ _ _ (by omega), far _ _ _ _ (by omega), far _ _ _ _ (by omega), far _ _ _ _ (by omega), far _ _ _ _ (by omega), far _ _ _ _ (by omega)]
    exact a4
  · rw [far _ _ _ _ (by omega), far _ _ _ _ (by omega), far _ _ _ _ (by omega), far _ _ _ _ (by omega), far _ _ _ _ (by omega), far _ _ _ _ (by omega), far _ _ _ _ (by omega)]
    exact a5
  · rw [far _ _ _ _ (show j ≠ 30 by omega)]
    by_cases c5 : j = 6 * n + 5
    · subst c5; rw [upZ_same]; exact f5
    rw [far _ _ _ _ c5]
    by_cases c4 : j = 6 * n + 4
    · subst c4; rw [upZ_same]; exact f4
    rw [far _ _ _ _ c4]
    by_cases c3 : j = 6 * n + 3
    · subst c3; rw [upZ_same]; exact f3
    rw [far _ _ _ _ c3]
    by_cases c2 : j = 6 * n + 2
    · subst c2; rw [upZ_same]; exact f2
    rw [far _ _ _ _ c2]
    by_cases c1 : j = 6 * n + 1
    · subst c1; rw [upZ_same]; exact f1
    rw [far _ _ _ _ c1]
    by_cases c0 : j = 6 * n
    · subst c0; rw [upZ_same]; exact f0
    rw [far _ _ _ _ c0, fo j (by omega)]
    exact a6 j (by omega)
  · by_cases c : b = n
    · subst c
      refine ⟨⟨?_, ?_, ?_, ?_, ?_, ?_⟩, ?_⟩
      · rw [f0]; exact hx
      · rw [f1]; omega
      · rw [f2]; exact h2
      · rw [f3]; exact h3
      · rw [f4]; exact h4
      · rw [f5]; exact h5
      · rw [f1]; exact h1.2
    · have q := a7 b (by omega)
      unfold VK at q ⊢
      rw [fo _ (by omega), fo _ (by omega), fo _ (by omega), fo _ (by omega), fo _ (by omega), fo _ (by omega)]
      exact q
  · by_cases c : i = n
    · subst c; exact upZ_same _ _ _
    · rw [far _ _ _ _ c]; exact a8 i (by omega)
theorem boxline_both {k : Nat} {B T : Nat → Int} (h : RT k B T) {n : Nat} {st : Int} {F P D : Nat → Int} (hD : DR n st F P D) (hn : n < 5) (x1 : Int) (hx : 0 ≤ x1 ∧ x1 ≤ 3) {p : Nat} (hp : p ≤ k) {ps bg so va f wa : Int} (hM : MT k B p ps bg so va f wa) (tk tp nm : Int) (pl pm hi : Int) (R : Nat → Int) :
    (∃ ff w, FW k ff w ∧ (∃ r, f_TextReader_takesBoxLine 0 0 p tk tp nm n F P k B x1 = some (0, ff, w, r)) ∧ ∃ ps' bg' so' va' D', f_M_readLineOf pl pm hi k ps bg so va f wa D R T x1 = some (pl, pm, hi, ps', bg', so', va', ff, w, D', R))
    ∨ (∃ (p' : Nat) (tk' tp' nm' : Int) (F' P' : Nat → Int) (ps' bg' so' va' f' wa' : Int) (D' : Nat → Int), p ≤ p' ∧ p' ≤ k ∧ MT k B p' ps' bg' so' va' f' wa' ∧ DR (n + 1) st F' P' D' ∧ f_TextReader_takesBoxLine 0 0 p tk tp nm n F P k B x1 = some (1, 0, 0, (p' : Int), tk', tp', nm', ((n + 1 : Nat) : Int), F', P') ∧ f_M_readLineOf pl pm hi k ps bg so va f wa D R T x1 = some (pl, pm, hi, ps', bg', so', va', f', wa', D', R)) := by
  have ef : f_Shop_isFull n = some 0 := by
    unfold f_Shop_isFull
    rw [chk_pos (by omega), if_pos (by omega)]
  have ea := addPlain_eq (F := F) (P := P) hn x1 1 0
  generalize eF1 : upZ (upZ (upZ (upZ (upZ (upZ F (6 * n) x1) (6 * n + 1) 1) (6 * n + 2) 0) (6 * n + 3) 1) (6 * n + 4) 8) (6 * n + 5) 0 = F1 at ea
  have g0 : F1 (6 * n) = x1 := by
    rw [← eF1, upZ_ne _ _ (by omega), upZ_ne _ _ (by omega), upZ_ne _ _ (by omega), upZ_ne _ _ (by omega), upZ_ne _ _ (by omega), upZ_same]
  have go : ∀ q, q < 6 * n → F1 q = F q := fun q hq => by
    rw [← eF1, upZ_ne _ _ (by omega), upZ_ne _ _ (by omega), upZ_ne _ _ (by omega), upZ_ne _ _ (by omega), upZ_ne _ _ (by omega), upZ_ne _ _ (by omega)]
  have ec : f_TextReader_takesBoxLine 0 0 p tk tp nm n F P k B x1 = f_TextReader_takesBoxLine_L33 5000 0 0 p tk tp nm ((n + 1 : Nat) : Int) F1 (upZ P n n) k B n ((1 : Nat) : Int) := by
    unfold f_TextReader_takesBoxLine
    rw [bnd_eq ef, chk_pos (by decide), if_pos rfl, bnd_eq ea]
    rfl
  obtain ⟨vs, ss, i1, i2, i3⟩ := box_L h hn (upZ P n n) 5 1 p 5000 F1 (ps, bg, so, va, f, wa) tk tp nm (by omega) (by omega) hp hM
  have em := box_m hn hD.2.2.1 x1 hx pl pm hi k R T (ss 1) (ss 2) (ss 3) (ss 4) (ss 5) (ss 6) (vs 1) (vs 2) (vs 3) (vs 4) (vs 5) (i2 1 (by omega) (by omega)) (i2 2 (by omega) (by omega)) (i2 3 (by omega) (by omega)) (i2 4 (by omega) (by omega)) (i2 5 (by omega) (by omega))
  rw [i1] at em
  rcases i3 with ⟨ff, w, q1, q2, q3, r, q4⟩ | ⟨p', tk', tp', nm', F', q1, q2, q3, q4, q5, q6, q7⟩
  · left
    refine ⟨ff, w, q1, ⟨r, by rw [ec]; exact q4⟩, ?_⟩
    rw [q2, q3] at em
    exact ⟨_, _, _, _, _, em⟩
  · right
    refine ⟨p', tk', tp', nm', F', upZ P n n, _, _, _, _, _, _, _, q1, q2, q3, ?_, by rw [ec]; exact q7, em⟩
    exact hD.box hn hx (q4 1 (by omega) (by omega)) (q4 2 (by omega) (by omega)) (q4 3 (by omega) (by omega)) (q4 4 (by omega) (by omega)) (q4 5 (by omega) (by omega)) (by rw [q6 _ (by omega)]; exact g0) (q5 1 (by omega) (by omega)) (q5 2 (by omega) (by omega)) (q5 3 (by omega) (by omega)) (q5 4 (by omega) (by omega)) (q5 5 (by omega) (by omega)) (fun q hq => by rw [q6 q (by omega)]; exact go q hq)
