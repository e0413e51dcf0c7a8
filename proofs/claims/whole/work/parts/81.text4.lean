/-! ===== text: one line on both sides ===== -/
theorem nmL_bd (B : Nat → Int) (s e : Nat) : nmL B s e = -4 ∨ (0 ≤ nmL B s e ∧ nmL B s e ≤ 5) := by
  unfold nmL
  split
  · exact Or.inr (by decide)
  · split
    · exact Or.inr (by decide)
    · split
      · exact Or.inr (by decide)
      · split
        · exact Or.inr (by decide)
        · split
          · exact Or.inr (by decide)
          · split
            · exact Or.inr (by decide)
            · exact Or.inl rfl
def rlRest (o27 o32 k : Int) (T : Nat → Int) (z : Option (Int × Int × Int × Int × Int × Int × Int × Int × Int × (Nat → Int) × (Nat → Int))) : Option (Int × Int × Int × Int × Int × Int × Int × Int × Int × Int × Int × (Nat → Int) × (Nat → Int)) :=
  Option.bind z (fun o41 => chk (inR o41.2.2.2.2.2.2.2.1) (Option.bind (if o41.2.2.2.2.2.2.2.1 = 0 then chk (inR o41.2.2.2.2.2.1) (Option.bind (if o41.2.2.2.2.2.1 = 3 then some (1) else some (0)) (fun o51 => Option.bind (f_M_needs o41.2.2.2.2.1 o41.2.2.2.2.2.2.2.1 o41.2.2.2.2.2.2.2.2.1 o51 2) (fun o54 => some (o54.1, o54.2)))) else some (o41.2.2.2.2.2.2.2.1, o41.2.2.2.2.2.2.2.2.1)) (fun o44 => Option.bind (f_M_takes k o41.2.2.2.1 o41.2.2.2.2.1 o41.2.2.2.2.2.1 o41.2.2.2.2.2.2.1 o44.1 o44.2 T) (fun o47 => some (o27, o32, o41.1, o41.2.1, o41.2.2.1, o47.1, o47.2.1, o47.2.2.1, o47.2.2.2.1, o47.2.2.2.2.1, o47.2.2.2.2.2, o41.2.2.2.2.2.2.2.2.2.1, o41.2.2.2.2.2.2.2.2.2.2)))))
theorem rest_f (o27 o32 k : Int) (T : Nat → Int) {pl pm hi ps bg so va ff w : Int} {D R : Nat → Int} (hf : 0 < ff ∧ ff ≤ 6) : rlRest o27 o32 k T (some (pl, pm, hi, ps, bg, so, va, ff, w, D, R)) = some (o27, o32, pl, pm, hi, ps, bg, so, va, ff, w, D, R) := by
  unfold rlRest
  rw [Option.bind_some, chk_pos (by show inR ff; omega), if_neg (by show ¬ ff = 0; omega), Option.bind_some, bnd_eq (takes_f k ps bg so va ff w T hf)]
theorem rest_m {k : Nat} {B T : Nat → Int} (h : RT k B T) {p : Nat} (hp : p ≤ k) {ps bg so va f wa : Int} (hM : MT k B p ps bg so va f wa) (o27 o32 pl pm hi : Int) (D R : Nat → Int) :
    (¬ tBad k B (tS k B p) ∧ tK k B (tS k B p) = 3 ∧ ∃ ps' bg' so' va' f' wa', MT k B (tX k B (tS k B p)) ps' bg' so' va' f' wa' ∧ rlRest o27 o32 k T (some (pl, pm, hi, ps, bg, so, va, f, wa, D, R)) = some (o27, o32, pl, pm, hi, ps', bg', so', va', f', wa', D, R))
    ∨ (¬ tBad k B (tS k B p) ∧ ¬ tK k B (tS k B p) = 3 ∧ ∃ ps' bg' so' va', rlRest o27 o32 k T (some (pl, pm, hi, ps, bg, so, va, f, wa, D, R)) = some (o27, o32, pl, pm, hi, ps', bg', so', va', 2, ((tS k B p : Nat) : Int), D, R))
    ∨ (tBad k B (tS k B p) ∧ ∃ ps' bg' so' va', rlRest o27 o32 k T (some (pl, pm, hi, ps, bg, so, va, f, wa, D, R)) = some (o27, o32, pl, pm, hi, ps', bg', so', va', 1, ((tS k B p : Nat) : Int), D, R)) := by
  have hs := tS_bd B hp
  have hX := tX_bd (B := B) hs.2
  obtain ⟨f', wa', ⟨hf, e⟩, q⟩ := stop_m h hp hM
  have er : rlRest o27 o32 k T (some (pl, pm, hi, ps, bg, so, va, f, wa, D, R)) = Option.bind (f_M_takes k ps bg so va f' wa' T) (fun o47 => some (o27, o32, pl, pm, hi, o47.1, o47.2.1, o47.2.2.1, o47.2.2.2.1, o47.2.2.2.2.1, o47.2.2.2.2.2, D, R)) := by
    unfold rlRest
    rw [Option.bind_some, chk_pos hf]
    exact bnd_eq e
  rw [er]
  rcases q with ⟨q1, q2, q3, q4⟩ | ⟨q1, q2, q3, q4⟩ | ⟨q1, q3, q4⟩
  · left
    subst q3 q4
    obtain ⟨ps2, bg2, so2, va2, f2, wa2, e1, e2⟩ := mt_takes h hX.2 bg so va wa'
    exact ⟨q1, q2, ps2, bg2, so2, va2, f2, wa2, e2, bnd_eq e1⟩
  · right; left
    subst q3 q4
    exact ⟨q1, q2, _, _, _, _, bnd_eq (takes_f k ps bg so va 2 _ T (by decide))⟩
  · right; right
    subst q3 q4
    exact ⟨q1, _, _, _, _, bnd_eq (takes_f k ps bg so va 1 _ T (by decide))⟩
theorem rl_gen {ot sd pl pm hi k ps bg so va wa : Int} {D R T : Nat → Int} {L : Int} (eL : (if so = 1 then Option.bind (f_M_lineNow k ps bg T) (fun o77 => some o77) else some (-4)) = some L) (hso : inR so) (hL : inR L) {o6 o11 o16 o21 : Int} (e6 : (if L = (-4) then some (0 : Int) else some 1) = some o6) (e11 : (if 4 ≤ L then some (1 : Int) else chk (inR (D 30)) (if 5 ≤ (D 30) then some 0 else some 1)) = some o11) (e16 : (if L = 4 then chk (inR ot) (if ot = 0 then some (1 : Int) else some 0) else some 1) = some o16) (e21 : (if L = 5 then chk (inR sd) (if sd = 0 then some (1 : Int) else some 0) else some 1) = some o21)
    {f1 w1 f2 w2 f3 w3 f4 w4 : Int} (n1 : f_M_needs bg 0 wa o6 2 = some (f1, w1)) (n2 : f_M_needs bg f1 w1 o11 5 = some (f2, w2)) (n3 : f_M_needs bg f2 w2 o16 4 = some (f3, w3)) (n4 : f_M_needs bg f3 w3 o21 4 = some (f4, w4)) (hot : ot = 0 ∨ ot = 1) (hsd : sd = 0 ∨ sd = 1) {o27 o32 : Int} (h27 : o27 = 0 ∨ o27 = 1) (h32 : o32 = 0 ∨ o32 = 1) (e27 : (if ot = 0 then if L = 4 then some (1 : Int) else some 0 else some 1) = some o27) (e32 : (if sd = 0 then if L = 5 then some (1 : Int) else some 0 else some 1) = some o32) {ps' bg' so' va' f' wa' : Int} (et : f_M_takes k ps bg so va f4 w4 T = some (ps', bg', so', va', f', wa')) (hf : inR f') :
    f_M_readLine ot sd pl pm hi k ps bg so va 0 wa D R T = if f' ≤ 0 then rlRest o27 o32 k T (f_M_readLineOf pl pm hi k ps' bg' so' va' f' wa' D R T L) else some (o27, o32, pl, pm, hi, ps', bg', so', va', f', wa', D, R) := by
  unfold f_M_readLine
  rw [chk_pos hso, bnd_eq eL, chk_pos hL, bnd_eq e6, bnd_eq n1, bnd_eq e11, bnd_eq n2, bnd_eq e16, bnd_eq n3, bnd_eq e21, bnd_eq n4, chk_pos (by omega), bnd_eq e27, chk_pos h27, chk_pos (by omega), bnd_eq e32, chk_pos h32, bnd_eq et, chk_pos (by show inR f'; exact hf)]
  rfl
/-- what both hold of the text so far -/
def TXR (u n : Nat) (st ot sd : Int) (A R F P D : Nat → Int) (pl hi : Int) : Prop := OR u A R pl hi ∧ DR n st F P D ∧ (ot = 0 ∨ ot = 1) ∧ (sd = 0 ∨ sd = 1) ∧ (ot = 0 → u = 0 ∧ pl = 0 ∧ hi = -4)
theorem if_27 (ot L : Int) (h : ot = 0 ∨ ot = 1) (hL : ¬ L = 4) : (if ot = 0 then if L = 4 then some (1 : Int) else some 0 else some 1) = some ot := by
  rcases h with h | h
  · rw [if_pos h, if_neg hL, h]
  · rw [if_neg (by omega), h]
theorem if_32 (sd L : Int) (h : sd = 0 ∨ sd = 1) (hL : ¬ L = 5) : (if sd = 0 then if L = 5 then some (1 : Int) else some 0 else some 1) = some sd := by
  rcases h with h | h
  · rw [if_pos h, if_neg hL, h]
  · rw [if_neg (by omega), h]
theorem failed_eq (a b x y : Int) : f_TextReader_failed a b x y = some (0, x, y) := rfl
theorem DR.start {n : Nat} {st : Int} {F P D : Nat → Int} (h : DR n st F P D) {v : Int} (hv : 0 ≤ v ∧ v ≤ 23) : DR n v F P (upZ D 36 v) := by
  obtain ⟨a1, a2, a3, a4, a5, a6, a7, a8⟩ := h
  exact ⟨a1, hv, by rw [upZ_ne _ _ (by omega)]; exact a3, upZ_same _ _ _, by rw [upZ_ne _ _ (by omega)]; exact a5, fun j hj => by rw [upZ_ne _ _ (by omega)]; exact a6 j hj, a7, a8⟩
/-- the class: a line by what it is -/
theorem tl_L {u ot sd st nm x K s : Int} {A F P : Nat → Int} {n : Int} {k : Int} {B : Nat → Int} {L : Int} (eL : (if K = 1 then Option.bind (f_TextReader_lineOfName x s k B) (fun o36 => some o36) else some (-4)) = some L) (hK : inR K) (hL : inR L) :
    f_TextReader_takesLine u ot sd 0 0 x K s nm A n st F P k B = if L = -4 then Option.bind (f_TextReader_failed 0 0 2 s) (fun o7 => chk (o7.1 = 0 ∨ o7.1 = 1) (some (o7.1, u, ot, sd, o7.2.1, o7.2.2, x, K, s, nm, A, n, st, F, P)))
      else (if L = 4 then Option.bind (f_TextReader_takesOrderLine u ot 0 0 x K s nm A k B) (fun o11 => chk (o11.1 = 0 ∨ o11.1 = 1) (some (o11.1, o11.2.1, o11.2.2.1, sd, o11.2.2.2.1, o11.2.2.2.2.1, o11.2.2.2.2.2.1, o11.2.2.2.2.2.2.1, o11.2.2.2.2.2.2.2.1, o11.2.2.2.2.2.2.2.2.1, o11.2.2.2.2.2.2.2.2.2, n, st, F, P)))
      else (if L = 5 then Option.bind (f_TextReader_takesStartLine sd 0 0 x K s nm st k B) (fun o15 => chk (inR o15.1) (if o15.1 = 0 then some (0, u, ot, o15.2.1, o15.2.2.1, o15.2.2.2.1, o15.2.2.2.2.1, o15.2.2.2.2.2.1, o15.2.2.2.2.2.2.1, o15.2.2.2.2.2.2.2.1, A, n, o15.2.2.2.2.2.2.2.2, F, P) else Option.bind (f_TextReader_takesStop o15.2.2.1 o15.2.2.2.1 o15.2.2.2.2.1 o15.2.2.2.2.2.1 o15.2.2.2.2.2.2.1 o15.2.2.2.2.2.2.2.1 k B) (fun o20 => chk (inR o20.1) (if o20.1 = 0 then some (0, u, ot, o15.2.1, o20.2.1, o20.2.2.1, o20.2.2.2.1, o20.2.2.2.2.1, o20.2.2.2.2.2.1, o20.2.2.2.2.2.2, A, n, o15.2.2.2.2.2.2.2.2, F, P) else some (1, u, ot, o15.2.1, o20.2.1, o20.2.2.1, o20.2.2.2.1, o20.2.2.2.2.1, o20.2.2.2.2.2.1, o20.2.2.2.2.2.2, A, n, o15.2.2.2.2.2.2.2.2, F, P)))))
      else (Option.bind (f_TextReader_takesBoxLine 0 0 x K s nm n F P k B L) (fun o25 => chk (inR o25.1) (if o25.1 = 0 then some (0, u, ot, sd, o25.2.1, o25.2.2.1, o25.2.2.2.1, o25.2.2.2.2.1, o25.2.2.2.2.2.1, o25.2.2.2.2.2.2.1, A, o25.2.2.2.2.2.2.2.1, st, o25.2.2.2.2.2.2.2.2.1, o25.2.2.2.2.2.2.2.2.2) else Option.bind (f_TextReader_takesStop o25.2.1 o25.2.2.1 o25.2.2.2.1 o25.2.2.2.2.1 o25.2.2.2.2.2.1 o25.2.2.2.2.2.2.1 k B) (fun o30 => chk (inR o30.1) (if o30.1 = 0 then some (0, u, ot, sd, o30.2.1, o30.2.2.1, o30.2.2.2.1, o30.2.2.2.2.1, o30.2.2.2.2.2.1, o30.2.2.2.2.2.2, A, o25.2.2.2.2.2.2.2.1, st, o25.2.2.2.2.2.2.2.2.1, o25.2.2.2.2.2.2.2.2.2) else some (1, u, ot, sd, o30.2.1, o30.2.2.1, o30.2.2.2.1, o30.2.2.2.2.1, o30.2.2.2.2.2.1, o30.2.2.2.2.2.2, A, o25.2.2.2.2.2.2.2.1, st, o25.2.2.2.2.2.2.2.2.1, o25.2.2.2.2.2.2.2.2.2)))))))) := by
  unfold f_TextReader_takesLine
  rw [chk_pos hK, bnd_eq eL, chk_pos hL]
theorem box_c0 {n : Nat} (hn : n < 5) (p : Nat) (tk tp nm x1 : Int) (F P : Nat → Int) (k : Nat) (B : Nat → Int) : ∃ F1, f_TextReader_takesBoxLine 0 0 p tk tp nm n F P k B x1 = f_TextReader_takesBoxLine_L33 5000 0 0 p tk tp nm ((n + 1 : Nat) : Int) F1 (upZ P n n) k B n ((1 : Nat) : Int) := by
  have ef : f_Shop_isFull n = some 0 := by
    unfold f_Shop_isFull
    rw [chk_pos (by omega), if_pos (by omega)]
  unfold f_TextReader_takesBoxLine
  rw [bnd_eq ef, chk_pos (by decide), if_pos rfl, bnd_eq (addPlain_eq (F := F) (P := P) hn x1 1 0)]
  exact ⟨_, rfl⟩
/-- outcome of a line: both at fault alike, or both behind it -/
def LOut (k : Nat) (B : Nat → Int) (p : Nat) (c : Option (Int × Int × Int × Int × Int × Int × Int × Int × Int × Int × (Nat → Int) × Int × Int × (Nat → Int) × (Nat → Int))) (r : Option (Int × Int × Int × Int × Int × Int × Int × Int × Int × Int × Int × (Nat → Int) × (Nat → Int))) : Prop :=
  (∃ ff w, FW k ff w ∧ (∃ a1 a2 a3 a4, c = some (0, a1, a2, a3, ff, w, a4)) ∧ ∃ b1 b2 b3 b4 b5 b6 b7 b8 b9 b10, r = some (b1, b2, b3, b4, b5, b6, b7, b8, b9, ff, w, b10))
  ∨ (∃ (u n : Nat) (st ot sd : Int) (A R F P D : Nat → Int) (pl hi : Int) (p' : Nat) (tk tp nm ps bg so va f wa : Int), p ≤ p' ∧ p' ≤ k ∧ TXR u n st ot sd A R F P D pl hi ∧ MT k B p' ps bg so va f wa ∧ c = some (1, (u : Int), ot, sd, 0, 0, (p' : Int), tk, tp, nm, A, (n : Int), st, F, P) ∧ r = some (ot, sd, pl, (u : Int), hi, ps, bg, so, va, f, wa, D, R))
