/-! a number within its bounds, on both sides -/
theorem numIn_eq (ff fp tk s nm lo hi : Int) (h1 : inR tk) (h2 : inR nm) (h3 : inR lo) (h4 : inR hi) : f_TextReader_isNumberWithin ff fp tk s nm lo hi = some (if tk = 2 then (if lo ≤ nm ∧ nm ≤ hi then (1, ff, fp) else (0, 3, s)) else (0, 2, s)) := by
  unfold f_TextReader_isNumberWithin
  rw [chk_pos h1]
  by_cases c : tk = 2
  · rw [if_pos c, if_pos c, gb (within_eq nm lo hi h2 h3 h4)]
    by_cases d : lo ≤ nm ∧ nm ≤ hi
    · rw [if_pos d, if_pos d]
    · rw [if_neg d, if_neg d]
      rfl
  · rw [if_neg c, if_neg c]
    rfl
theorem needs_eq (bg f wa y : Int) (c : Prop) [Decidable c] (hf : inR f) : f_M_needs bg f wa (if c then 1 else 0) y = some (if c ∨ ¬ f = 0 then (f, wa) else (y, bg)) := by
  unfold f_M_needs
  by_cases q : c
  · rw [if_pos q, chk_pos (by decide), if_neg (by decide), if_pos (Or.inl q)]
  · rw [if_neg q, chk_pos (by decide), if_pos rfl, chk_pos hf]
    by_cases r : f = 0
    · rw [if_pos r, if_neg (fun z => z.elim q (fun w => w r))]
    · rw [if_neg r, if_pos (Or.inr r)]
theorem looked_eq (bg so va wa lo hi : Int) (h1 : inR so) (h2 : inR va) (h3 : inR lo) (h4 : inR hi) : f_M_looked bg so va 0 wa lo hi = some (if so = 2 then (if lo ≤ va ∧ va ≤ hi then (va, 0, wa) else (0, 3, bg)) else (0, 2, bg)) := by
  unfold f_M_looked
  rw [chk_pos (by decide), if_pos rfl, chk_pos h1]
  by_cases c : so = 2
  · have n1 : f_M_needs bg 0 wa 1 2 = some (0, wa) := rfl
    have e2 := in_eq va lo hi (inL_of h2) (inL_of h3) (inL_of h4)
    rw [if_pos c, if_pos c, Option.bind_some, bnd_eq n1, Option.bind_some, chk_pos (by show inR 0; decide), if_pos (by show (0 : Int) = 0; rfl), chk_pos h2, chk_pos h3, chk_pos h4, bnd_eq e2]
    by_cases d : lo ≤ va ∧ va ≤ hi
    · have n2 : f_M_needs bg 0 wa 1 3 = some (0, wa) := rfl
      rw [if_pos d, if_pos d]
      show Option.bind (Option.bind (f_M_needs bg 0 wa 1 3) _) _ = _
      rw [bnd_eq n2, Option.bind_some, chk_pos (by show inR 0; decide), if_pos (by show (0 : Int) = 0; rfl)]
    · have n2 : f_M_needs bg 0 wa 0 3 = some (3, bg) := rfl
      rw [if_neg d, if_neg d]
      show Option.bind (Option.bind (f_M_needs bg 0 wa 0 3) _) _ = _
      rw [bnd_eq n2, Option.bind_some, chk_pos (by show inR 3; decide), if_neg (by show ¬ (3 : Int) = 0; decide)]
  · have n1 : f_M_needs bg 0 wa 0 2 = some (2, bg) := rfl
    rw [if_neg c, if_neg c, Option.bind_some, bnd_eq n1, Option.bind_some, chk_pos (by show inR 2; decide), if_neg (by show ¬ (2 : Int) = 0; decide), Option.bind_some, chk_pos (by show inR 2; decide), if_neg (by show ¬ (2 : Int) = 0; decide)]
theorem looked_f (bg so va f wa lo hi : Int) (hf : 0 < f ∧ f ≤ 6) : f_M_looked bg so va f wa lo hi = some (0, f, wa) := by
  unfold f_M_looked
  rw [chk_pos (by omega), if_neg (by omega), Option.bind_some, chk_pos (by show inR f; omega), if_neg (by show ¬ f = 0; omega), Option.bind_some, chk_pos (by show inR f; omega), if_neg (by show ¬ f = 0; omega)]
theorem takes_f (k p bg so va f wa : Int) (T : Nat → Int) (hf : 0 < f ∧ f ≤ 6) : f_M_takes k p bg so va f wa T = some (p, bg, so, va, f, wa) := by
  unfold f_M_takes
  rw [chk_pos (by omega), if_neg (by omega)]
theorem readNumber_f (k p bg so va f wa lo hi : Int) (T : Nat → Int) (hf : 0 < f ∧ f ≤ 6) : f_M_readNumber k p bg so va f wa T lo hi = some (0, p, bg, so, va, f, wa) := by
  unfold f_M_readNumber
  rw [bnd_eq (looked_f bg so va f wa lo hi hf), bnd_eq (takes_f k p bg so va f wa T hf)]
