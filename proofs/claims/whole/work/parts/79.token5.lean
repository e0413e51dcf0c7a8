theorem step6 {α : Type} {k : Nat} {B T : Nat → Int} (h : RT k B T) {s e : Nat} (hs : s ≤ e) (he : e ≤ k) (a b c d f g : Int) (ha : inR a) (hb : inR b) (hc : inR c) (hd : inR d) (hf : inR f) (hg : inR g) (hg0 : ¬ g = 0) {X A : Option α} :
    Option.bind (f_M_is k e s T 6 a b c d) (fun o => chk (inR o) (if o = 0 then X else Option.bind (f_M_ends k s T f g) (fun p => chk (inR p) (if p = 0 then X else A)))) = if (e : Int) - s = 6 ∧ B s = a ∧ B (s + 1) = b ∧ B (s + 2) = c ∧ B (s + 3) = d ∧ B (s + 4) = f ∧ B (s + 5) = g then A else X := by
  have e1 : f_M_is k e s T 6 a b c d = some (if (e : Int) - s = 6 ∧ B s = a ∧ B (s + 1) = b ∧ B (s + 2) = c ∧ B (s + 3) = d then 1 else 0) := is_eq h hs he 6 (by omega) (by omega) a b c d ha hb hc hd
  rw [gb e1]
  by_cases q : (e : Int) - s = 6 ∧ B s = a ∧ B (s + 1) = b ∧ B (s + 2) = c ∧ B (s + 3) = d
  · rw [if_pos q, gb (ends2_eq h (s := s) (by have := q.1; omega) f g hf hg hg0)]
    by_cases r : B (s + 4) = f ∧ B (s + 5) = g
    · rw [if_pos r, if_pos ⟨q.1, q.2.1, q.2.2.1, q.2.2.2.1, q.2.2.2.2, r.1, r.2⟩]
    · rw [if_neg r, if_neg (fun z => r ⟨z.2.2.2.2.2.1, z.2.2.2.2.2.2⟩)]
  · rw [if_neg q, if_neg (fun z => q ⟨z.1, z.2.1, z.2.2.1, z.2.2.2.1, z.2.2.2.2.1⟩)]
theorem step5 {α : Type} {k : Nat} {B T : Nat → Int} (h : RT k B T) {s e : Nat} (hs : s ≤ e) (he : e ≤ k) (a b c d f : Int) (ha : inR a) (hb : inR b) (hc : inR c) (hd : inR d) (hf : inR f) {X A : Option α} :
    Option.bind (f_M_is k e s T 5 a b c d) (fun o => chk (inR o) (if o = 0 then X else Option.bind (f_M_ends k s T f 0) (fun p => chk (inR p) (if p = 0 then X else A)))) = if (e : Int) - s = 5 ∧ B s = a ∧ B (s + 1) = b ∧ B (s + 2) = c ∧ B (s + 3) = d ∧ B (s + 4) = f then A else X := by
  have e1 : f_M_is k e s T 5 a b c d = some (if (e : Int) - s = 5 ∧ B s = a ∧ B (s + 1) = b ∧ B (s + 2) = c ∧ B (s + 3) = d then 1 else 0) := is_eq h hs he 5 (by omega) (by omega) a b c d ha hb hc hd
  rw [gb e1]
  by_cases q : (e : Int) - s = 5 ∧ B s = a ∧ B (s + 1) = b ∧ B (s + 2) = c ∧ B (s + 3) = d
  · rw [if_pos q, gb (ends1_eq h (s := s) (by have := q.1; omega) f hf)]
    by_cases r : B (s + 4) = f
    · rw [if_pos r, if_pos ⟨q.1, q.2.1, q.2.2.1, q.2.2.2.1, q.2.2.2.2, r⟩]
    · rw [if_neg r, if_neg (fun z => r z.2.2.2.2.2)]
  · rw [if_neg q, if_neg (fun z => q ⟨z.1, z.2.1, z.2.2.1, z.2.2.2.1, z.2.2.2.2.1⟩)]
/-- which line a name begins -/
def nmL (B : Nat → Int) (s e : Nat) : Int :=
  if (e : Int) - s = 6 ∧ B s = 98 ∧ B (s + 1) = 111 ∧ B (s + 2) = 110 ∧ B (s + 3) = 110 ∧ B (s + 4) = 101 ∧ B (s + 5) = 116 then 0
  else if (e : Int) - s = 4 ∧ B s = 118 ∧ B (s + 1) = 101 ∧ B (s + 2) = 105 ∧ B (s + 3) = 108 then 1
  else if (e : Int) - s = 5 ∧ B s = 116 ∧ B (s + 1) = 111 ∧ B (s + 2) = 113 ∧ B (s + 3) = 117 ∧ B (s + 4) = 101 then 2
  else if (e : Int) - s = 6 ∧ B s = 98 ∧ B (s + 1) = 114 ∧ B (s + 2) = 105 ∧ B (s + 3) = 100 ∧ B (s + 4) = 97 ∧ B (s + 5) = 108 then 3
  else if (e : Int) - s = 5 ∧ B s = 111 ∧ B (s + 1) = 114 ∧ B (s + 2) = 100 ∧ B (s + 3) = 101 ∧ B (s + 4) = 114 then 4
  else if (e : Int) - s = 5 ∧ B s = 115 ∧ B (s + 1) = 116 ∧ B (s + 2) = 97 ∧ B (s + 3) = 114 ∧ B (s + 4) = 116 then 5
  else -4
theorem some_if {α : Type} (c : Prop) [Decidable c] (a b : α) : some (if c then a else b) = if c then some a else some b := by split <;> rfl
theorem lineNow_eq {k : Nat} {B T : Nat → Int} (h : RT k B T) {s e : Nat} (hs : s ≤ e) (he : e ≤ k) : f_M_lineNow k e s T = some (nmL B s e) := by
  have i4 := is_eq h hs he 4 (by omega) (by omega) 118 101 105 108 (by decide) (by decide) (by decide) (by decide)
  have i4 : f_M_is k e s T 4 118 101 105 108 = some (if (e : Int) - s = 4 ∧ B s = 118 ∧ B (s + 1) = 101 ∧ B (s + 2) = 105 ∧ B (s + 3) = 108 then 1 else 0) := i4
  unfold f_M_lineNow f_M_lineNow_b30 f_M_lineNow_b76 f_M_lineNow_b106 f_M_lineNow_b136
  rw [step6 h hs he 98 111 110 110 101 116 (by decide) (by decide) (by decide) (by decide) (by decide) (by decide) (by decide), gb i4,
    step5 h hs he 116 111 113 117 101 (by decide) (by decide) (by decide) (by decide) (by decide),
    step6 h hs he 98 114 105 100 97 108 (by decide) (by decide) (by decide) (by decide) (by decide) (by decide) (by decide),
    step5 h hs he 111 114 100 101 114 (by decide) (by decide) (by decide) (by decide) (by decide),
    step5 h hs he 115 116 97 114 116 (by decide) (by decide) (by decide) (by decide) (by decide)]
  unfold nmL
  rw [some_if, some_if, some_if, some_if, some_if, some_if]
theorem nm_if {x : Option Int} {c d : Prop} [Decidable c] [Decidable d] (h : c ↔ d) (e : x = some (if c then 1 else 0)) : x = some (if d then 1 else 0) := by
  rw [e]
  by_cases q : c
  · rw [if_pos q, if_pos (h.mp q)]
  · rw [if_neg q, if_neg (fun r => q (h.mpr r))]
theorem lineOf_eq {k : Nat} {B T : Nat → Int} (h : RT k B T) {s e : Nat} (hs : s ≤ e) (he : e ≤ k) : f_TextReader_lineOfName e s k B = some (nmL B s e) := by
  have w0 := nameIs_eq h hs he 0 (by omega) 6 rfl
  have w1 := nameIs_eq h hs he 1 (by omega) 4 rfl
  have w2 := nameIs_eq h hs he 2 (by omega) 5 rfl
  have w3 := nameIs_eq h hs he 3 (by omega) 6 rfl
  have w4 := nameIs_eq h hs he 4 (by omega) 5 rfl
  have w5 := nameIs_eq h hs he 5 (by omega) 5 rfl
  have v0 := nm_if (d := (e : Int) - s = 6 ∧ B s = 98 ∧ B (s + 1) = 111 ∧ B (s + 2) = 110 ∧ B (s + 3) = 110 ∧ B (s + 4) = 101 ∧ B (s + 5) = 116) (by
    rw [show strChZ 0 = fun j => strChZ 0 j from rfl]
    simp only [agr, Bool.and_eq_true, decide_eq_true_eq, true_and, and_assoc, Nat.add_zero, show strChZ 0 0 = 98 from rfl, show strChZ 0 1 = 111 from rfl, show strChZ 0 2 = 110 from rfl, show strChZ 0 3 = 110 from rfl, show strChZ 0 4 = 101 from rfl, show strChZ 0 5 = 116 from rfl]
    exact Iff.rfl) w0
  have v1 := nm_if (d := (e : Int) - s = 4 ∧ B s = 118 ∧ B (s + 1) = 101 ∧ B (s + 2) = 105 ∧ B (s + 3) = 108) (by
    simp only [agr, Bool.and_eq_true, decide_eq_true_eq, true_and, and_assoc, Nat.add_zero, show strChZ 1 0 = 118 from rfl, show strChZ 1 1 = 101 from rfl, show strChZ 1 2 = 105 from rfl, show strChZ 1 3 = 108 from rfl]
    exact Iff.rfl) w1
  have v2 := nm_if (d := (e : Int) - s = 5 ∧ B s = 116 ∧ B (s + 1) = 111 ∧ B (s + 2) = 113 ∧ B (s + 3) = 117 ∧ B (s + 4) = 101) (by
    simp only [agr, Bool.and_eq_true, decide_eq_true_eq, true_and, and_assoc, Nat.add_zero, show strChZ 2 0 = 116 from rfl, show strChZ 2 1 = 111 from rfl, show strChZ 2 2 = 113 from rfl, show strChZ 2 3 = 117 from rfl, show strChZ 2 4 = 101 from rfl]
    exact Iff.rfl) w2
  have v3 := nm_if (d := (e : Int) - s = 6 ∧ B s = 98 ∧ B (s + 1) = 114 ∧ B (s + 2) = 105 ∧ B (s + 3) = 100 ∧ B (s + 4) = 97 ∧ B (s + 5) = 108) (by
    simp only [agr, Bool.and_eq_true, decide_eq_true_eq, true_and, and_assoc, Nat.add_zero, show strChZ 3 0 = 98 from rfl, show strChZ 3 1 = 114 from rfl, show strChZ 3 2 = 105 from rfl, show strChZ 3 3 = 100 from rfl, show strChZ 3 4 = 97 from rfl, show strChZ 3 5 = 108 from rfl]
    exact Iff.rfl) w3
  have v4 := nm_if (d := (e : Int) - s = 5 ∧ B s = 111 ∧ B (s + 1) = 114 ∧ B (s + 2) = 100 ∧ B (s + 3) = 101 ∧ B (s + 4) = 114) (by
    simp only [agr, Bool.and_eq_true, decide_eq_true_eq, true_and, and_assoc, Nat.add_zero, show strChZ 4 0 = 111 from rfl, show strChZ 4 1 = 114 from rfl, show strChZ 4 2 = 100 from rfl, show strChZ 4 3 = 101 from rfl, show strChZ 4 4 = 114 from rfl]
    exact Iff.rfl) w4
  have v5 := nm_if (d := (e : Int) - s = 5 ∧ B s = 115 ∧ B (s + 1) = 116 ∧ B (s + 2) = 97 ∧ B (s + 3) = 114 ∧ B (s + 4) = 116) (by
    simp only [agr, Bool.and_eq_true, decide_eq_true_eq, true_and, and_assoc, Nat.add_zero, show strChZ 5 0 = 115 from rfl, show strChZ 5 1 = 116 from rfl, show strChZ 5 2 = 97 from rfl, show strChZ 5 3 = 114 from rfl, show strChZ 5 4 = 116 from rfl]
    exact Iff.rfl) w5
  unfold f_TextReader_lineOfName
  rw [gb v0, gb v1, gb v2, gb v3, gb v4, gb v5]
  unfold nmL
  rw [some_if, some_if, some_if, some_if, some_if, some_if]
