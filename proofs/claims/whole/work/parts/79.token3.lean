/-- the token from p on: where it begins -/
def tS (k : Nat) (B : Nat → Int) (p : Nat) : Nat := rn (qS B) (k - p) p
/-- its sort: 0 end, 1 name, 2 number, 3 stop -/
def tK (k : Nat) (B : Nat → Int) (s : Nat) : Int := if k ≤ s then 0 else if B s = 59 then 3 else if 97 ≤ B s ∧ B s ≤ 122 then 1 else 2
def tE (k : Nat) (B : Nat → Int) (s : Nat) : Nat := rn (qF B) (k - s) s
/-- where the next begins -/
def tX (k : Nat) (B : Nat → Int) (s : Nat) : Nat := if k ≤ s then s else if B s = 59 then s + 1 else if 97 ≤ B s ∧ B s ≤ 122 then rn (qL B) (k - s) s else tE k B s
/-- no token -/
def tBad (k : Nat) (B : Nat → Int) (s : Nat) : Prop := s < k ∧ ¬ B s = 59 ∧ ¬ (97 ≤ B s ∧ B s ≤ 122) ∧ (¬ (48 ≤ B s ∧ B s ≤ 57) ∨ 2 < tE k B s - s)
theorem tS_bd {k : Nat} (B : Nat → Int) {p : Nat} (hp : p ≤ k) : p ≤ tS k B p ∧ tS k B p ≤ k := by
  have := rn_bd (qS B) (k - p) p
  unfold tS
  omega
theorem tok_c {k : Nat} {B T : Nat → Int} (h : RT k B T) {p : Nat} (hp : p ≤ k) (ff fp tk tp nm : Int) :
    (¬ tBad k B (tS k B p) ∧ f_TextReader_takesToken ff fp p tk tp nm k B = some (1, ff, fp, ((tX k B (tS k B p) : Nat) : Int), tK k B (tS k B p), ((tS k B p : Nat) : Int), if tK k B (tS k B p) = 2 then nvl B (tS k B p) (tE k B (tS k B p) - tS k B p) else nm))
    ∨ (tBad k B (tS k B p) ∧ ∃ nx nm', f_TextReader_takesToken ff fp p tk tp nm k B = some (0, 1, ((tS k B p : Nat) : Int), nx, 2, ((tS k B p : Nat) : Int), nm')) := by
  have hk := h.1
  have hs := tS_bd B hp
  have e0 : f_TextReader_takesToken_L0 5000 p k B = some ((tS k B p : Nat) : Int) := space_c h (k - p) p 5000 (by omega) (by omega)
  generalize tS k B p = s at hs e0
  have bad : ∀ (a b c : Int), f_TextReader_takesToken_b144 ff fp a b c nm k B = some (0, 1, c, a, b, c, nm) := fun a b c => rfl
  have bad2 : ∀ (a b c n2 : Int), f_TextReader_takesToken_b144 ff fp a b c n2 k B = some (0, 1, c, a, b, c, n2) := fun a b c n2 => rfl
  unfold f_TextReader_takesToken
  rw [bnd_eq e0, bnd_eq (tsize_eq _), chk_pos (by omega), chk_pos (by omega)]
  by_cases c0 : k ≤ s
  · left
    refine ⟨fun q => by have := q.1; omega, ?_⟩
    unfold tX tK
    rw [if_neg (by omega), if_pos c0, if_pos c0, if_neg (by decide)]
  · have hb := h.2 s (by omega)
    have ea := at_eq h s (by omega)
    rw [if_pos (by omega), bnd_eq ea, chk_pos (by omega)]
    by_cases c1 : B s = 59
    · left
      refine ⟨fun q => q.2.1 c1, ?_⟩
      unfold tX tK
      rw [if_pos c1, if_neg c0, if_neg c0, if_pos c1, if_pos c1, if_neg (by decide)]
      rfl
    · rw [if_neg c1, gb (letter_eq (B s) (by omega))]
      by_cases c2 : 97 ≤ B s ∧ B s ≤ 122
      · left
        refine ⟨fun q => q.2.2.1 c2, ?_⟩
        have en : f_TextReader_passName s k B = some ((rn (qL B) (k - s) s : Nat) : Int) := by
          unfold f_TextReader_passName
          rw [bnd_eq (name_c h (k - s) s 5000 (by omega) (by omega))]
        unfold tX tK
        rw [if_pos c2, bnd_eq en, if_neg c0, if_neg c0, if_neg c1, if_neg c1, if_pos c2, if_pos c2, if_neg (by decide)]
      · rw [if_neg c2, gb (figure_eq (B s) (by omega))]
        by_cases c3 : 48 ≤ B s ∧ B s ≤ 57
        · have en := num_c h s (k - s) 0 5000 (by omega) (by omega) (by omega)
          have en : f_TextReader_passNumber s s nm k B = if tE k B s - s ≤ 2 then some (1, ((tE k B s : Nat) : Int), nvl B s (tE k B s - s)) else some (0, ((s + 2 : Nat) : Int), nvl B s 2) := en
          rw [if_pos c3]
          by_cases c4 : tE k B s - s ≤ 2
          · left
            refine ⟨fun q => by have := q.2.2.2; exact this.elim (fun a => a c3) (fun a => by omega), ?_⟩
            rw [if_pos c4] at en
            have ek : tK k B s = 2 := by unfold tK; rw [if_neg c0, if_neg c1, if_neg c2]
            have et : tX k B s = tE k B s := by unfold tX; rw [if_neg c0, if_neg c1, if_neg c2]
            rw [bnd_eq en, chk_pos (by show inR 1; decide), if_neg (by show ¬ (1 : Int) = 0; decide), ek, et, if_pos rfl]
          · right
            refine ⟨⟨by omega, c1, c2, Or.inr (by omega)⟩, ?_⟩
            rw [if_neg c4] at en
            rw [bnd_eq en, chk_pos (by show inR 0; decide), if_pos (by show (0 : Int) = 0; rfl)]
            exact ⟨_, _, bad2 _ _ _ _⟩
        · right
          refine ⟨⟨by omega, c1, c2, Or.inl c3⟩, ?_⟩
          rw [if_neg c3]
          exact ⟨_, _, bad _ _ _⟩
theorem tok_m {k : Nat} {B T : Nat → Int} (h : RT k B T) {p : Nat} (hp : p ≤ k) (bg so va wa : Int) :
    (¬ tBad k B (tS k B p) ∧ f_M_takes k p bg so va 0 wa T = some (((tX k B (tS k B p) : Nat) : Int), ((tS k B p : Nat) : Int), tK k B (tS k B p), (if tK k B (tS k B p) = 2 then nvl B (tS k B p) (tE k B (tS k B p) - tS k B p) else va), 0, wa))
    ∨ (tBad k B (tS k B p) ∧ ∃ ps so' va', f_M_takes k p bg so va 0 wa T = some (ps, ((tS k B p : Nat) : Int), so', va', 1, ((tS k B p : Nat) : Int))) := by
  have hk := h.1
  have hs := tS_bd B hp
  have e0 : f_M_takes_L8 5000 k p T = some ((tS k B p : Nat) : Int) := space_m h (k - p) p 5000 (by omega) (by omega)
  generalize tS k B p = s at hs e0
  unfold f_M_takes
  rw [chk_pos (by decide), if_pos (by decide), bnd_eq e0]
  by_cases c0 : k ≤ s
  · left
    refine ⟨fun q => by have := q.1; omega, ?_⟩
    unfold tX tK
    rw [bnd_eq (byte_end hk T s c0 (by omega)), chk_pos (by decide), if_neg (by decide), if_pos c0, if_pos c0, if_neg (by decide)]
  · have hb := h.2 s (by omega)
    have n0 : ∀ y : Int, f_M_needs s 0 wa 0 y = some (y, (s : Int)) := fun y => rfl
    have n1 : ∀ y : Int, f_M_needs s 0 wa 1 y = some (0, wa) := fun y => rfl
    rw [bnd_eq (byte_eq h s (by omega)), chk_pos (by omega), if_pos hb.2.1, gb (in_eq (B s) 97 122 (inL_of (by omega)) (by decide) (by decide)), gb (in_eq (B s) 48 57 (inL_of (by omega)) (by decide) (by decide))]
    by_cases c2 : 97 ≤ B s ∧ B s ≤ 122
    · left
      refine ⟨fun q => q.2.2.1 c2, ?_⟩
      unfold tX tK
      rw [if_pos c2, bnd_eq (name_m h (k - s) s 5000 (by omega) (by omega)), if_neg c0, if_neg c0, if_neg (show ¬ B s = 59 by omega), if_neg (show ¬ B s = 59 by omega), if_pos c2, if_pos c2, if_neg (by decide)]
    · rw [if_neg c2]
      by_cases c3 : 48 ≤ B s ∧ B s ≤ 57
      · have en := num_m h s (k - s) 0 5000 (by omega) (by omega)
        have en : f_M_takes_L140 5000 k s s 0 T = some (((tE k B s : Nat) : Int), nvl B s (min (tE k B s - s) 2)) := en
        have hE := rn_bd (qF B) (k - s) s
        have hE : s ≤ tE k B s ∧ tE k B s ≤ s + (k - s) := hE
        have ek : tK k B s = 2 := by unfold tK; rw [if_neg c0, if_neg (show ¬ B s = 59 by omega), if_neg c2]
        have et : tX k B s = tE k B s := by unfold tX; rw [if_neg c0, if_neg (show ¬ B s = 59 by omega), if_neg c2]
        rw [if_pos c3, bnd_eq en, chk_pos (by show inR (((tE k B s : Nat) : Int) - s); omega)]
        by_cases c4 : tE k B s - s ≤ 2
        · left
          refine ⟨fun q => by have := q.2.2.2; exact this.elim (fun a => a c3) (fun a => by omega), ?_⟩
          rw [if_neg (by show ¬ (2 : Int) < ((tE k B s : Nat) : Int) - s; omega), Option.bind_some, bnd_eq (n1 1), ek, et, if_pos rfl, show min (tE k B s - s) 2 = tE k B s - s by omega]
        · right
          refine ⟨⟨by omega, by omega, c2, Or.inr (by omega)⟩, ?_⟩
          rw [if_pos (by show (2 : Int) < ((tE k B s : Nat) : Int) - s; omega), Option.bind_some, bnd_eq (n0 1)]
          exact ⟨_, _, _, rfl⟩
      · rw [if_neg c3]
        by_cases c1 : B s = 59
        · left
          refine ⟨fun q => q.2.1 c1, ?_⟩
          unfold tX tK
          rw [if_pos c1, Option.bind_some, bnd_eq (n1 1), if_neg c0, if_neg c0, if_pos c1, if_pos c1, if_neg (by decide)]
          rfl
        · right
          refine ⟨⟨by omega, c1, c2, Or.inl c3⟩, ?_⟩
          rw [if_neg c1, Option.bind_some, bnd_eq (n0 1)]
          exact ⟨_, _, _, rfl⟩
