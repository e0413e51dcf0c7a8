/-! ===== text: tokens ===== -/
/-- the first place from p on, at most m further, where q fails -/
def rn (q : Nat → Bool) : Nat → Nat → Nat
  | 0, p => p
  | m + 1, p => if q p = true then rn q m (p + 1) else p
theorem rn_bd (q : Nat → Bool) : ∀ m p, p ≤ rn q m p ∧ rn q m p ≤ p + m
  | 0, p => ⟨Nat.le_refl p, Nat.le_refl p⟩
  | m + 1, p => by
    have := rn_bd q m (p + 1)
    show p ≤ (if q p = true then rn q m (p + 1) else p) ∧ (if q p = true then rn q m (p + 1) else p) ≤ p + (m + 1)
    split <;> omega
def qS (B : Nat → Int) : Nat → Bool := fun i => decide (B i = 32)
def qL (B : Nat → Int) : Nat → Bool := fun i => decide (97 ≤ B i ∧ B i ≤ 122)
def qF (B : Nat → Int) : Nat → Bool := fun i => decide (48 ≤ B i ∧ B i ≤ 57)
theorem at_eq {k : Nat} {B T : Nat → Int} (h : RT k B T) (p : Nat) (hp : p < k) : f_Tape_at k B p = some (B p) := by
  have := h.1
  unfold f_Tape_at
  rw [chk_pos (by omega), if_neg (by omega), chk_pos (by omega), if_neg (by omega), chk_pos (by omega), Int.toNat_natCast]
theorem at_end {k : Nat} (hk : k ≤ 160) (B : Nat → Int) (p : Nat) (hp : k ≤ p) (hp2 : p < 2147483648) : f_Tape_at k B p = some (-4) := by
  unfold f_Tape_at
  rw [chk_pos (by omega), if_neg (by omega), chk_pos (by omega), if_pos (by omega)]
theorem byte_eq {k : Nat} {B T : Nat → Int} (h : RT k B T) (p : Nat) (hp : p < k) : f_M_byteAt k T p = some (B p) := by
  have := h.1
  unfold f_M_byteAt
  rw [chk_pos (by omega), chk_pos (by omega), if_neg (by omega), chk_pos (by omega), Int.toNat_natCast, (h.2 p hp).1]
theorem byte_end {k : Nat} (hk : k ≤ 160) (T : Nat → Int) (p : Nat) (hp : k ≤ p) (hp2 : p < 2147483648) : f_M_byteAt k T p = some (-1) := by
  unfold f_M_byteAt
  rw [chk_pos (by omega), chk_pos (by omega), if_pos (by omega)]
theorem tsize_eq (k : Int) : f_Tape_size k = some k := rfl
theorem letter_eq (x : Int) (hx : inR x) : f_TextReader_isLetter x = some (if 97 ≤ x ∧ x ≤ 122 then 1 else 0) := by
  unfold f_TextReader_isLetter chk
  grind
theorem figure_eq (x : Int) (hx : inR x) : f_TextReader_isFigure x = some (if 48 ≤ x ∧ x ≤ 57 then 1 else 0) := by
  unfold f_TextReader_isFigure chk
  grind
theorem space_c {k : Nat} {B T : Nat → Int} (h : RT k B T) : ∀ (m p f : Nat), p + m = k → m < f → f_TextReader_takesToken_L0 f p k B = some ((rn (qS B) m p : Nat) : Int)
  | 0, p, f, hp, hf => by
    have := h.1
    obtain ⟨g, rfl⟩ : ∃ g, f = g + 1 := ⟨f - 1, by omega⟩
    rw [f_TextReader_takesToken_L0, bnd_eq (tsize_eq _), chk_pos (by omega), chk_pos (by omega), if_pos (by omega)]
    rfl
  | m + 1, p, f, hp, hf => by
    have := h.1
    have hb := h.2 p (by omega)
    obtain ⟨g, rfl⟩ : ∃ g, f = g + 1 := ⟨f - 1, by omega⟩
    rw [f_TextReader_takesToken_L0, bnd_eq (tsize_eq _), chk_pos (by omega), chk_pos (by omega), if_neg (by omega), bnd_eq (at_eq h p (by omega)), chk_pos (by omega)]
    unfold rn qS
    by_cases c : B p = 32
    · rw [if_pos c, if_pos (decide_eq_true c)]
      exact space_c h m (p + 1) g (by omega) (by omega)
    · rw [if_neg c, if_neg (by rw [decide_eq_true_eq]; exact c)]
theorem space_m {k : Nat} {B T : Nat → Int} (h : RT k B T) : ∀ (m p f : Nat), p + m = k → m < f → f_M_takes_L8 f k p T = some ((rn (qS B) m p : Nat) : Int)
  | 0, p, f, hp, hf => by
    have := h.1
    obtain ⟨g, rfl⟩ : ∃ g, f = g + 1 := ⟨f - 1, by omega⟩
    rw [f_M_takes_L8, bnd_eq (byte_end h.1 T p (by omega) (by omega)), chk_pos (by decide), if_neg (by decide)]
    rfl
  | m + 1, p, f, hp, hf => by
    have := h.1
    have hb := h.2 p (by omega)
    obtain ⟨g, rfl⟩ : ∃ g, f = g + 1 := ⟨f - 1, by omega⟩
    rw [f_M_takes_L8, bnd_eq (byte_eq h p (by omega)), chk_pos (by omega)]
    unfold rn qS
    by_cases c : B p = 32
    · rw [if_pos c, if_pos (decide_eq_true c)]
      exact space_m h m (p + 1) g (by omega) (by omega)
    · rw [if_neg c, if_neg (by rw [decide_eq_true_eq]; exact c)]
theorem name_c {k : Nat} {B T : Nat → Int} (h : RT k B T) : ∀ (m p f : Nat), p + m = k → m < f → f_TextReader_passName_L0 f p k B = some ((rn (qL B) m p : Nat) : Int)
  | 0, p, f, hp, hf => by
    have := h.1
    obtain ⟨g, rfl⟩ : ∃ g, f = g + 1 := ⟨f - 1, by omega⟩
    rw [f_TextReader_passName_L0, bnd_eq (tsize_eq _), chk_pos (by omega), chk_pos (by omega), if_pos (by omega)]
    rfl
  | m + 1, p, f, hp, hf => by
    have := h.1
    have hb := h.2 p (by omega)
    obtain ⟨g, rfl⟩ : ∃ g, f = g + 1 := ⟨f - 1, by omega⟩
    rw [f_TextReader_passName_L0, bnd_eq (tsize_eq _), chk_pos (by omega), chk_pos (by omega), if_neg (by omega), bnd_eq (at_eq h p (by omega)), gb (letter_eq (B p) (by omega))]
    unfold rn qL
    by_cases c : 97 ≤ B p ∧ B p ≤ 122
    · rw [if_pos c, if_pos (decide_eq_true c)]
      exact name_c h m (p + 1) g (by omega) (by omega)
    · rw [if_neg c, if_neg (by rw [decide_eq_true_eq]; exact c)]
theorem name_m {k : Nat} {B T : Nat → Int} (h : RT k B T) : ∀ (m p f : Nat), p + m = k → m < f → f_M_takes_L82 f k p T = some ((rn (qL B) m p : Nat) : Int)
  | 0, p, f, hp, hf => by
    have := h.1
    obtain ⟨g, rfl⟩ : ∃ g, f = g + 1 := ⟨f - 1, by omega⟩
    rw [f_M_takes_L82, bnd_eq (byte_end h.1 T p (by omega) (by omega)), chk_pos (by decide), gb (in_eq (-1) 97 122 (by decide) (by decide) (by decide)), if_neg (by decide)]
    rfl
  | m + 1, p, f, hp, hf => by
    have := h.1
    have hb := h.2 p (by omega)
    obtain ⟨g, rfl⟩ : ∃ g, f = g + 1 := ⟨f - 1, by omega⟩
    rw [f_M_takes_L82, bnd_eq (byte_eq h p (by omega)), chk_pos (by omega), gb (in_eq (B p) 97 122 (inL_of (by omega)) (by decide) (by decide))]
    unfold rn qL
    by_cases c : 97 ≤ B p ∧ B p ≤ 122
    · rw [if_pos c, if_pos (decide_eq_true c)]
      exact name_m h m (p + 1) g (by omega) (by omega)
    · rw [if_neg c, if_neg (by rw [decide_eq_true_eq]; exact c)]
