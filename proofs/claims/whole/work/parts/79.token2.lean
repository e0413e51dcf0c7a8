def nvl (B : Nat → Int) (s : Nat) : Nat → Int
  | 0 => 0
  | c + 1 => nvl B s c * 10 + B (s + c) - 48
theorem num_c {k : Nat} {B T : Nat → Int} (h : RT k B T) (s : Nat) : ∀ (m j f : Nat), s + j + m = k → j ≤ 2 → m < f → f_TextReader_passNumber_L5 f ((s + j : Nat) : Int) s (nvl B s j) k B = if rn (qF B) m (s + j) - s ≤ 2 then some (1, ((rn (qF B) m (s + j) : Nat) : Int), nvl B s (rn (qF B) m (s + j) - s)) else some (0, ((s + 2 : Nat) : Int), nvl B s 2)
  | 0, j, f, hp, hj, hf => by
    have := h.1
    obtain ⟨g, rfl⟩ : ∃ g, f = g + 1 := ⟨f - 1, by omega⟩
    rw [f_TextReader_passNumber_L5, bnd_eq (tsize_eq _), chk_pos (by omega), chk_pos (by omega), if_pos (by omega)]
    show _ = if s + j - s ≤ 2 then some (1, ((s + j : Nat) : Int), nvl B s (s + j - s)) else _
    rw [if_pos (by omega), show s + j - s = j by omega]
  | m + 1, j, f, hp, hj, hf => by
    have := h.1
    have hb := h.2 (s + j) (by omega)
    obtain ⟨g, rfl⟩ : ∃ g, f = g + 1 := ⟨f - 1, by omega⟩
    have ea := at_eq h (s + j) (by omega)
    rw [f_TextReader_passNumber_L5, bnd_eq (tsize_eq _), chk_pos (by omega), chk_pos (by omega), if_neg (by omega), bnd_eq ea, gb (figure_eq (B (s + j)) (by omega)), chk_pos (by omega)]
    have hrn : rn (qF B) (m + 1) (s + j) = if qF B (s + j) = true then rn (qF B) m (s + j + 1) else s + j := rfl
    rw [hrn]
    by_cases c : 48 ≤ B (s + j) ∧ B (s + j) ≤ 57
    · have cq : qF B (s + j) = true := decide_eq_true c
      rw [if_pos c, if_pos cq]
      by_cases d : j < 2
      · rw [if_pos (by omega), bnd_eq ea]
        have := num_c h s m (j + 1) g (by omega) (by omega) (by omega)
        exact this
      · have hb2 := rn_bd (qF B) m (s + j + 1)
        rw [if_neg (by omega), if_neg (by omega), show j = 2 by omega]
    · have cq : ¬ qF B (s + j) = true := by unfold qF; rw [decide_eq_true_eq]; exact c
      rw [if_neg c, if_neg cq, if_pos (by omega), show s + j - s = j by omega]
theorem num_m {k : Nat} {B T : Nat → Int} (h : RT k B T) (s : Nat) : ∀ (m j f : Nat), s + j + m = k → m < f → f_M_takes_L140 f k ((s + j : Nat) : Int) s (nvl B s (min j 2)) T = some (((rn (qF B) m (s + j) : Nat) : Int), nvl B s (min (rn (qF B) m (s + j) - s) 2))
  | 0, j, f, hp, hf => by
    have := h.1
    obtain ⟨g, rfl⟩ : ∃ g, f = g + 1 := ⟨f - 1, by omega⟩
    rw [f_M_takes_L140, bnd_eq (byte_end h.1 T (s + j) (by omega) (by omega)), chk_pos (by decide), gb (in_eq (-1) 48 57 (by decide) (by decide) (by decide)), if_neg (by decide)]
    show _ = some (((s + j : Nat) : Int), nvl B s (min (s + j - s) 2))
    rw [show s + j - s = j by omega]
  | m + 1, j, f, hp, hf => by
    have := h.1
    have hb := h.2 (s + j) (by omega)
    obtain ⟨g, rfl⟩ : ∃ g, f = g + 1 := ⟨f - 1, by omega⟩
    have ea := byte_eq h (s + j) (by omega)
    rw [f_M_takes_L140, bnd_eq ea, chk_pos (by omega), gb (in_eq (B (s + j)) 48 57 (inL_of (by omega)) (by decide) (by decide)), chk_pos (by omega)]
    have hrn : rn (qF B) (m + 1) (s + j) = if qF B (s + j) = true then rn (qF B) m (s + j + 1) else s + j := rfl
    rw [hrn]
    by_cases c : 48 ≤ B (s + j) ∧ B (s + j) ≤ 57
    · have cq : qF B (s + j) = true := decide_eq_true c
      have ih := num_m h s m (j + 1) g (by omega) (by omega)
      rw [if_pos c, if_pos cq]
      have eo : (if 2 ≤ ((s + j : Nat) : Int) - (s : Int) then some (nvl B s (min j 2)) else Option.bind (f_M_byteAt k T ((s + j : Nat) : Int)) (fun o45 => some (10 * nvl B s (min j 2) + o45 - 48))) = some (nvl B s (min (j + 1) 2)) := by
        by_cases d : 2 ≤ j
        · rw [if_pos (by omega), show min j 2 = 2 by omega, show min (j + 1) 2 = 2 by omega]
        · rw [if_neg (by omega), bnd_eq ea, show min j 2 = j by omega, show min (j + 1) 2 = j + 1 by omega]
          show some (10 * nvl B s j + B (s + j) - 48) = some (nvl B s j * 10 + B (s + j) - 48)
          rw [Int.mul_comm]
      rw [bnd_eq eo]
      exact ih
    · have cq : ¬ qF B (s + j) = true := by unfold qF; rw [decide_eq_true_eq]; exact c
      rw [if_neg c, if_neg cq, show s + j - s = j by omega]
