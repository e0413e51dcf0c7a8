theorem nameIs_eq {k : Nat} {B T : Nat → Int} (h : RT k B T) {s e : Nat} (hs : s ≤ e) (he : e ≤ k) (k1 : Nat) (hk1 : k1 < 6) (n : Nat) (hn : strLenZ k1 = (n : Int)) : f_TextReader_nameIs e s k B k1 = some (if (e : Int) - s = n ∧ agr (fun i => decide (B (s + i) = strChZ k1 i)) n = true then 1 else 0) := by
  have hk := h.1
  unfold f_TextReader_nameIs
  rw [chk_pos hk1, chk_pos (by omega), hn]
  by_cases c : (e : Int) - s = n
  · rw [if_pos c]
    have h1 := lfnd (fun fuel i => f_TextReader_nameIs_L20 fuel e s k B k1 i) n (fun i => !(decide (B (s + i) = strChZ k1 i))) (fun _ => (0 : Int)) 1
      (fun fuel i hi => by
        have hb := h.2 (s + i) (by omega)
        have ea := at_eq h (s + i) (by omega)
        have ea : f_Tape_at k B ((s : Int) + i) = some (B (s + i)) := ea
        show f_TextReader_nameIs_L20 (fuel + 1) e s k B k1 i = _
        rw [f_TextReader_nameIs_L20, chk_pos hk1, chk_pos (by omega), hn, if_neg (by omega), bnd_eq ea, chk_pos (by omega), chk_pos (by omega), Int.toNat_natCast]
        by_cases q : B (s + i) = strChZ k1 i
        · rw [if_pos q, if_neg (by simp [q])]
        · rw [if_neg q, if_pos (by simp [q])])
      (fun fuel => by
        show f_TextReader_nameIs_L20 (fuel + 1) e s k B k1 n = _
        rw [f_TextReader_nameIs_L20, chk_pos hk1, chk_pos (by omega), hn, if_pos (by omega)]) n 0 5000 (by omega) (by omega)
    refine Eq.trans h1 ?_
    rw [fnd_agr (fun i => decide (B (s + i) = strChZ k1 i)) n n 0 (by omega) rfl]
    by_cases q : agr (fun i => decide (B (s + i) = strChZ k1 i)) n = true
    · rw [if_pos q, if_pos ⟨c, q⟩]
    · rw [if_neg q, if_neg (fun r => q r.2)]
  · rw [if_neg c, if_neg (fun r => c r.1)]
theorem is_eq {k : Nat} {B T : Nat → Int} (h : RT k B T) {s e : Nat} (hs : s ≤ e) (he : e ≤ k) (n : Nat) (h4 : 4 ≤ n) (hn : n ≤ 6) (a b c d : Int) (ha : inR a) (hb : inR b) (hc : inR c) (hd : inR d) : f_M_is k e s T n a b c d = some (if (e : Int) - s = n ∧ B s = a ∧ B (s + 1) = b ∧ B (s + 2) = c ∧ B (s + 3) = d then 1 else 0) := by
  have hk := h.1
  unfold f_M_is
  rw [chk_pos (by omega), chk_pos (by omega)]
  by_cases q : (e : Int) - s = n
  · have b0 := h.2 s (by omega)
    have b1 := h.2 (s + 1) (by omega)
    have b2 := h.2 (s + 2) (by omega)
    have b3 := h.2 (s + 3) (by omega)
    have e1 : f_M_byteAt k T ((s : Int) + 1) = some (B (s + 1)) := byte_eq h (s + 1) (by omega)
    have e2 : f_M_byteAt k T ((s : Int) + 2) = some (B (s + 2)) := byte_eq h (s + 2) (by omega)
    have e3 : f_M_byteAt k T ((s : Int) + 3) = some (B (s + 3)) := byte_eq h (s + 3) (by omega)
    rw [if_pos q, bnd_eq (byte_eq h s (by omega)), chk_pos (by omega), chk_pos ha]
    by_cases q0 : B s = a
    · rw [if_pos q0, bnd_eq e1, chk_pos (by omega), chk_pos hb]
      by_cases q1 : B (s + 1) = b
      · rw [if_pos q1, bnd_eq e2, chk_pos (by omega), chk_pos hc]
        by_cases q2 : B (s + 2) = c
        · rw [if_pos q2, bnd_eq e3, chk_pos (by omega), chk_pos hd]
          by_cases q3 : B (s + 3) = d
          · rw [if_pos q3, if_pos ⟨q, q0, q1, q2, q3⟩]
          · rw [if_neg q3, if_neg (fun r => q3 r.2.2.2.2)]
        · rw [if_neg q2, if_neg (fun r => q2 r.2.2.2.1)]
      · rw [if_neg q1, if_neg (fun r => q1 r.2.2.1)]
    · rw [if_neg q0, if_neg (fun r => q0 r.2.1)]
  · rw [if_neg q, if_neg (fun r => q r.1)]
theorem ends1_eq {k : Nat} {B T : Nat → Int} (h : RT k B T) {s : Nat} (hs : s + 4 < k) (a : Int) (ha : inR a) : f_M_ends k s T a 0 = some (if B (s + 4) = a then 1 else 0) := by
  have hk := h.1
  have b4 := h.2 (s + 4) hs
  have e4 : f_M_byteAt k T ((s : Int) + 4) = some (B (s + 4)) := byte_eq h (s + 4) hs
  unfold f_M_ends
  rw [bnd_eq e4, chk_pos (by omega), chk_pos ha, chk_pos (by decide), if_pos rfl]
  split <;> rfl
theorem ends2_eq {k : Nat} {B T : Nat → Int} (h : RT k B T) {s : Nat} (hs : s + 5 < k) (a b : Int) (ha : inR a) (hb : inR b) (hb0 : ¬ b = 0) : f_M_ends k s T a b = some (if B (s + 4) = a ∧ B (s + 5) = b then 1 else 0) := by
  have hk := h.1
  have b4 := h.2 (s + 4) (by omega)
  have b5 := h.2 (s + 5) hs
  have e4 : f_M_byteAt k T ((s : Int) + 4) = some (B (s + 4)) := byte_eq h (s + 4) (by omega)
  have e5 : f_M_byteAt k T ((s : Int) + 5) = some (B (s + 5)) := byte_eq h (s + 5) hs
  unfold f_M_ends
  rw [bnd_eq e4, chk_pos (by omega), chk_pos ha, chk_pos hb, if_neg hb0, bnd_eq e5, chk_pos (by omega)]
  by_cases q : B (s + 4) = a
  · rw [if_pos q]
    by_cases r : B (s + 5) = b
    · rw [if_pos r, if_pos ⟨q, r⟩]
    · rw [if_neg r, if_neg (fun z => r z.2)]
  · rw [if_neg q, if_neg (fun z => q z.1)]
