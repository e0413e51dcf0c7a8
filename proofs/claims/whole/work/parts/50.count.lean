/-! ===== how many bits ===== -/
def nMask (p : Nat → Bool) : Nat → Nat
  | 0 => 0
  | h + 1 => nMask p h + (if p h = true then 2 ^ h else 0)
theorem nMask_lt (p : Nat → Bool) : ∀ h, nMask p h < 2 ^ h
  | 0 => by show 0 < 1; omega
  | h + 1 => by
    have ih := nMask_lt p h
    show nMask p h + (if p h = true then 2 ^ h else 0) < 2 ^ (h + 1)
    rw [Nat.pow_succ]
    split <;> omega
theorem sMask_nat (p : Nat → Bool) : ∀ h, h ≤ 31 → sMask p h = (nMask p h : Int)
  | 0, _ => rfl
  | h + 1, hh => by
    have ih := sMask_nat p h (by omega)
    have hl := nMask_lt p h
    have hp : 2 ^ h ≤ 2 ^ 30 := Nat.pow_le_pow_right (by omega) (by omega)
    have hp2 : (2 : Nat) ^ 30 = 1073741824 := by decide +kernel
    unfold sMask nMask
    split
    · rw [ih, zshl_nat h (by omega), zor_nat _ _ (by omega) (by omega)]
      have e := Nat.two_pow_add_eq_or_of_lt (i := h) hl 1
      rw [Nat.mul_one] at e
      rw [Nat.or_comm, ← e, Nat.add_comm]
    · rw [ih]; rfl
theorem nMask_split (p : Nat → Bool) (m : Nat) : ∀ k, nMask p (m + k) = nMask p m + 2 ^ m * nMask (fun i => p (m + i)) k
  | 0 => rfl
  | k + 1 => by
    show nMask p (m + k) + (if p (m + k) = true then 2 ^ (m + k) else 0) = nMask p m + 2 ^ m * (nMask (fun i => p (m + i)) k + (if p (m + k) = true then 2 ^ k else 0))
    rw [nMask_split p m k, Nat.mul_add, Nat.add_assoc]
    split
    · rw [Nat.pow_add]
    · rfl
theorem nMask_bit (p : Nat → Bool) (h : Nat) : ∀ k, h < k → nMask p k / 2 ^ h % 2 = (if p h = true then 1 else 0) := by
  intro k hk
  obtain ⟨j, rfl⟩ : ∃ j, k = (h + 1) + j := ⟨k - (h + 1), by omega⟩
  rw [nMask_split]
  have hl := nMask_lt p h
  have hpos : 0 < 2 ^ h := Nat.two_pow_pos h
  show (nMask p h + (if p h = true then 2 ^ h else 0) + 2 ^ (h + 1) * _) / 2 ^ h % 2 = _
  rw [Nat.pow_succ, Nat.mul_assoc, Nat.add_mul_div_left _ _ hpos]
  have e : (nMask p h + (if p h = true then 2 ^ h else 0)) / 2 ^ h = (if p h = true then 1 else 0) := by
    split
    · rw [Nat.add_div_right _ hpos, Nat.div_eq_of_lt hl]
    · rw [Nat.add_zero, Nat.div_eq_of_lt hl]
  rw [e]
  split <;> omega
theorem nand_le (a b : Nat) : a &&& b ≤ a := Nat.and_le_left
abbrev tN (x : Int32) : Nat := x.toBitVec.toNat
theorem tN_sh (x : Int32) (n k : Nat) (c : Int32) (hc : ((c.toUInt32 &&& Int32.toUInt32 31).toNat % 32) = k) (hx : tN x = n) : tN (bsh x c) = n / 2 ^ k := by
  have h1 : tN (bsh x c) = (x.toUInt32 >>> (c.toUInt32 &&& Int32.toUInt32 31)).toNat := rfl
  rw [h1, UInt32.toNat_shiftRight, hc, Nat.shiftRight_eq_div_pow]
  have h2 : x.toUInt32.toNat = n := hx
  rw [h2]
theorem tN_and (x y : Int32) (n m : Nat) (hx : tN x = n) (hy : tN y = m) : tN (x &&& y) = n &&& m := by
  unfold tN at hx hy ⊢
  rw [Int32.toBitVec_and, BitVec.toNat_and, hx, hy]
theorem tN_add (x y : Int32) (n m : Nat) (hx : tN x = n) (hy : tN y = m) (h : n + m < 4294967296) : tN (x + y) = n + m := by
  unfold tN at hx hy ⊢
  rw [Int32.toBitVec_add, BitVec.toNat_add, hx, hy, Nat.mod_eq_of_lt (by omega)]
theorem tN_sub (x y : Int32) (n m : Nat) (hx : tN x = n) (hy : tN y = m) (h : m ≤ n) : tN (x - y) = n - m := by
  unfold tN at hx hy ⊢
  rw [Int32.toBitVec_sub, BitVec.toNat_sub_of_le (BitVec.le_def.mpr (by omega)), hx, hy]
theorem and_by (y m : Nat) : y &&& m = (y % 256 &&& m % 256) + 256 * (y / 256 &&& m / 256) := by
  have h1 := Nat.and_mod_two_pow (a := y) (b := m) (n := 8)
  have h2 := Nat.and_div_two_pow (a := y) (b := m) (n := 8)
  rw [show (2 : Nat) ^ 8 = 256 from rfl] at h1 h2
  omega
def g1 (a : Nat) : Nat := a - (a / 2 &&& 85)
def g2 (a : Nat) : Nat := (a &&& 51) + (a / 4 &&& 51)
def g3 (a : Nat) : Nat := (a + a / 16) &&& 15
theorem s1_by (a b c : Nat) (ha : a < 256) (hb : b < 256) (hc : c < 256) : (a + 256 * b + 65536 * c) / 2 &&& 1431655765 = (a / 2 &&& 85) + 256 * (b / 2 &&& 85) + 65536 * (c / 2 &&& 85) := by
  have d : ∀ a : Fin 256, ((a.val / 2 + 128) &&& 85) = (a.val / 2 &&& 85) ∧ (a.val / 2 &&& 21845) = (a.val / 2 &&& 85) := by decide +kernel
  rw [and_by, and_by (_ / 256)]
  have e1 : (a + 256 * b + 65536 * c) / 2 % 256 = a / 2 + 128 * (b % 2) := by omega
  have e2 : (a + 256 * b + 65536 * c) / 2 / 256 % 256 = b / 2 + 128 * (c % 2) := by omega
  have e3 : (a + 256 * b + 65536 * c) / 2 / 256 / 256 = c / 2 := by omega
  rw [e1, e2, e3]
  have f : ∀ (a : Nat) (t : Nat), a < 256 → t < 2 → ((a / 2 + 128 * t) &&& 85) = (a / 2 &&& 85) := fun a t ha ht => by
    rcases (show t = 0 ∨ t = 1 by omega) with rfl | rfl
    · rfl
    · exact (d ⟨a, ha⟩).1
  rw [show 1431655765 % 256 = 85 from rfl, show 1431655765 / 256 / 256 = 21845 from rfl, f a _ ha (by omega), f b _ hb (by omega), show (c / 2 &&& 21845) = (c / 2 &&& 85) from (d ⟨c, hc⟩).2]
  omega
theorem s2_by (a b c : Nat) (ha : a < 256) (hb : b < 256) (hc : c < 256) : (a + 256 * b + 65536 * c) / 4 &&& 858993459 = (a / 4 &&& 51) + 256 * (b / 4 &&& 51) + 65536 * (c / 4 &&& 51) := by
  have d : ∀ a : Fin 256, (((a.val / 4 + 64) &&& 51) = (a.val / 4 &&& 51) ∧ ((a.val / 4 + 128) &&& 51) = (a.val / 4 &&& 51) ∧ ((a.val / 4 + 192) &&& 51) = (a.val / 4 &&& 51)) ∧ (a.val / 4 &&& 13107) = (a.val / 4 &&& 51) := by decide +kernel
  rw [and_by, and_by (_ / 256)]
  have e1 : (a + 256 * b + 65536 * c) / 4 % 256 = a / 4 + 64 * (b % 4) := by omega
  have e2 : (a + 256 * b + 65536 * c) / 4 / 256 % 256 = b / 4 + 64 * (c % 4) := by omega
  have e3 : (a + 256 * b + 65536 * c) / 4 / 256 / 256 = c / 4 := by omega
  rw [e1, e2, e3]
  have f : ∀ (a : Nat) (t : Nat), a < 256 → t < 4 → ((a / 4 + 64 * t) &&& 51) = (a / 4 &&& 51) := fun a t ha ht => by
    rcases (show t = 0 ∨ t = 1 ∨ t = 2 ∨ t = 3 by omega) with rfl | rfl | rfl | rfl
    · rfl
    · exact (d ⟨a, ha⟩).1.1
    · exact (d ⟨a, ha⟩).1.2.1
    · exact (d ⟨a, ha⟩).1.2.2
  rw [show 858993459 % 256 = 51 from rfl, show 858993459 / 256 / 256 = 13107 from rfl, f a _ ha (by omega), f b _ hb (by omega), show (c / 4 &&& 13107) = (c / 4 &&& 51) from (d ⟨c, hc⟩).2]
  omega
theorem s2b_by (a b c : Nat) (ha : a < 256) (hb : b < 256) (hc : c < 256) : (a + 256 * b + 65536 * c) &&& 858993459 = (a &&& 51) + 256 * (b &&& 51) + 65536 * (c &&& 51) := by
  have d : ∀ a : Fin 256, (a.val &&& 13107) = (a.val &&& 51) := by decide +kernel
  rw [and_by, and_by (_ / 256)]
  have e1 : (a + 256 * b + 65536 * c) % 256 = a := by omega
  have e2 : (a + 256 * b + 65536 * c) / 256 % 256 = b := by omega
  have e3 : (a + 256 * b + 65536 * c) / 256 / 256 = c := by omega
  rw [e1, e2, e3]
  rw [show 858993459 % 256 = 51 from rfl, show 858993459 / 256 / 256 = 13107 from rfl, show (c &&& 13107) = (c &&& 51) from d ⟨c, hc⟩]
  omega
theorem s3_by (a b c : Nat) (ha : a < 256) (hb : b < 256) (hc : c < 256) : (a + 256 * b + 65536 * c) &&& 252645135 = (a &&& 15) + 256 * (b &&& 15) + 65536 * (c &&& 15) := by
  have d : ∀ a : Fin 256, (a.val &&& 3855) = (a.val &&& 15) := by decide +kernel
  rw [and_by, and_by (_ / 256)]
  have e1 : (a + 256 * b + 65536 * c) % 256 = a := by omega
  have e2 : (a + 256 * b + 65536 * c) / 256 % 256 = b := by omega
  have e3 : (a + 256 * b + 65536 * c) / 256 / 256 = c := by omega
  rw [e1, e2, e3]
  rw [show 252645135 % 256 = 15 from rfl, show 252645135 / 256 / 256 = 3855 from rfl, show (c &&& 3855) = (c &&& 15) from d ⟨c, hc⟩]
  omega
theorem g_bd : ∀ a : Fin 256, ((a.val / 2 &&& 85) ≤ a.val) ∧ g1 a.val < 256 ∧ g2 (g1 a.val) % 16 ≤ 4 ∧ g2 (g1 a.val) / 16 ≤ 4 ∧ g3 (g2 (g1 a.val)) ≤ 8 ∧ (∀ t : Fin 5, ((g2 (g1 a.val) + g2 (g1 a.val) / 16 + 16 * t.val) &&& 15) = g3 (g2 (g1 a.val))) := by decide +kernel
theorem bitc_by (a b c : Nat) (ha : a < 256) (hb : b < 256) (hc : c < 256) (x : Int32) (hx : tN x = a + 256 * b + 65536 * c) : tN (bitc x) = g3 (g2 (g1 a)) + g3 (g2 (g1 b)) + g3 (g2 (g1 c)) := by
  obtain ⟨a1, a2, a3, a4, a5, a6⟩ := g_bd ⟨a, ha⟩
  obtain ⟨b1, b2, b3, b4, b5, b6⟩ := g_bd ⟨b, hb⟩
  obtain ⟨c1, c2, c3, c4, c5, c6⟩ := g_bd ⟨c, hc⟩
  dsimp only at a1 a2 a3 a4 a5 a6 b1 b2 b3 b4 b5 b6 c1 c2 c3 c4 c5 c6
  have h1 : tN (bitc1 x) = g1 a + 256 * g1 b + 65536 * g1 c := by
    have h := tN_sub x (bsh x 1 &&& 1431655765) _ _ hx (tN_and (bsh x 1) 1431655765 _ _ (tN_sh x _ 1 1 rfl hx) rfl) (by
      rw [show tN (1431655765 : Int32) = 1431655765 from rfl, show (2 : Nat) ^ 1 = 2 from rfl, s1_by a b c ha hb hc]
      omega)
    rw [show tN (1431655765 : Int32) = 1431655765 from rfl, show (2 : Nat) ^ 1 = 2 from rfl, s1_by a b c ha hb hc] at h
    unfold bitc1 g1
    rw [h]
    omega
  have h2 : tN (bitc2 (bitc1 x)) = g2 (g1 a) + 256 * g2 (g1 b) + 65536 * g2 (g1 c) := by
    have h := tN_add (bitc1 x &&& 858993459) (bsh (bitc1 x) 2 &&& 858993459) _ _ (tN_and (bitc1 x) 858993459 _ _ h1 rfl) (tN_and (bsh (bitc1 x) 2) 858993459 _ _ (tN_sh (bitc1 x) _ 2 2 rfl h1) rfl) (by
      rw [show tN (858993459 : Int32) = 858993459 from rfl, show (2 : Nat) ^ 2 = 4 from rfl]
      have := nand_le (g1 a + 256 * g1 b + 65536 * g1 c) 858993459
      have := nand_le ((g1 a + 256 * g1 b + 65536 * g1 c) / 4) 858993459
      omega)
    rw [show tN (858993459 : Int32) = 858993459 from rfl, show (2 : Nat) ^ 2 = 4 from rfl, s2_by _ _ _ a2 b2 c2, s2b_by _ _ _ a2 b2 c2] at h
    unfold bitc2
    rw [h]
    unfold g2
    omega
  have h3 : tN (bitc3 (bitc2 (bitc1 x))) = g3 (g2 (g1 a)) + 256 * g3 (g2 (g1 b)) + 65536 * g3 (g2 (g1 c)) := by
    have h := tN_and (bitc2 (bitc1 x) + bsh (bitc2 (bitc1 x)) 4) 252645135 _ _ (tN_add _ _ _ _ h2 (tN_sh _ _ 4 4 rfl h2) (by rw [show (2 : Nat) ^ 4 = 16 from rfl]; omega)) rfl
    rw [show tN (252645135 : Int32) = 252645135 from rfl, show (2 : Nat) ^ 4 = 16 from rfl] at h
    unfold bitc3
    rw [h]
    have e : g2 (g1 a) + 256 * g2 (g1 b) + 65536 * g2 (g1 c) + (g2 (g1 a) + 256 * g2 (g1 b) + 65536 * g2 (g1 c)) / 16 = (g2 (g1 a) + g2 (g1 a) / 16 + 16 * (g2 (g1 b) % 16)) + 256 * (g2 (g1 b) + g2 (g1 b) / 16 + 16 * (g2 (g1 c) % 16)) + 65536 * (g2 (g1 c) + g2 (g1 c) / 16 + 16 * 0) := by omega
    rw [e, s3_by _ _ _ (by omega) (by omega) (by omega), a6 ⟨g2 (g1 b) % 16, by omega⟩, b6 ⟨g2 (g1 c) % 16, by omega⟩]
    have := c6 ⟨0, by omega⟩
    dsimp only at this
    rw [this]
  generalize g3 (g2 (g1 a)) = A at h3 a5 ⊢
  generalize g3 (g2 (g1 b)) = B at h3 b5 ⊢
  generalize g3 (g2 (g1 c)) = C at h3 c5 ⊢
  have h4 : tN (bitc4 (bitc3 (bitc2 (bitc1 x)))) = (A + B) + 256 * (B + C) + 65536 * C := by
    have h := tN_add _ _ _ _ h3 (tN_sh _ _ 8 8 rfl h3) (by rw [show (2 : Nat) ^ 8 = 256 from rfl]; omega)
    unfold bitc4
    rw [h, show (2 : Nat) ^ 8 = 256 from rfl]
    omega
  have h5 : tN (bitc5 (bitc4 (bitc3 (bitc2 (bitc1 x))))) = (A + B + C) + 256 * (B + C) + 65536 * C := by
    have h := tN_add _ _ _ _ h4 (tN_sh _ _ 16 16 rfl h4) (by rw [show (2 : Nat) ^ 16 = 65536 from rfl]; omega)
    unfold bitc5
    rw [h, show (2 : Nat) ^ 16 = 65536 from rfl]
    omega
  have h6 := tN_and _ 63 _ _ h5 rfl
  unfold bitc
  rw [h6, show tN (63 : Int32) = 2 ^ 6 - 1 from rfl, Nat.and_two_pow_sub_one_eq_mod, show (2 : Nat) ^ 6 = 64 from rfl]
  omega
theorem pc8 (p : Nat → Bool) : g3 (g2 (g1 (nMask p 8))) = fb_ct p 8 := by
  have h : ∀ b0 b1 b2 b3 b4 b5 b6 b7 : Bool, g3 (g2 (g1 (0 + (if b0 = true then 2 ^ 0 else 0) + (if b1 = true then 2 ^ 1 else 0) + (if b2 = true then 2 ^ 2 else 0) + (if b3 = true then 2 ^ 3 else 0) + (if b4 = true then 2 ^ 4 else 0) + (if b5 = true then 2 ^ 5 else 0) + (if b6 = true then 2 ^ 6 else 0) + (if b7 = true then 2 ^ 7 else 0)))) = 0 + (if b0 then 1 else 0) + (if b1 then 1 else 0) + (if b2 then 1 else 0) + (if b3 then 1 else 0) + (if b4 then 1 else 0) + (if b5 then 1 else 0) + (if b6 then 1 else 0) + (if b7 then 1 else 0) := by decide +kernel
  exact h (p 0) (p 1) (p 2) (p 3) (p 4) (p 5) (p 6) (p 7)
theorem bitCount_eq (p : Nat → Bool) : f_bitCount (sMask p 24) = some (fb_ct p 24 : Int) := by
  have h1 := nMask_split p 16 8
  have h2 := nMask_split p 8 8
  rw [show (2 : Nat) ^ 16 = 65536 from rfl, show 16 + 8 = 24 from rfl] at h1
  rw [show (2 : Nat) ^ 8 = 256 from rfl, show 8 + 8 = 16 from rfl] at h2
  have l0 : nMask p 8 < 256 := nMask_lt p 8
  have l1 : nMask (fun i => p (8 + i)) 8 < 256 := nMask_lt _ 8
  have l2 : nMask (fun i => p (16 + i)) 8 < 256 := nMask_lt _ 8
  have c1 : fb_ct p 24 = fb_ct p 16 + fb_ct (fun k => p (16 + k)) 8 := fb_ct_split p 16 8
  have c2 : fb_ct p 16 = fb_ct p 8 + fb_ct (fun k => p (8 + k)) 8 := fb_ct_split p 8 8
  have hb := bitc_by _ _ _ l0 l1 l2 (zI (nMask p 24 : Int)) (by
    show (zI (nMask p 24 : Int)).toBitVec.toNat = _
    rw [zI_bv, BitVec.toNat_ofNat, Nat.mod_eq_of_lt (by omega)]
    omega)
  rw [pc8, pc8, pc8] at hb
  have hl := fb_ct_le p 24
  unfold f_bitCount bitcZ
  rw [sMask_nat p 24 (by omega), i32_nat _ (fb_ct p 8 + fb_ct (fun k => p (8 + k)) 8 + fb_ct (fun k => p (16 + k)) 8) hb (by omega)]
  refine congrArg some ?_
  omega
