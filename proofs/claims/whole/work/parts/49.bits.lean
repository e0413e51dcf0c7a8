/-! ===== words as natural numbers ===== -/
theorem zI_bv (n : Nat) : (zI (n : Int)).toBitVec = BitVec.ofNat 32 n := by
  rw [zI_nat]; rfl
theorem i32_nat (x : Int32) (n : Nat) (h : x.toBitVec.toNat = n) (hn : n < 2147483648) : x.toInt = (n : Int) := by
  show x.toBitVec.toInt = _
  rw [BitVec.toInt_eq_toNat_of_lt (by omega), h]
theorem zor_nat (a b : Nat) (ha : a < 2147483648) (hb : b < 2147483648) : zor a b = ((a ||| b : Nat) : Int) := by
  refine i32_nat _ _ ?_ (Nat.or_lt_two_pow (n := 31) ha hb)
  rw [Int32.toBitVec_or, zI_bv, zI_bv, BitVec.toNat_or, BitVec.toNat_ofNat, BitVec.toNat_ofNat, Nat.mod_eq_of_lt (by omega), Nat.mod_eq_of_lt (by omega)]
theorem zand_nat (a b : Nat) (ha : a < 2147483648) (hb : b < 2147483648) : zand a b = ((a &&& b : Nat) : Int) := by
  refine i32_nat _ _ ?_ (Nat.and_lt_two_pow (n := 31) a hb)
  rw [Int32.toBitVec_and, zI_bv, zI_bv, BitVec.toNat_and, BitVec.toNat_ofNat, BitVec.toNat_ofNat, Nat.mod_eq_of_lt (by omega), Nat.mod_eq_of_lt (by omega)]
theorem zshl_nat : ∀ h : Nat, h < 31 → zshl 1 h = ((2 ^ h : Nat) : Int) := by
  have h : ∀ h : Fin 31, zshl 1 (h.val : Nat) = ((2 ^ h.val : Nat) : Int) := by decide
  exact fun k hk => h ⟨k, hk⟩
theorem zshr_nat (a h : Nat) (ha : a < 2147483648) (hh : h < 32) : zshr a h = ((a / 2 ^ h : Nat) : Int) := by
  refine i32_nat _ _ ?_ (by have := Nat.div_le_self a (2 ^ h); omega)
  have e : ∀ h : Fin 32, zI (h.val : Nat) &&& 31 = zI (h.val : Nat) := by decide
  rw [e ⟨h, hh⟩]
  have e2 : ∀ h : Fin 32, ((zI (h.val : Nat)).toBitVec.smod 32).toNat = h.val := by decide
  rw [Int32.toBitVec_shiftRight, zI_bv]
  have e3 := e2 ⟨h, hh⟩
  rw [BitVec.sshiftRight_eq', e3]
  rw [BitVec.toNat_sshiftRight_of_msb_false]
  rw [BitVec.toNat_ofNat, Nat.mod_eq_of_lt (by omega), Nat.shiftRight_eq_div_pow]
  rw [BitVec.msb_eq_false_iff_two_mul_lt, BitVec.toNat_ofNat, Nat.mod_eq_of_lt (by omega)]
  omega
theorem bit_nat (a h : Nat) (ha : a < 2147483648) (hh : h < 32) : zand (zshr a h) 1 = ((a / 2 ^ h % 2 : Nat) : Int) := by
  rw [zshr_nat a h ha hh]
  have h1 : zand ((a / 2 ^ h : Nat) : Int) ((1 : Nat) : Int) = _ := zand_nat (a / 2 ^ h) 1 (by have := Nat.div_le_self a (2 ^ h); omega) (by omega)
  rw [Nat.and_one_is_mod] at h1
  exact h1
