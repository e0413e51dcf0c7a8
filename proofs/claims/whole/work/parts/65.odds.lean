/-! ===== chances: sums over all ways ===== -/
def bt (m b : Nat) : Nat := m / 2 ^ b % 2
def wgt (x : Int) (m : Nat) : Nat → Int
  | 0 => 1
  | b + 1 => wgt x m b * (if bt m b = 1 then x else 10 - x)
def cq (Q : Nat → Bool) (m : Nat) : Nat → Nat
  | 0 => 0
  | b + 1 => cq Q m b + (if Q b = true then bt m b else 0)
def VV (x : Int) (Q : Nat → Bool) (n : Nat) (g : Nat → Int) : Int := fb_si (fun m => wgt x m n * g (cq Q m n)) (2 ^ n)
def TT (x : Int) : Nat → (Nat → Int) → Int
  | 0, g => g 0
  | k + 1, g => (10 - x) * TT x k g + x * TT x k (fun j => g (j + 1))
theorem bt_low (n m b : Nat) (hb : b < n) : bt (2 ^ n + m) b = bt m b := by
  obtain ⟨d, rfl⟩ : ∃ d, n = b + (d + 1) := ⟨n - b - 1, by omega⟩
  unfold bt
  rw [Nat.pow_add, Nat.pow_succ 2 d, Nat.add_comm, Nat.add_mul_div_left _ _ (Nat.two_pow_pos b)]
  omega
theorem bt_top (n m : Nat) (hm : m < 2 ^ n) : bt (2 ^ n + m) n = 1 ∧ bt m n = 0 := by
  unfold bt
  rw [Nat.add_comm, Nat.add_div_right _ (Nat.two_pow_pos n), Nat.div_eq_of_lt hm]
  exact ⟨rfl, rfl⟩
theorem wgt_low (x : Int) (n m : Nat) : ∀ b, b ≤ n → wgt x (2 ^ n + m) b = wgt x m b
  | 0, _ => rfl
  | b + 1, h => by
    show wgt x (2 ^ n + m) b * (if bt (2 ^ n + m) b = 1 then x else 10 - x) = wgt x m b * (if bt m b = 1 then x else 10 - x)
    rw [wgt_low x n m b (by omega), bt_low n m b (by omega)]
theorem cq_low (Q : Nat → Bool) (n m : Nat) : ∀ b, b ≤ n → cq Q (2 ^ n + m) b = cq Q m b
  | 0, _ => rfl
  | b + 1, h => by
    show cq Q (2 ^ n + m) b + (if Q b = true then bt (2 ^ n + m) b else 0) = cq Q m b + (if Q b = true then bt m b else 0)
    rw [cq_low Q n m b (by omega), bt_low n m b (by omega)]
theorem VV_succ (x : Int) (Q : Nat → Bool) (n : Nat) (g : Nat → Int) : VV x Q (n + 1) g = (10 - x) * VV x Q n g + x * VV x Q n (fun j => g (j + (if Q n = true then 1 else 0))) := by
  unfold VV
  rw [Nat.pow_succ, Nat.mul_two, fb_si_split, ← fb_si_mul, ← fb_si_mul]
  refine congr (congrArg HAdd.hAdd (fb_si_cong (fun m hm => ?_))) (fb_si_cong (fun m hm => ?_))
  · obtain ⟨_, h2⟩ := bt_top n m hm
    show wgt x m n * (if bt m n = 1 then x else 10 - x) * g (cq Q m n + (if Q n = true then bt m n else 0)) = (10 - x) * (wgt x m n * g (cq Q m n))
    rw [h2, if_neg (by omega), show (if Q n = true then 0 else 0) = 0 by split <;> rfl, Nat.add_zero, Int.mul_comm (wgt x m n) (10 - x), Int.mul_assoc]
  · obtain ⟨h1, _⟩ := bt_top n m hm
    show wgt x (2 ^ n + m) n * (if bt (2 ^ n + m) n = 1 then x else 10 - x) * g (cq Q (2 ^ n + m) n + (if Q n = true then bt (2 ^ n + m) n else 0)) = x * (wgt x m n * g (cq Q m n + (if Q n = true then 1 else 0)))
    rw [h1, if_pos rfl, wgt_low x n m n (Nat.le_refl n), cq_low Q n m n (Nat.le_refl n), Int.mul_comm (wgt x m n) x, Int.mul_assoc]
theorem VV_eq (x : Int) (Q : Nat → Bool) : ∀ (n : Nat) (g : Nat → Int), VV x Q n g = 10 ^ (n - fb_ct Q n) * TT x (fb_ct Q n) g
  | 0, g => by
    show fb_si (fun m => wgt x m 0 * g (cq Q m 0)) 1 = 10 ^ (0 - 0) * g 0
    rw [fb_si_succ]
    show (0 : Int) + 1 * g 0 = 1 * g 0
    omega
  | n + 1, g => by
    have hk := fb_ct_le Q n
    rw [VV_succ, VV_eq x Q n, VV_eq x Q n, fb_ct_succ]
    by_cases c : Q n = true
    · rw [if_pos c, show n + 1 - (fb_ct Q n + 1) = n - fb_ct Q n by omega]
      show _ = 10 ^ (n - fb_ct Q n) * ((10 - x) * TT x (fb_ct Q n) g + x * TT x (fb_ct Q n) (fun j => g (j + 1)))
      rw [Int.mul_add, Int.mul_left_comm (10 - x), Int.mul_left_comm x]
    · rw [if_neg c, show n + 1 - (fb_ct Q n + 0) = (n - fb_ct Q n) + 1 by omega, Int.pow_succ]
      show (10 - x) * (10 ^ (n - fb_ct Q n) * TT x (fb_ct Q n) g) + x * (10 ^ (n - fb_ct Q n) * TT x (fb_ct Q n) g) = 10 ^ (n - fb_ct Q n) * 10 * TT x (fb_ct Q n) g
      rw [← Int.add_mul, show 10 - x + x = 10 by omega, Int.mul_comm (10 ^ (n - fb_ct Q n)) 10, Int.mul_assoc]
/-! the class's table -/
def WT (x : Int) (m : Nat) (W : Nat → Int) : Prop := (∀ g : Nat → Int, fb_si (fun j => W j * g j) 6 = TT x m g) ∧ ∀ j, m < j → j < 6 → W j = 0
theorem si6 (f : Nat → Int) : fb_si f 6 = f 0 + f 1 + f 2 + f 3 + f 4 + f 5 := by
  show ((((((0 : Int) + f 0) + f 1) + f 2) + f 3) + f 4) + f 5 = _
  omega
theorem anew_eq (u l : Int) (W : Nat → Int) (x : Int) : ∃ W', f_Odds_beginAnew u l W = some (0, 1, W') ∧ WT x 0 W' := by
  refine ⟨upZ (upZ (upZ (upZ (upZ (upZ W 1 0) 2 0) 3 0) 4 0) 5 0) 0 1, rfl, fun g => ?_, fun j h1 h2 => ?_⟩
  · rw [si6]
    show 1 * g 0 + 0 * g 1 + 0 * g 2 + 0 * g 3 + 0 * g 4 + 0 * g 5 = g 0
    omega
  · rcases (show j = 1 ∨ j = 2 ∨ j = 3 ∨ j = 4 ∨ j = 5 by omega) with rfl | rfl | rfl | rfl | rfl <;> rfl
theorem pass_eq (u l : Int) (W : Nat → Int) (x : Int) (hx : 0 ≤ x ∧ x ≤ 10) (m : Nat) (hm : m < 5) (hW : WT x m W) : ∃ W', f_Odds_passBox u l W x = some (u * 10, l * 10, W') ∧ WT x (m + 1) W' := by
  obtain ⟨W', hW'⟩ : ∃ W' : Nat → Int, W' = upZ (upZ (upZ (upZ (upZ (upZ W 5 (W 5 * (10 - x) + W 4 * x)) 4 (W 4 * (10 - x) + W 3 * x)) 3 (W 3 * (10 - x) + W 2 * x)) 2 (W 2 * (10 - x) + W 1 * x)) 1 (W 1 * (10 - x) + W 0 * x)) 0 (W 0 * (10 - x)) := ⟨_, rfl⟩
  have step : ∀ (f : Nat) (V : Nat → Int) (k : Nat), 0 < k → k < 6 → f_Odds_passBox_L8 (f + 1) V x k = f_Odds_passBox_L8 f (upZ V k (V k * (10 - x) + V (k - 1) * x)) x ((k - 1 : Nat) : Int) := fun f V k h0 h6 => by
    rw [f_Odds_passBox_L8, chk_pos (by omega), if_neg (by omega), chk_pos (by omega), chk_pos (by omega), chk_pos (by omega), chk_pos (by omega), Int.toNat_natCast, show ((k : Int) - 1).toNat = k - 1 by omega, show (k : Int) + -1 = ((k - 1 : Nat) : Int) by omega]
  have h5 := step 4999 W 5 (by omega) (by omega)
  have h4 := step 4998 (upZ W 5 (W 5 * (10 - x) + W 4 * x)) 4 (by omega) (by omega)
  have h3 := step 4997 (upZ (upZ W 5 (W 5 * (10 - x) + W 4 * x)) 4 (W 4 * (10 - x) + W 3 * x)) 3 (by omega) (by omega)
  have h2 := step 4996 (upZ (upZ (upZ W 5 (W 5 * (10 - x) + W 4 * x)) 4 (W 4 * (10 - x) + W 3 * x)) 3 (W 3 * (10 - x) + W 2 * x)) 2 (by omega) (by omega)
  have h1 := step 4995 (upZ (upZ (upZ (upZ W 5 (W 5 * (10 - x) + W 4 * x)) 4 (W 4 * (10 - x) + W 3 * x)) 3 (W 3 * (10 - x) + W 2 * x)) 2 (W 2 * (10 - x) + W 1 * x)) 1 (by omega) (by omega)
  have h0 : ∀ V : Nat → Int, f_Odds_passBox_L8 4995 V x ((0 : Nat) : Int) = some V := fun V => by
    rw [f_Odds_passBox_L8, chk_pos (by decide), if_pos (by decide)]
  have hL := h5.trans (h4.trans (h3.trans (h2.trans (h1.trans (h0 _)))))
  have hL : f_Odds_passBox_L8 5000 W x (6 - 1) = some (upZ (upZ (upZ (upZ (upZ W 5 (W 5 * (10 - x) + W 4 * x)) 4 (W 4 * (10 - x) + W 3 * x)) 3 (W 3 * (10 - x) + W 2 * x)) 2 (W 2 * (10 - x) + W 1 * x)) 1 (W 1 * (10 - x) + W 0 * x)) := hL
  refine ⟨W', ?_, fun g => ?_, fun j h1 h2 => ?_⟩
  · unfold f_Odds_passBox
    rw [bnd_eq hL, chk_pos (by omega), hW']
    rfl
  · have hz : W 5 = 0 := hW.2 5 (by omega) (by omega)
    have e0 : W' 0 = W 0 * (10 - x) := by rw [hW']; rfl
    have e1 : W' 1 = W 1 * (10 - x) + W 0 * x := by rw [hW']; rfl
    have e2 : W' 2 = W 2 * (10 - x) + W 1 * x := by rw [hW']; rfl
    have e3 : W' 3 = W 3 * (10 - x) + W 2 * x := by rw [hW']; rfl
    have e4 : W' 4 = W 4 * (10 - x) + W 3 * x := by rw [hW']; rfl
    have e5 : W' 5 = W 5 * (10 - x) + W 4 * x := by rw [hW']; rfl
    show _ = (10 - x) * TT x m g + x * TT x m (fun j => g (j + 1))
    rw [← hW.1 g, ← hW.1 (fun j => g (j + 1)), si6, si6, si6, e0, e1, e2, e3, e4, e5, hz]
    generalize 10 - x = y
    grind
  · have e : ∀ k, k < 5 → W' (k + 1) = W (k + 1) * (10 - x) + W k * x := fun k hk => by
      rcases (show k = 0 ∨ k = 1 ∨ k = 2 ∨ k = 3 ∨ k = 4 by omega) with rfl | rfl | rfl | rfl | rfl <;> rw [hW'] <;> rfl
    obtain ⟨i, rfl⟩ : ∃ i, j = i + 1 := ⟨j - 1, by omega⟩
    rw [e i (by omega), hW.2 (i + 1) (by omega) h2, hW.2 i (by omega) (by omega)]
    omega
theorem TT_bd (x : Int) (hx : 0 ≤ x ∧ x ≤ 10) (c : Int) : ∀ (m : Nat) (g : Nat → Int), (∀ j, 0 ≤ g j ∧ g j ≤ c) → 0 ≤ TT x m g ∧ TT x m g ≤ 10 ^ m * c
  | 0, g, h => by have := h 0; show 0 ≤ g 0 ∧ g 0 ≤ 1 * c; omega
  | m + 1, g, h => by
    obtain ⟨a1, a2⟩ := TT_bd x hx c m g h
    obtain ⟨b1, b2⟩ := TT_bd x hx c m (fun j => g (j + 1)) (fun j => h (j + 1))
    show 0 ≤ (10 - x) * TT x m g + x * TT x m (fun j => g (j + 1)) ∧ (10 - x) * TT x m g + x * TT x m (fun j => g (j + 1)) ≤ 10 ^ (m + 1) * c
    have h1 : 0 ≤ (10 - x) * TT x m g := Int.mul_nonneg (by omega) a1
    have h2 : 0 ≤ x * TT x m (fun j => g (j + 1)) := Int.mul_nonneg hx.1 b1
    have h3 : (10 - x) * TT x m g ≤ (10 - x) * (10 ^ m * c) := Int.mul_le_mul_of_nonneg_left a2 (by omega)
    have h4 : x * TT x m (fun j => g (j + 1)) ≤ x * (10 ^ m * c) := Int.mul_le_mul_of_nonneg_left b2 hx.1
    have h5 : (10 - x) * (10 ^ m * c) + x * (10 ^ m * c) = 10 ^ (m + 1) * c := by
      rw [← Int.add_mul, show 10 - x + x = 10 by omega, Int.pow_succ, Int.mul_comm (10 ^ m) 10, Int.mul_assoc]
    omega
/-! the greatest common divisor -/
theorem mod_half (a b : Nat) (hb : 0 < b) (h : b ≤ a) : 2 * (a % b) < a := by
  have h1 := Nat.div_add_mod a b
  have h2 := Nat.mod_lt a hb
  have h3 : 1 ≤ a / b := (Nat.one_le_div_iff hb).mpr h
  have h4 : b ≤ b * (a / b) := Nat.le_mul_of_pos_right b h3
  omega
theorem cmpZ_0 (x : Int) : cmpZ x 0 = 0 ↔ x = 0 := by
  unfold cmpZ
  by_cases c : (0 : Int) < x
  · rw [if_pos c]; omega
  · rw [if_neg c]
    by_cases d : x = 0
    · rw [if_pos d]; omega
    · rw [if_neg d]; omega
theorem gcd_class : ∀ (k a b i f : Nat), b < 2 ^ k → a < 2147483648 → b < 2147483648 → i + 2 * k + 1 ≤ 100 → 2 * k + 1 < f → f_Odds_reduce_L13 f a b i = some ((Nat.gcd a b : Nat) : Int)
  | k, a, b, i, f, hk, ha, hb, hi, hf => by
    obtain ⟨f1, rfl⟩ : ∃ g, f = g + 1 := ⟨f - 1, by omega⟩
    rw [f_Odds_reduce_L13, chk_pos (by omega), if_neg (by omega), chk_pos (by constructor <;> omega)]
    by_cases c : b = 0
    · subst c
      rw [if_pos ((cmpZ_0 ((0 : Nat) : Int)).mpr rfl), Nat.gcd_zero_right]
    · rw [if_neg (fun q => c (by have := (cmpZ_0 _).mp q; omega)), chk_pos (by omega)]
      have er : (a : Int) % (b : Int) = ((a % b : Nat) : Int) := by omega
      have hr := Nat.mod_lt a (Nat.pos_of_ne_zero c)
      rw [er]
      match k, hk, hi, hf with
      | 0, hk, _, _ => exact absurd hk (by show ¬ b < 1; omega)
      | k + 1, hk, hi, hf =>
        obtain ⟨f2, rfl⟩ : ∃ g, f1 = g + 1 := ⟨f1 - 1, by omega⟩
        rw [f_Odds_reduce_L13, chk_pos (by omega), if_neg (by omega), chk_pos (by constructor <;> omega)]
        rw [Nat.gcd_comm a b, Nat.gcd_rec b a]
        by_cases d : a % b = 0
        · rw [if_pos ((cmpZ_0 _).mpr (by omega)), d, Nat.gcd_zero_left]
        · rw [if_neg (fun q => d (by have := (cmpZ_0 _).mp q; omega)), chk_pos (by omega), show (b : Int) % ((a % b : Nat) : Int) = ((b % (a % b) : Nat) : Int) from (Int.natCast_emod b (a % b)).symm]
          have hh := mod_half b (a % b) (Nat.pos_of_ne_zero d) (by omega)
          have := gcd_class k (a % b) (b % (a % b)) (i + 2) f2 (by rw [Nat.pow_succ] at hk; omega) (by omega) (by omega) (by omega) (by omega)
          rw [Nat.gcd_rec (a % b) b, Nat.gcd_comm]
          exact this
theorem gcd_ref : ∀ (k a b f : Nat), b < 2 ^ k → a < 2147483648 → b < 2147483648 → 2 * k + 1 < f → f_M_common_L6 f a b = some ((Nat.gcd a b : Nat) : Int)
  | k, a, b, f, hk, ha, hb, hf => by
    obtain ⟨f1, rfl⟩ : ∃ g, f = g + 1 := ⟨f - 1, by omega⟩
    rw [f_M_common_L6, chk_pos (by constructor <;> omega)]
    by_cases c : b = 0
    · subst c
      rw [if_pos ((cmpZ_0 ((0 : Nat) : Int)).mpr rfl), Nat.gcd_zero_right]
    · rw [if_neg (fun q => c (by have := (cmpZ_0 _).mp q; omega)), chk_pos (by omega)]
      have er : (a : Int) % (b : Int) = ((a % b : Nat) : Int) := by omega
      have hr := Nat.mod_lt a (Nat.pos_of_ne_zero c)
      rw [er]
      match k, hk, hf with
      | 0, hk, _ => exact absurd hk (by show ¬ b < 1; omega)
      | k + 1, hk, hf =>
        obtain ⟨f2, rfl⟩ : ∃ g, f1 = g + 1 := ⟨f1 - 1, by omega⟩
        rw [f_M_common_L6, chk_pos (by constructor <;> omega)]
        rw [Nat.gcd_comm a b, Nat.gcd_rec b a]
        by_cases d : a % b = 0
        · rw [if_pos ((cmpZ_0 _).mpr (by omega)), d, Nat.gcd_zero_left]
        · rw [if_neg (fun q => d (by have := (cmpZ_0 _).mp q; omega)), chk_pos (by omega), show (b : Int) % ((a % b : Nat) : Int) = ((b % (a % b) : Nat) : Int) from (Int.natCast_emod b (a % b)).symm]
          have hh := mod_half b (a % b) (Nat.pos_of_ne_zero d) (by omega)
          have := gcd_ref k (a % b) (b % (a % b)) f2 (by rw [Nat.pow_succ] at hk; omega) (by omega) (by omega) (by omega)
          rw [Nat.gcd_rec (a % b) b, Nat.gcd_comm]
          exact this
