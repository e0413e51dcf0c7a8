/-! ===== loops: what they come to ===== -/
theorem bnd_eq {α β : Type} {x : Option α} {a : α} {k : α → Option β} (h : x = some a) : Option.bind x k = k a := by rw [h]; rfl
def itr {β : Type} (s : Nat → β → β) : Nat → Nat → β → β
  | _, 0, b => b
  | i, k + 1, b => itr s (i + 1) k (s i b)
theorem itr_succ {β : Type} (s : Nat → β → β) : ∀ (k i : Nat) (b : β), itr s i (k + 1) b = s (i + k) (itr s i k b)
  | 0, i, b => rfl
  | k + 1, i, b => by
    have h := itr_succ s k (i + 1) (s i b)
    rw [show i + 1 + k = i + (k + 1) by omega] at h
    exact h
theorem lup {α β : Type} (L : Nat → β → Int → Option α) (n : Nat) (s : Nat → β → β) (fin : β → Option α) (I : Nat → β → Prop)
    (hs : ∀ (fuel i : Nat) (b : β), i < n → I i b → L (fuel + 1) b (i : Int) = L fuel (s i b) ((i : Int) + 1) ∧ I (i + 1) (s i b))
    (he : ∀ (fuel : Nat) (b : β), I n b → L (fuel + 1) b (n : Int) = fin b) :
    ∀ (k i : Nat) (b : β) (fuel : Nat), i + k = n → k < fuel → I i b → L fuel b (i : Int) = fin (itr s i k b) ∧ I n (itr s i k b) := by
  intro k
  induction k with
  | zero =>
    intro i b fuel hi hf hI
    obtain ⟨f, rfl⟩ : ∃ f, fuel = f + 1 := ⟨fuel - 1, by omega⟩
    obtain rfl : i = n := by omega
    exact ⟨he f b hI, hI⟩
  | succ k ih =>
    intro i b fuel hi hf hI
    obtain ⟨f, rfl⟩ : ∃ f, fuel = f + 1 := ⟨fuel - 1, by omega⟩
    obtain ⟨h1, h2⟩ := hs f i b (by omega) hI
    rw [h1]
    exact ih (i + 1) (s i b) f (by omega) (by omega) h2
theorem lup0 {α β : Type} (L : Nat → β → Int → Option α) (n : Nat) (s : Nat → β → β) (fin : β → Option α) (I : Nat → β → Prop)
    (hs : ∀ (fuel i : Nat) (b : β), i < n → I i b → L (fuel + 1) b (i : Int) = L fuel (s i b) ((i : Int) + 1) ∧ I (i + 1) (s i b))
    (he : ∀ (fuel : Nat) (b : β), I n b → L (fuel + 1) b (n : Int) = fin b) (b : β) (fuel : Nat) (hf : n < fuel) (h0 : I 0 b) : L fuel b 0 = fin (itr s 0 n b) ∧ I n (itr s 0 n b) :=
  lup L n s fin I hs he n 0 b fuel (by omega) hf h0
theorem itr_sum (g : Nat → Int) : ∀ (k : Nat) (b : Int), itr (fun i b => b + g i) 0 k b = b + fb_si g k
  | 0, b => (Int.add_zero b).symm
  | k + 1, b => by
    rw [itr_succ, itr_sum g k b, fb_si_succ, Nat.zero_add]; omega
theorem itr_cong {β : Type} {s s' : Nat → β → β} : ∀ (k i : Nat) (b : β), (∀ j b, i ≤ j → j < i + k → s j b = s' j b) → itr s i k b = itr s' i k b
  | 0, _, _, _ => rfl
  | k + 1, i, b, h => by
    show itr s (i + 1) k (s i b) = itr s' (i + 1) k (s' i b)
    rw [h i b (by omega) (by omega)]
    exact itr_cong k (i + 1) _ (fun j b h1 h2 => h j b (by omega) (by omega))
/-- the first from i on, among k, that has p -/
def fnd {α : Type} (p : Nat → Bool) (r : Nat → α) (d : α) : Nat → Nat → α
  | _, 0 => d
  | i, k + 1 => if p i = true then r i else fnd p r d (i + 1) k
theorem lfnd {α : Type} (L : Nat → Int → Option α) (n : Nat) (p : Nat → Bool) (r : Nat → α) (d : α)
    (hs : ∀ (fuel i : Nat), i < n → L (fuel + 1) (i : Int) = if p i = true then some (r i) else L fuel ((i : Int) + 1))
    (he : ∀ (fuel : Nat), L (fuel + 1) (n : Int) = some d) :
    ∀ (k i fuel : Nat), i + k = n → k < fuel → L fuel (i : Int) = some (fnd p r d i k) := by
  intro k
  induction k with
  | zero =>
    intro i fuel hi hf
    obtain ⟨f, rfl⟩ : ∃ f, fuel = f + 1 := ⟨fuel - 1, by omega⟩
    obtain rfl : i = n := by omega
    exact he f
  | succ k ih =>
    intro i fuel hi hf
    obtain ⟨f, rfl⟩ : ∃ f, fuel = f + 1 := ⟨fuel - 1, by omega⟩
    rw [hs f i (by omega)]
    show _ = some (if p i = true then r i else fnd p r d (i + 1) k)
    by_cases c : p i = true
    · rw [if_pos c, if_pos c]
    · rw [if_neg c, if_neg c]
      exact ih (i + 1) f (by omega) (by omega)
theorem fnd_cong {α : Type} {p p' : Nat → Bool} {r r' : Nat → α} {d : α} : ∀ (k i : Nat), (∀ j, i ≤ j → j < i + k → p j = p' j ∧ r j = r' j) → fnd p r d i k = fnd p' r' d i k
  | 0, _, _ => rfl
  | k + 1, i, h => by
    show (if p i = true then r i else fnd p r d (i + 1) k) = (if p' i = true then r' i else fnd p' r' d (i + 1) k)
    rw [(h i (by omega) (by omega)).1, (h i (by omega) (by omega)).2, fnd_cong k (i + 1) (fun j h1 h2 => h j (by omega) (by omega))]
theorem fnd_at {α : Type} {p : Nat → Bool} {r : Nat → α} {d : α} : ∀ (k i j : Nat), i ≤ j → j < i + k → p j = true → (∀ m, i ≤ m → m < j → p m = false) → fnd p r d i k = r j
  | 0, i, j, h1, h2, _, _ => by omega
  | k + 1, i, j, h1, h2, h3, h4 => by
    show (if p i = true then r i else fnd p r d (i + 1) k) = r j
    by_cases c : i = j
    · subst c; rw [if_pos h3]
    · rw [if_neg (by rw [h4 i (by omega) (by omega)]; decide)]
      exact fnd_at k (i + 1) j (by omega) (by omega) h3 (fun m h5 h6 => h4 m (by omega) h6)
theorem upZ_same (f : Nat → Int) (k : Nat) (v : Int) : upZ f k v k = v := by simp [upZ]
theorem upZ_ne (f : Nat → Int) {k j : Nat} (v : Int) (h : j ≠ k) : upZ f k v j = f j := by simp [upZ, h]
/-! ===== sums ===== -/
theorem si_perm (g : Nat → Int) : ∀ (n : Nat) (f : Nat → Nat), (∀ i, i < n → f i < n) → (∀ i j, i < j → j < n → f i ≠ f j) → fb_si (fun i => g (f i)) n = fb_si g n
  | 0, _, _, _ => rfl
  | n + 1, f, h1, h2 => by
    obtain ⟨j, hj, hfj⟩ := fb_onto h1 h2 (Nat.lt_succ_self n)
    have hne : ∀ i, i < n + 1 → i ≠ j → f i ≠ n := fun i hi hij e => by
      rcases Nat.lt_or_gt_of_ne hij with q | q
      · exact h2 i j q hj (by omega)
      · exact h2 j i q hi (by omega)
    rw [fb_si_succ, fb_si_succ]
    rcases Nat.lt_or_ge j n with q | q
    · have ih := si_perm g n (fun i => if i = j then f n else f i) (fun i hi => by
        have hn := hne n (by omega) (by omega)
        have := h1 n (by omega)
        by_cases c : i = j
        · simp only [if_pos c]; omega
        · simp only [if_neg c]
          have := hne i (by omega) c
          have := h1 i (by omega)
          omega) (fun i k hik hk => by
        by_cases c : i = j
        · have c2 : k ≠ j := by omega
          simp only [if_pos c, if_neg c2]
          exact fun e => h2 k n hk (by omega) e.symm
        · by_cases c2 : k = j
          · simp only [if_neg c, if_pos c2]
            exact h2 i n (by omega) (by omega)
          · simp only [if_neg c, if_neg c2]
            exact h2 i k hik (by omega))
      have e : (fun i => g ((fun i => if i = j then f n else f i) i)) = fun k => if k = j then g (f n) else (fun i => g (f i)) k := by
        funext k; by_cases c : k = j <;> simp [c]
      rw [e, fb_si_upd _ _ q] at ih
      simp only [hfj] at ih
      omega
    · have hjn : j = n := by omega
      subst hjn
      have ih := si_perm g j f (fun i hi => by
        have := hne i (by omega) (by omega)
        have := h1 i (by omega)
        omega) (fun i k hik hk => h2 i k hik (by omega))
      rw [ih, hfj]
theorem si_swap (f : Nat → Nat → Int) (m : Nat) : ∀ n, fb_si (fun i => fb_si (fun j => f i j) m) n = fb_si (fun j => fb_si (fun i => f i j) n) m
  | 0 => by
    have : ∀ m, fb_si (fun _ => (0 : Int)) m = 0 := fun m => by induction m with
      | zero => rfl
      | succ m ih => rw [fb_si_succ, ih]; rfl
    exact (this m).symm
  | n + 1 => by
    rw [fb_si_succ, si_swap f m n, ← fb_si_add]
    rfl
theorem si_zero {f : Nat → Int} : ∀ {n : Nat}, (∀ k, k < n → f k = 0) → fb_si f n = 0
  | 0, _ => rfl
  | n + 1, h => by rw [fb_si_succ, si_zero (fun k hk => h k (by omega)), h n (by omega)]; rfl
theorem si_one {f : Nat → Int} {n i : Nat} (hi : i < n) (h : ∀ k, k < n → k ≠ i → f k = 0) : fb_si f n = f i := by
  have e : fb_si f n = fb_si (fun k => if k = i then f i else (fun _ => (0 : Int)) k) n := fb_si_cong (fun k hk => by
    by_cases c : k = i
    · subst c; simp
    · simp [c, h k hk c])
  rw [e, fb_si_upd _ _ hi, si_zero (fun _ _ => rfl)]; omega
