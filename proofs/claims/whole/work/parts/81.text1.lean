/-! ===== text: what a token is, the reference's token at hand, a number on both sides ===== -/
theorem rn_all (q : Nat → Bool) : ∀ m p i, p ≤ i → i < rn q m p → q i = true
  | 0, p, i, h1, h2 => by
    have h2 : i < p := h2
    omega
  | m + 1, p, i, h1, h2 => by
    have h2 : i < (if q p = true then rn q m (p + 1) else p) := h2
    by_cases c : q p = true
    · rw [if_pos c] at h2
      by_cases d : i = p
      · subst d; exact c
      · exact rn_all q m (p + 1) i (by omega) h2
    · rw [if_neg c] at h2
      omega
theorem rn_go (q : Nat → Bool) (m p : Nat) (h : q p = true) : p + 1 ≤ rn q (m + 1) p := by
  show p + 1 ≤ if q p = true then rn q m (p + 1) else p
  rw [if_pos h]
  exact (rn_bd q m (p + 1)).1
theorem tK_bd (k : Nat) (B : Nat → Int) (s : Nat) : 0 ≤ tK k B s ∧ tK k B s ≤ 3 := by
  unfold tK
  split
  · decide
  · split
    · decide
    · split <;> decide
theorem tK_end {k : Nat} {B : Nat → Int} {s : Nat} (h : tK k B s = 0) : k ≤ s := by
  unfold tK at h
  by_cases c : k ≤ s
  · exact c
  · rw [if_neg c] at h
    split at h
    · cases h
    · split at h <;> cases h
theorem tE_bd {k : Nat} (B : Nat → Int) {s : Nat} (hs : s ≤ k) : s ≤ tE k B s ∧ tE k B s ≤ k := by
  have := rn_bd (qF B) (k - s) s
  unfold tE
  omega
theorem tX_bd {k : Nat} {B : Nat → Int} {s : Nat} (hs : s ≤ k) : s ≤ tX k B s ∧ tX k B s ≤ k := by
  unfold tX
  by_cases c0 : k ≤ s
  · rw [if_pos c0]; omega
  · rw [if_neg c0]
    by_cases c1 : B s = 59
    · rw [if_pos c1]; omega
    · rw [if_neg c1]
      by_cases c2 : 97 ≤ B s ∧ B s ≤ 122
      · rw [if_pos c2]
        have := rn_bd (qL B) (k - s) s
        omega
      · rw [if_neg c2]
        exact tE_bd B hs
theorem tX_go {k : Nat} {B : Nat → Int} {s : Nat} (hs : s < k) (hb : ¬ tBad k B s) : s < tX k B s := by
  unfold tX
  rw [if_neg (by omega)]
  by_cases c1 : B s = 59
  · rw [if_pos c1]; omega
  · rw [if_neg c1]
    obtain ⟨m, hm⟩ : ∃ m, k - s = m + 1 := ⟨k - s - 1, by omega⟩
    by_cases c2 : 97 ≤ B s ∧ B s ≤ 122
    · rw [if_pos c2, hm]
      have := rn_go (qL B) m s (decide_eq_true c2)
      omega
    · rw [if_neg c2]
      by_cases c3 : 48 ≤ B s ∧ B s ≤ 57
      · unfold tE
        rw [hm]
        have := rn_go (qF B) m s (decide_eq_true c3)
        omega
      · exact absurd ⟨hs, c1, c2, Or.inl c3⟩ hb
theorem tK_num {k : Nat} {B : Nat → Int} {s : Nat} (hb : ¬ tBad k B s) (h : tK k B s = 2) : s < k ∧ (48 ≤ B s ∧ B s ≤ 57) ∧ tE k B s - s ≤ 2 := by
  unfold tK at h
  by_cases c : k ≤ s
  · rw [if_pos c] at h; cases h
  · rw [if_neg c] at h
    by_cases c1 : B s = 59
    · rw [if_pos c1] at h; cases h
    · rw [if_neg c1] at h
      by_cases c2 : 97 ≤ B s ∧ B s ≤ 122
      · rw [if_pos c2] at h; cases h
      · refine ⟨by omega, ?_, ?_⟩
        · by_cases c3 : 48 ≤ B s ∧ B s ≤ 57
          · exact c3
          · exact absurd ⟨by omega, c1, c2, Or.inl c3⟩ hb
        · by_cases c3 : tE k B s - s ≤ 2
          · exact c3
          · exact absurd ⟨by omega, c1, c2, Or.inr (by omega)⟩ hb
/-- the number that the token at s is -/
def tV (k : Nat) (B : Nat → Int) (s : Nat) : Int := nvl B s (tE k B s - s)
theorem tV_bd {k : Nat} {B : Nat → Int} {s : Nat} (hb : ¬ tBad k B s) (h : tK k B s = 2) : 0 ≤ tV k B s ∧ tV k B s ≤ 99 := by
  obtain ⟨h1, h2, h3⟩ := tK_num hb h
  have hq : ∀ i, s ≤ i → i < tE k B s → 48 ≤ B i ∧ B i ≤ 57 := fun i a b => of_decide_eq_true (rn_all (qF B) (k - s) s i a b)
  unfold tV
  have h0 : nvl B s 0 = 0 := rfl
  have e1 : nvl B s 1 = nvl B s 0 * 10 + B s - 48 := rfl
  have e2 : nvl B s 2 = nvl B s 1 * 10 + B (s + 1) - 48 := rfl
  rcases (by omega : tE k B s - s = 0 ∨ tE k B s - s = 1 ∨ tE k B s - s = 2) with q | q | q
  · rw [q, h0]; decide
  · rw [q, e1, h0]
    omega
  · rw [q, e2, e1, h0]
    have := hq (s + 1) (by omega) (by omega)
    omega
/-- the reference has taken the token from p on -/
def MT (k : Nat) (B : Nat → Int) (p : Nat) (ps bg so va f wa : Int) : Prop :=
  (¬ tBad k B (tS k B p) ∧ ps = ((tX k B (tS k B p) : Nat) : Int) ∧ bg = ((tS k B p : Nat) : Int) ∧ so = tK k B (tS k B p) ∧ (tK k B (tS k B p) = 2 → va = tV k B (tS k B p)) ∧ f = 0)
  ∨ (tBad k B (tS k B p) ∧ f = 1 ∧ wa = ((tS k B p : Nat) : Int))
theorem mt_takes {k : Nat} {B T : Nat → Int} (h : RT k B T) {p : Nat} (hp : p ≤ k) (bg so va wa : Int) : ∃ ps' bg' so' va' f' wa', f_M_takes k p bg so va 0 wa T = some (ps', bg', so', va', f', wa') ∧ MT k B p ps' bg' so' va' f' wa' := by
  rcases tok_m h hp bg so va wa with ⟨h1, h2⟩ | ⟨h1, ps, so', va', h2⟩
  · exact ⟨_, _, _, _, _, _, h2, Or.inl ⟨h1, rfl, rfl, rfl, fun e => if_pos e, rfl⟩⟩
  · exact ⟨_, _, _, _, _, _, h2, Or.inr ⟨h1, rfl, rfl⟩⟩
theorem looked_n (bg so va wa lo hi : Int) (h1 : inR so) (h2 : ¬ so = 2) : f_M_looked bg so va 0 wa lo hi = some (0, 2, bg) := by
  have n1 : f_M_needs bg 0 wa 0 2 = some (2, bg) := rfl
  unfold f_M_looked
  rw [chk_pos (by decide), if_pos rfl, chk_pos h1, if_neg h2, Option.bind_some, bnd_eq n1, Option.bind_some, chk_pos (by show inR 2; decide), if_neg (by show ¬ (2 : Int) = 0; decide), Option.bind_some, chk_pos (by show inR 2; decide), if_neg (by show ¬ (2 : Int) = 0; decide)]
theorem numIn_n (ff fp tk s nm lo hi : Int) (h1 : inR tk) (h2 : ¬ tk = 2) : f_TextReader_isNumberWithin ff fp tk s nm lo hi = some (0, 2, s) := by
  unfold f_TextReader_isNumberWithin
  rw [chk_pos h1, if_neg h2]
  rfl
/-- a fault and its place -/
def FW (k : Nat) (ff w : Int) : Prop := (0 < ff ∧ ff ≤ 6) ∧ 0 ≤ w ∧ w ≤ (k : Int)
/-- a number within bounds: the class takes the token and looks at it, the reference looks at the one at hand and takes the next -/
theorem num_both {k : Nat} {B T : Nat → Int} (h : RT k B T) {p : Nat} (hp : p ≤ k) {ps bg so va f wa : Int} (hM : MT k B p ps bg so va f wa) (tk tp nm lo hi : Int) (hlo : inR lo) (hhi : inR hi) :
    (∃ ff w, FW k ff w ∧ (∃ v' ps' bg' so' va', f_M_readNumber k ps bg so va f wa T lo hi = some (v', ps', bg', so', va', ff, w)) ∧
      ((∃ nx tk' tp' nm', f_TextReader_takesToken 0 0 p tk tp nm k B = some (0, ff, w, nx, tk', tp', nm')) ∨
       (∃ nx tk' tp' nm', f_TextReader_takesToken 0 0 p tk tp nm k B = some (1, 0, 0, nx, tk', tp', nm') ∧ f_TextReader_isNumberWithin 0 0 tk' tp' nm' lo hi = some (0, ff, w))))
    ∨ (∃ (v : Int) (p' : Nat) (tp' : Int), (lo ≤ v ∧ v ≤ hi) ∧ (0 ≤ v ∧ v ≤ 99) ∧ p < p' ∧ p' ≤ k ∧ f_TextReader_takesToken 0 0 p tk tp nm k B = some (1, 0, 0, (p' : Int), 2, tp', v) ∧ f_TextReader_isNumberWithin 0 0 2 tp' v lo hi = some (1, 0, 0) ∧
      ∃ ps' bg' so' va' f' wa', f_M_readNumber k ps bg so va f wa T lo hi = some (v, ps', bg', so', va', f', wa') ∧ MT k B p' ps' bg' so' va' f' wa') := by
  have hs := tS_bd B hp
  rcases hM with ⟨h1, h2, h3, h4, h5, h6⟩ | ⟨h1, h2, h3⟩
  · subst h2 h3 h4 h6
    rcases tok_c h hp 0 0 tk tp nm with ⟨_, hc⟩ | ⟨hc, _⟩
    · have hX := tX_bd (B := B) hs.2
      have hKb := tK_bd k B (tS k B p)
      by_cases c : tK k B (tS k B p) = 2
      · have hv := tV_bd h1 c
        have hn := tK_num h1 c
        have hgo := tX_go hn.1 h1
        have e5 := h5 c
        subst e5
        have hc : f_TextReader_takesToken 0 0 p tk tp nm k B = some (1, 0, 0, ((tX k B (tS k B p) : Nat) : Int), 2, ((tS k B p : Nat) : Int), tV k B (tS k B p)) := by
          rw [hc, c, if_pos rfl]; rfl
        by_cases d : lo ≤ tV k B (tS k B p) ∧ tV k B (tS k B p) ≤ hi
        · right
          obtain ⟨ps', bg', so', va', f', wa', e1, e2⟩ := mt_takes h hX.2 ((tS k B p : Nat) : Int) 2 (tV k B (tS k B p)) wa
          refine ⟨tV k B (tS k B p), tX k B (tS k B p), _, d, hv, by omega, hX.2, hc, ?_, ps', bg', so', va', f', wa', ?_, e2⟩
          · rw [numIn_eq 0 0 2 _ _ lo hi (by decide) (by omega) hlo hhi, if_pos rfl, if_pos d]
          · unfold f_M_readNumber
            have e0 := looked_eq ((tS k B p : Nat) : Int) 2 (tV k B (tS k B p)) wa lo hi (by decide) (by omega) hlo hhi
            rw [if_pos rfl, if_pos d] at e0
            rw [c, bnd_eq e0, bnd_eq e1]
        · left
          refine ⟨3, ((tS k B p : Nat) : Int), ⟨by decide, by omega, by omega⟩, ?_, Or.inr ⟨_, _, _, _, hc, ?_⟩⟩
          · unfold f_M_readNumber
            have e0 := looked_eq ((tS k B p : Nat) : Int) 2 (tV k B (tS k B p)) wa lo hi (by decide) (by omega) hlo hhi
            rw [if_pos rfl, if_neg d] at e0
            rw [c, bnd_eq e0, bnd_eq (takes_f k _ _ 2 _ 3 _ T (by decide))]
            exact ⟨_, _, _, _, _, rfl⟩
          · rw [numIn_eq 0 0 2 _ _ lo hi (by decide) (by omega) hlo hhi, if_pos rfl, if_neg d]
      · left
        refine ⟨2, ((tS k B p : Nat) : Int), ⟨by decide, by omega, by omega⟩, ?_, Or.inr ⟨_, _, _, _, hc, ?_⟩⟩
        · unfold f_M_readNumber
          rw [bnd_eq (looked_n _ _ va wa lo hi (by omega) c), bnd_eq (takes_f k _ _ _ _ 2 _ T (by decide))]
          exact ⟨_, _, _, _, _, rfl⟩
        · exact numIn_n _ _ _ _ _ _ _ (by omega) c
    · exact absurd hc h1
  · subst h2 h3
    left
    rcases tok_c h hp 0 0 tk tp nm with ⟨hc, _⟩ | ⟨_, nx, nm', hc⟩
    · exact absurd h1 hc
    · refine ⟨1, ((tS k B p : Nat) : Int), ⟨by decide, by omega, by omega⟩, ?_, Or.inl ⟨_, _, _, _, hc⟩⟩
      rw [readNumber_f k ps bg so va 1 _ lo hi T (by decide)]
      exact ⟨_, _, _, _, _, rfl⟩
/-- the stop behind a line -/
theorem stop_c {k : Nat} {B T : Nat → Int} (h : RT k B T) {p : Nat} (hp : p ≤ k) (tk tp nm : Int) :
    (¬ tBad k B (tS k B p) ∧ tK k B (tS k B p) = 3 ∧ ∃ tp' nm', f_TextReader_takesStop 0 0 p tk tp nm k B = some (1, 0, 0, ((tX k B (tS k B p) : Nat) : Int), 3, tp', nm'))
    ∨ (¬ tBad k B (tS k B p) ∧ ¬ tK k B (tS k B p) = 3 ∧ ∃ nx tk' tp' nm', f_TextReader_takesStop 0 0 p tk tp nm k B = some (0, 2, ((tS k B p : Nat) : Int), nx, tk', tp', nm'))
    ∨ (tBad k B (tS k B p) ∧ ∃ nx tk' tp' nm', f_TextReader_takesStop 0 0 p tk tp nm k B = some (0, 1, ((tS k B p : Nat) : Int), nx, tk', tp', nm')) := by
  have hKb := tK_bd k B (tS k B p)
  unfold f_TextReader_takesStop
  rcases tok_c h hp 0 0 tk tp nm with ⟨h1, hc⟩ | ⟨h1, nx, nm', hc⟩
  · by_cases c : tK k B (tS k B p) = 3
    · left
      have hc : f_TextReader_takesToken 0 0 p tk tp nm k B = some (1, 0, 0, ((tX k B (tS k B p) : Nat) : Int), 3, ((tS k B p : Nat) : Int), nm) := by
        rw [hc, c, if_neg (by decide)]
      rw [bnd_eq hc, chk_pos (by show inR 1; decide), if_neg (by show ¬ (1 : Int) = 0; decide), chk_pos (by show inR 3; decide), if_pos (by show (3 : Int) = 3; rfl)]
      exact ⟨h1, c, _, _, rfl⟩
    · right; left
      rw [bnd_eq hc, chk_pos (by show inR 1; decide), if_neg (by show ¬ (1 : Int) = 0; decide), chk_pos (by show inR (tK k B (tS k B p)); omega), if_neg (by show ¬ tK k B (tS k B p) = 3; exact c)]
      have e : f_TextReader_failed 0 0 2 ((tS k B p : Nat) : Int) = some (0, 2, ((tS k B p : Nat) : Int)) := rfl
      refine ⟨h1, c, ?_⟩
      rw [bnd_eq e, chk_pos (by show inR 0; decide), if_pos (by show (0 : Int) = 0; rfl)]
      exact ⟨_, _, _, _, rfl⟩
  · right; right
    refine ⟨h1, ?_⟩
    rw [bnd_eq hc, chk_pos (by show inR 0; decide), if_pos (by show (0 : Int) = 0; rfl)]
    exact ⟨_, _, _, _, rfl⟩
/-- the reference behind a line's numbers: the stop, then the next token -/
theorem stop_m {k : Nat} {B T : Nat → Int} (h : RT k B T) {p : Nat} (hp : p ≤ k) {ps bg so va f wa : Int} (hM : MT k B p ps bg so va f wa) :
    ∃ f' wa', (inR f ∧ (if f = 0 then chk (inR so) (Option.bind (if so = 3 then some (1 : Int) else some 0) (fun o51 => Option.bind (f_M_needs bg f wa o51 2) (fun o54 => some (o54.1, o54.2)))) else some (f, wa)) = some (f', wa')) ∧
    ((¬ tBad k B (tS k B p) ∧ tK k B (tS k B p) = 3 ∧ f' = 0 ∧ ps = ((tX k B (tS k B p) : Nat) : Int))
    ∨ (¬ tBad k B (tS k B p) ∧ ¬ tK k B (tS k B p) = 3 ∧ f' = 2 ∧ wa' = ((tS k B p : Nat) : Int))
    ∨ (tBad k B (tS k B p) ∧ f' = 1 ∧ wa' = ((tS k B p : Nat) : Int))) := by
  have hKb := tK_bd k B (tS k B p)
  rcases hM with ⟨h1, h2, h3, h4, h5, h6⟩ | ⟨h1, h2, h3⟩
  · subst h2 h3 h4 h6
    rw [if_pos rfl, chk_pos (by omega)]
    by_cases c : tK k B (tS k B p) = 3
    · have n1 : f_M_needs ((tS k B p : Nat) : Int) 0 wa 1 2 = some (0, wa) := rfl
      refine ⟨0, wa, ⟨by decide, ?_⟩, Or.inl ⟨h1, c, rfl, rfl⟩⟩
      rw [if_pos c, Option.bind_some, bnd_eq n1]
    · have n1 : f_M_needs ((tS k B p : Nat) : Int) 0 wa 0 2 = some (2, ((tS k B p : Nat) : Int)) := rfl
      refine ⟨2, _, ⟨by decide, ?_⟩, Or.inr (Or.inl ⟨h1, c, rfl, rfl⟩)⟩
      rw [if_neg c, Option.bind_some, bnd_eq n1]
  · subst h2 h3
    exact ⟨1, _, ⟨by decide, if_neg (by decide)⟩, Or.inr (Or.inr ⟨h1, rfl, rfl⟩)⟩
