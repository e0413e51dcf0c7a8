theorem nL7_le (P : Nat → Int) : ∀ (f : Nat) (x o : Int), f_Shop_nextOrder_L7 f P x = some o → o ≤ x
  | 0, _, _, h => by simp [f_Shop_nextOrder_L7] at h
  | f + 1, x, o, h => by
    rw [f_Shop_nextOrder_L7] at h
    obtain ⟨_, h⟩ := chk_some h
    by_cases c : x < 0
    · rw [if_pos c] at h
      injection h with h
      omega
    · rw [if_neg c] at h
      obtain ⟨_, h⟩ := chk_some h
      obtain ⟨_, h⟩ := chk_some h
      obtain ⟨_, h⟩ := chk_some h
      obtain ⟨_, h⟩ := chk_some h
      by_cases d : P x.toNat ≤ P (x + 1).toNat
      · rw [if_pos d] at h
        injection h with h
        omega
      · rw [if_neg d] at h
        have := nL7_le P f (x + -1) o h
        omega
theorem nL47_in (P : Nat → Int) (x1 : Int) : ∀ (f : Nat) (x o : Int), f_Shop_nextOrder_L47 f P x1 x = some o → inR o
  | 0, _, _, h => by simp [f_Shop_nextOrder_L47] at h
  | f + 1, x, o, h => by
    rw [f_Shop_nextOrder_L47] at h
    obtain ⟨hx, h⟩ := chk_some h
    obtain ⟨_, h⟩ := chk_some h
    by_cases c : x ≤ x1
    · rw [if_pos c] at h
      injection h with h
      rw [← h]; exact hx
    · rw [if_neg c] at h
      obtain ⟨_, h⟩ := chk_some h
      obtain ⟨_, h⟩ := chk_some h
      obtain ⟨_, h⟩ := chk_some h
      obtain ⟨_, h⟩ := chk_some h
      by_cases d : P x1.toNat ≤ P x.toNat
      · rw [if_pos d] at h
        injection h with h
        rw [← h]; exact hx
      · rw [if_neg d] at h
        exact nL47_in P x1 f (x + -1) o h
theorem nNext {n : Nat} (hn : n ≤ 5) {P Q : Nat → Int} (h : AG n P Q) {r : Int} {Q' : Nat → Int} (e : f_Shop_nextOrder n Q = some (r, Q')) : ∃ P', f_Shop_nextOrder n P = some (r, P') ∧ AG n P' Q' := by
  unfold f_Shop_nextOrder at e ⊢
  rw [nL7 hn h 5000 ((n : Int) - 2) (by omega)]
  cases e7 : f_Shop_nextOrder_L7 5000 Q ((n : Int) - 2) with
  | none => rw [e7] at e; exact absurd e (by simp)
  | some o =>
    rw [bnd_eq e7] at e
    rw [Option.bind_some]
    unfold chk at e ⊢
    by_cases ho : inR o
    · rw [if_pos ho] at e ⊢
      by_cases c : 0 ≤ o
      · rw [if_pos c] at e ⊢
        have hle := nL7_le Q 5000 _ o e7
        rw [nL47 hn h o (by omega) 5000 ((n : Int) - 1) (by omega)]
        cases e47 : f_Shop_nextOrder_L47 5000 Q o ((n : Int) - 1) with
        | none => rw [e47] at e; exact absurd e (by simp)
        | some u =>
          rw [bnd_eq e47] at e
          rw [Option.bind_some]
          obtain ⟨P1, Q1, x1, x2, x3⟩ := nEx hn h o u ho (nL47_in Q o 5000 _ u e47)
          rw [bnd_eq x2] at e
          rw [bnd_eq x1]
          rcases nL91 hn 5000 P1 Q1 (o + 1) ((n : Int) - 1) x3 with ⟨y1, y2⟩ | ⟨P2, Q2, y1, y2, y3⟩
          · rw [y2] at e; exact absurd e (by simp)
          · rw [bnd_eq y2] at e
            rw [bnd_eq y1]
            injection e with e
            injection e with e1 e2
            subst e1 e2
            exact ⟨P2, rfl, y3⟩
      · rw [if_neg c] at e ⊢
        injection e with e
        injection e with e1 e2
        subst e1 e2
        exact ⟨P, rfl, h⟩
    · rw [if_neg ho] at e; exact absurd e (by simp)
