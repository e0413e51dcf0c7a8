/-- the first least, over the cells -/
def stp (mx : Nat → Int) (j : Nat) (c : Int × Int) : Int × Int := if c.1 ≤ mx j then c else (mx j, (j : Int))
theorem stp_id {mx : Nat → Int} : ∀ (k i : Nat) (c : Int × Int), (∀ j, i ≤ j → j < i + k → c.1 ≤ mx j) → itr (stp mx) i k c = c
  | 0, _, _, _ => rfl
  | k + 1, i, c, h => by
    rw [itr_succ, stp_id k i c (fun j h1 h2 => h j h1 (by omega))]
    exact if_pos (h (i + k) (by omega) (by omega))
theorem itr_add {β : Type} (s : Nat → β → β) (i a : Nat) (b : β) : ∀ k, itr s i (a + k) b = itr s (i + a) k (itr s i a b)
  | 0 => rfl
  | k + 1 => by
    show itr s i ((a + k) + 1) b = _
    rw [itr_succ, itr_add s i a b k, itr_succ, Nat.add_assoc]
def enc (a : Int) : Int := if a = -4 then -4 else 100 * (a / 24) + a % 24
/-- what holds of the least on its way -/
def okL (mx : Nat → Int) (c0 : Int) (i : Nat) (c : Int × Int) : Prop := (0 ≤ c.1 ∧ c.1 ≤ c0) ∧ (c.2 = -4 ∨ (0 ≤ c.2 ∧ c.2 < (i : Int)))
theorem okL_step {mx : Nat → Int} {c0 : Int} (hm : ∀ j, 0 ≤ mx j ∧ mx j ≤ c0) {i : Nat} {c : Int × Int} (h : okL mx c0 i c) : okL mx c0 (i + 1) (stp mx i c) := by
  unfold stp okL at *
  have := hm i
  by_cases q : c.1 ≤ mx i
  · rw [if_pos q]; omega
  · rw [if_neg q]
    refine ⟨this, Or.inr ?_⟩
    show (0 : Int) ≤ i ∧ (i : Int) < ((i + 1 : Nat) : Int)
    omega
theorem okL_itr {mx : Nat → Int} {c0 : Int} (hm : ∀ j, 0 ≤ mx j ∧ mx j ≤ c0) {i : Nat} {c : Int × Int} (h : okL mx c0 i c) : ∀ k, okL mx c0 (i + k) (itr (stp mx) i k c)
  | 0 => h
  | k + 1 => by rw [itr_succ]; exact okL_step hm (okL_itr hm h k)
theorem enc_at (r x : Nat) (hx : x < 24) : enc ((24 * r + x : Nat) : Int) = 100 * (r : Int) + x := by
  unfold enc
  rw [if_neg (by omega)]
  omega
theorem look_in {n : Nat} {st : Int} {F P : Nat → Int} (hV : VS n F P st) (p : Nat → Bool) (mx : Nat → Int) (hmx : ∀ r x : Nat, r < 5 → x < 24 → mx (24 * r + x) = mxS p (fun h => sTold F P (h : Nat) n r x)) (hm : ∀ j, 0 ≤ mx j ∧ mx j ≤ (fb_ct p 24 : Int)) (hm1 : 0 < fb_ct p 24 → ∀ j, j < 120 → 1 ≤ mx j)
    (r : Nat) (hr : r < 5) (c : Int × Int) (hc : okL mx (fb_ct p 24) (24 * r) c) (sl : Nat → Int) : ∃ s' sl', f_Search_bestLook_L29 5000 n st F P (enc c.2) c.1 sl (sMask p 24) r 0 = some (s', enc (itr (stp mx) (24 * r) 24 c).2, (itr (stp mx) (24 * r) 24 c).1, sl') ∧ VS n F P s' := by
  have h24 := fb_ct_le p 24
  obtain ⟨q, e1, e2, e3, e4⟩ := lupX (fun fuel (b : Int × Int × Int × (Nat → Int)) i => f_Search_bestLook_L29 fuel n b.1 F P b.2.1 b.2.2.1 b.2.2.2 (sMask p 24) r i) 24
    (fun i b => VS n F P b.1 ∧ b.2.1 = enc (itr (stp mx) (24 * r) i c).2 ∧ b.2.2.1 = (itr (stp mx) (24 * r) i c).1) (fun q => VS n F P q.1 ∧ q.2.1 = enc (itr (stp mx) (24 * r) 24 c).2 ∧ q.2.2.1 = (itr (stp mx) (24 * r) 24 c).1)
    (fun f i b hi hI => by
      obtain ⟨i1, i2, i3⟩ := hI
      have hok := okL_itr hm hc i
      obtain ⟨d, hd⟩ : ∃ d, d = itr (stp mx) (24 * r) i c := ⟨_, rfl⟩
      rw [← hd] at i2 i3 hok
      obtain ⟨k1, k2⟩ := hok
      have em : f_Least_mayBecomeLess b.2.2.1 1 = some (if 1 < d.1 then 1 else 0) := by
        unfold f_Least_mayBecomeLess
        rw [i3, chk_pos (by omega), chk_pos (by decide)]
        by_cases q : d.1 ≤ 1
        · rw [if_pos q, if_neg (by omega)]
        · rw [if_neg q, if_pos (by omega)]
      by_cases q : 1 < d.1
      · left
        obtain ⟨s', sl', g1, g2⟩ := mostLeft_eq i1 p r i hr hi b.2.2.2
        have hv := hm (24 * r + i)
        rw [← hmx r i hr hi] at g1
        have hs : itr (stp mx) (24 * r) (i + 1) c = stp mx (24 * r + i) d := by rw [itr_succ, ← hd]
        refine ⟨(s', if mx (24 * r + i) < b.2.2.1 then 100 * (r : Int) + i else b.2.1, if mx (24 * r + i) < b.2.2.1 then mx (24 * r + i) else b.2.2.1, sl'), ?_, g2, ?_, ?_⟩
        · show f_Search_bestLook_L29 (f + 1) n b.1 F P b.2.1 b.2.2.1 b.2.2.2 (sMask p 24) r i = _
          rw [f_Search_bestLook_L29, chk_pos (by omega), if_neg (by omega), gb em, if_pos q, bnd_eq g1, bnd_eq (offer_eq _ _ _ _ (by omega) (by show inR (mx (24 * r + i)); omega))]
        · show (if mx (24 * r + i) < b.2.2.1 then 100 * (r : Int) + i else b.2.1) = _
          rw [hs, i3, i2]
          unfold stp
          by_cases z : d.1 ≤ mx (24 * r + i)
          · rw [if_pos z, if_neg (by omega)]
          · rw [if_neg z, if_pos (by omega)]
            exact (enc_at r i hi).symm
        · show (if mx (24 * r + i) < b.2.2.1 then mx (24 * r + i) else b.2.2.1) = _
          rw [hs, i3]
          unfold stp
          by_cases z : d.1 ≤ mx (24 * r + i)
          · rw [if_pos z, if_neg (by omega)]
          · rw [if_neg z, if_pos (by omega)]
      · right
        have hid : itr (stp mx) (24 * r) 24 c = d := by
          have := itr_add (stp mx) (24 * r) i c (24 - i)
          rw [show i + (24 - i) = 24 by omega, ← hd] at this
          rw [this]
          refine stp_id (24 - i) (24 * r + i) d (fun j h1 h2 => ?_)
          have h3 := hm j
          by_cases z : 0 < fb_ct p 24
          · have := hm1 z j (by omega)
            omega
          · omega
        refine ⟨(b.1, b.2.1, b.2.2.1, b.2.2.2), ?_, i1, by rw [hid]; exact i2, by rw [hid]; exact i3⟩
        show f_Search_bestLook_L29 (f + 1) n b.1 F P b.2.1 b.2.2.1 b.2.2.2 (sMask p 24) r i = _
        rw [f_Search_bestLook_L29, chk_pos (by omega), if_neg (by omega), gb em, if_neg q])
    (fun f b hI => by
      refine ⟨(b.1, b.2.1, b.2.2.1, b.2.2.2), ?_, hI⟩
      show f_Search_bestLook_L29 (f + 1) n b.1 F P b.2.1 b.2.2.1 b.2.2.2 (sMask p 24) r ((24 : Nat) : Int) = _
      rw [f_Search_bestLook_L29, chk_pos (by decide), if_pos (by decide)])
    24 0 (st, enc c.2, c.1, sl) 5000 (by omega) (by omega) ⟨hV, rfl, rfl⟩
  obtain ⟨q1, q2, q3, q4⟩ := q
  dsimp only at e2 e3 e4
  subst e3 e4
  exact ⟨q1, q4, e1, e2⟩
theorem look_all {n : Nat} {st : Int} {F P : Nat → Int} (hV : VS n F P st) (p : Nat → Bool) (mx : Nat → Int) (hmx : ∀ r x : Nat, r < 5 → x < 24 → mx (24 * r + x) = mxS p (fun h => sTold F P (h : Nat) n r x)) (hm : ∀ j, 0 ≤ mx j ∧ mx j ≤ (fb_ct p 24 : Int)) (hm1 : 0 < fb_ct p 24 → ∀ j, j < 120 → 1 ≤ mx j)
    (sl : Nat → Int) : ∃ s' sl', f_Search_bestLook_L21 5000 n st F P (-4) (fb_ct p 24 : Int) sl (sMask p 24) 0 = some (s', enc (itr (stp mx) 0 120 ((fb_ct p 24 : Int), -4)).2, (itr (stp mx) 0 120 ((fb_ct p 24 : Int), -4)).1, sl') := by
  have h0 : okL mx (fb_ct p 24) 0 ((fb_ct p 24 : Int), -4) := ⟨by show (0 : Int) ≤ _ ∧ _; omega, Or.inl rfl⟩
  obtain ⟨q, e1, e2, e3⟩ := lupE (fun fuel (b : Int × Int × Int × (Nat → Int)) i => f_Search_bestLook_L21 fuel n b.1 F P b.2.1 b.2.2.1 b.2.2.2 (sMask p 24) i) 5
    (fun i b => VS n F P b.1 ∧ b.2.1 = enc (itr (stp mx) 0 (24 * i) ((fb_ct p 24 : Int), -4)).2 ∧ b.2.2.1 = (itr (stp mx) 0 (24 * i) ((fb_ct p 24 : Int), -4)).1) (fun q => q.2.1 = enc (itr (stp mx) 0 120 ((fb_ct p 24 : Int), -4)).2 ∧ q.2.2.1 = (itr (stp mx) 0 120 ((fb_ct p 24 : Int), -4)).1)
    (fun f i b hi hI => by
      obtain ⟨i1, i2, i3⟩ := hI
      have hok := okL_itr hm h0 (24 * i)
      rw [Nat.zero_add] at hok
      obtain ⟨s', sl', g1, g2⟩ := look_in i1 p mx hmx hm hm1 i hi _ hok b.2.2.2
      have ha := itr_add (stp mx) 0 (24 * i) ((fb_ct p 24 : Int), -4) 24
      rw [Nat.zero_add] at ha
      rw [← ha, ← i2, ← i3] at g1
      refine ⟨(s', enc (itr (stp mx) 0 (24 * i + 24) ((fb_ct p 24 : Int), -4)).2, (itr (stp mx) 0 (24 * i + 24) ((fb_ct p 24 : Int), -4)).1, sl'), ?_, g2, rfl, rfl⟩
      show f_Search_bestLook_L21 (f + 1) n b.1 F P b.2.1 b.2.2.1 b.2.2.2 (sMask p 24) i = _
      rw [f_Search_bestLook_L21, chk_pos (by omega), if_neg (by omega), bnd_eq g1])
    (fun f b hI => by
      refine ⟨(b.1, b.2.1, b.2.2.1, b.2.2.2), ?_, hI.2⟩
      show f_Search_bestLook_L21 (f + 1) n b.1 F P b.2.1 b.2.2.1 b.2.2.2 (sMask p 24) ((5 : Nat) : Int) = _
      rw [f_Search_bestLook_L21, chk_pos (by decide), if_pos (by decide)])
    5 0 (st, -4, (fb_ct p 24 : Int), sl) 5000 (by omega) (by omega) ⟨hV, rfl, rfl⟩
  obtain ⟨q1, q2, q3, q4⟩ := q
  dsimp only at e2 e3
  subst e2 e3
  exact ⟨q1, q4, e1⟩
