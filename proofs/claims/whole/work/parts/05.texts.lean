/-! the six texts: length and charAt, by hand -/
def strLenZ (k : Nat) : Int := ((strLen.getD k 0 : Nat) : Int)
def strChZ (k j : Nat) : Int := ((strByt.getD k []).getD j 0).toInt
theorem strLen_le (k : Nat) : strLen.getD k 0 ≤ 6 := by
  rcases Nat.lt_or_ge k 6 with h | h
  · revert k; decide
  · rw [List.getD_eq_getElem?_getD, List.getElem?_eq_none (show strLen.length ≤ k from h)]; decide
theorem strLenZ_in (k : Nat) : inR (strLenZ k) := by
  have := strLen_le k
  unfold strLenZ; constructor <;> omega
theorem strChZ_in (k j : Nat) : inR (strChZ k j) := inR_of _
theorem zshr_0 {a : Int} (h : inR a) : zshr a 0 = a := by
  unfold zshr
  rw [show zI 0 = 0 from rfl, sb_shr0, zI_toInt h]
theorem strCh_c : ∀ k, k < 6 → ∀ j, j < 6 → (((strByt.getD k []).getD j 0 &&& 255).toUInt32 % 65536).toInt32 = (strByt.getD k []).getD j 0 ∧ narrow .char (.int ((strByt.getD k []).getD j 0)) = .int ((strByt.getD k []).getD j 0) := by decide
set_option maxHeartbeats 4000000 in
theorem c_J0_coder_7d493 (l : Launch) (D : va_G) (cy : Nat → ClassId) (sa : Nat → Nat) (k : Nat) (hk : k < 6) : CtI l yJ0_coder_7d493 wsJ0_coder_7d493 ({ frames := 0, cells := 0, slots := 0, locals := 0 }) D cy sa [.ref (sa (10 + k))] [] [] 0 := by
  refine ct_Z (ty := .byte) (cc := cJ0_coder_7d493) (maxL := 1) (by decide +kernel) rfl (Nat.le_of_ble_eq_true rfl) ?_
  intro p e s m below meth c A args QQ hx hb hml hown hts hE hDD hP KR ls hl
  have hl : lv_has ls 1 [(0, .ref (sa (10 + k)))] := hl
  have hS : va_S A s.heap s.heap [] := va_S.rf
  have q0 := hts (.fieldLink RJ0 38 "java/lang/String" "COMPACT_STRINGS" "Z") (List.mem_of_getElem? (i := 1) rfl)
  have q1 := hts (.fieldLink RJ0 15 "java/lang/String" "coder" "B") (List.mem_of_getElem? (i := 2) rfl)
  have hV := hE.2.1.2.2.2.2.2.1.1 k hk
  refine wi_gets hx hb hE.2.1.2.2.2.2.2.2.1 hS hown q0 dJ0_coder_7d493_0 ?_
  refine lv_if_eq (tgt := 13) hx hb dJ0_coder_7d493_3 (by decide) (fun c1 => absurd c1 (by decide)) (fun c1 => ?_)
  refine lv_aload_n hx hb dJ0_coder_7d493_6 rfl (lv_at hl 0 rfl) ?_
  refine vk_getf hx hb hV.2.1 hS hown q1 (fun _ h => h) dJ0_coder_7d493_7 ?_
  refine lv_goto (tgt := 14) hx hb dJ0_coder_7d493_10 (by decide) ?_
  exact KR _ _ _ _ rfl hP hS dJ0_coder_7d493_14
set_option maxHeartbeats 4000000 in
theorem c_J0_isLatin1_aae02 (l : Launch) (D : va_G) (cy : Nat → ClassId) (sa : Nat → Nat) (k : Nat) (hk : k < 6) : CtI l yJ0_isLatin1_aae02 wsJ0_isLatin1_aae02 ({ frames := 0, cells := 0, slots := 0, locals := 0 }) D cy sa [.ref (sa (10 + k))] [] [] 1 := by
  refine ct_Z (ty := .boolean) (cc := cJ0_isLatin1_aae02) (maxL := 1) (by decide +kernel) rfl (Nat.le_of_ble_eq_true rfl) ?_
  intro p e s m below meth c A args QQ hx hb hml hown hts hE hDD hP KR ls hl
  have hl : lv_has ls 1 [(0, .ref (sa (10 + k)))] := hl
  have hS : va_S A s.heap s.heap [] := va_S.rf
  have q0 := hts (.fieldLink RJ0 38 "java/lang/String" "COMPACT_STRINGS" "Z") (List.mem_of_getElem? (i := 1) rfl)
  have q1 := hts (.fieldLink RJ0 15 "java/lang/String" "coder" "B") (List.mem_of_getElem? (i := 2) rfl)
  have hV := hE.2.1.2.2.2.2.2.1.1 k hk
  refine wi_gets hx hb hE.2.1.2.2.2.2.2.2.1 hS hown q0 dJ0_isLatin1_aae02_0 ?_
  refine lv_if_eq (tgt := 17) hx hb dJ0_isLatin1_aae02_3 (by decide) (fun c1 => absurd c1 (by decide)) (fun c1 => ?_)
  refine lv_aload_n hx hb dJ0_isLatin1_aae02_6 rfl (lv_at hl 0 rfl) ?_
  refine vk_getf hx hb hV.2.1 hS hown q1 (fun _ h => h) dJ0_isLatin1_aae02_7 ?_
  refine lv_if_ne (tgt := 17) hx hb dJ0_isLatin1_aae02_10 (by decide) (fun c1 => absurd rfl c1) (fun c1 => ?_)
  refine wi_ic hx hb dJ0_isLatin1_aae02_13 ?_
  refine lv_goto (tgt := 18) hx hb dJ0_isLatin1_aae02_14 (by decide) ?_
  exact KR _ _ _ _ rfl hP hS dJ0_isLatin1_aae02_18
set_option maxHeartbeats 4000000 in
theorem c_J0_length_8abf5 (l : Launch) (D : va_G) (cy : Nat → ClassId) (sa : Nat → Nat) (k : Nat) (hk : k < 6) : CtI l yJ0_length_8abf5 wsJ0_length_8abf5 ({ frames := 1, cells := 0, slots := 0, locals := 20 }) D cy sa [.ref (sa (10 + k))] [] [] (strLenZ k) := by
  refine ct_I (cc := cJ0_length_8abf5) (maxL := 1) (by decide +kernel) rfl (Nat.le_of_ble_eq_true rfl) ?_
  intro p e s m below meth c A args QQ hx hb hml hown hts hE hDD hP KR ls hl
  have hl : lv_has ls 1 [(0, .ref (sa (10 + k)))] := hl
  have hDD : DD A [] := hDD
  have hS : va_S A s.heap s.heap [] := va_S.rf
  have q0 := hts (.fieldLink RJ0 9 "java/lang/String" "value" "[B") (List.mem_of_getElem? (i := 1) rfl)
  have hV := hE.2.1.2.2.2.2.2.1.1 k hk
  refine lv_aload_n hx hb dJ0_length_8abf5_0 rfl (lv_at hl 0 rfl) ?_
  refine vk_getf hx hb hV.2.2.1 hS hown q0 (fun _ h => h) dJ0_length_8abf5_1 ?_
  refine wi_tlen hx hb hV.2.2.2 hS dJ0_length_8abf5_4 ?_
  refine lv_aload_n hx hb dJ0_length_8abf5_5 rfl (lv_at hl 0 rfl) ?_
  refine cT_i (rest := [.int (zI (strLenZ k))]) (w2 := []) ⟨hx, hb, hml, hown, hts⟩ (c_J0_coder_7d493 l D cy sa k hk) (cwV 0 hts gJ0_length_8abf5_J0_coder_7d493 rfl rfl rfl (by decide +kernel) ⟨Nat.le_of_ble_eq_true rfl, Nat.le_of_ble_eq_true rfl⟩) hk hE hP hDD rfl hS [] rfl rfl rfl rfl hl.1 (Nat.le_of_ble_eq_true rfl) ⟨Nat.zero_le _, Nat.zero_le _⟩ rfl dJ0_length_8abf5_6 rfl (fun H locs hP hS => ?_)
  refine wi_ishr hx hb dJ0_length_8abf5_9 ?_
  rw [zshr_0 (strLenZ_in k)]
  exact KR _ _ _ _ hP hS dJ0_length_8abf5_10
set_option maxHeartbeats 4000000 in
theorem c_J3_checkIndex_8e157 (l : Launch) (D : va_G) (cy : Nat → ClassId) (sa : Nat → Nat) (i n : Int) (hi : 0 ≤ i ∧ i < n) (hn : inR n) (v : Value) (hv : v = .null ∨ ∃ t, v = .ref t) : CtI l yJ3_checkIndex_8e157 wsJ3_checkIndex_8e157 ({ frames := 0, cells := 0, slots := 0, locals := 0 }) D cy sa [.int (zI i), .int (zI n), v] [] [] i := by
  have hr : inR i := by constructor <;> omega
  have hl3 : (lg_sl [.int (zI i), .int (zI n), v]).length ≤ 3 := by
    rcases hv with rfl | ⟨t, rfl⟩ <;> exact Nat.le_of_ble_eq_true rfl
  refine ct_I (cc := cJ3_checkIndex_8e157) (maxL := 3) (by decide +kernel) rfl hl3 ?_
  intro p e s m below meth c A args QQ hx hb hml hown hts hE hDD hP KR ls hl
  have hl : lv_has ls 3 [(0, .int (zI i)), (1, .int (zI n)), (2, v)] := hl
  have hS : va_S A s.heap s.heap [] := va_S.rf
  refine lv_iload_n hx hb dJ3_checkIndex_8e157_0 rfl (lv_at hl 0 rfl) ?_
  refine wi_if_lt (tgt := 9) hx hb dJ3_checkIndex_8e157_1 (by decide) hr (fun c1 => by omega) (fun _ => ?_)
  refine lv_iload_n hx hb dJ3_checkIndex_8e157_4 rfl (lv_at hl 0 rfl) ?_
  refine lv_iload_n hx hb dJ3_checkIndex_8e157_5 rfl (lv_at hl 1 rfl) ?_
  refine wi_ic_lt (tgt := 16) hx hb dJ3_checkIndex_8e157_6 (by decide) hr hn (fun _ => ?_) (fun c1 => by omega)
  refine lv_iload_n hx hb dJ3_checkIndex_8e157_16 rfl (lv_at hl 0 rfl) ?_
  exact KR _ _ _ _ hP hS dJ3_checkIndex_8e157_17
set_option maxHeartbeats 4000000 in
theorem c_J0_checkIndex_df160 (l : Launch) (D : va_G) (cy : Nat → ClassId) (sa : Nat → Nat) (i n : Int) (hi : 0 ≤ i ∧ i < n) (hn : inR n) : CtV l yJ0_checkIndex_df160 wsJ0_checkIndex_df160 ({ frames := 1, cells := 0, slots := 0, locals := 22 }) D cy sa [.int (zI i), .int (zI n)] [] [] := by
  refine ct_V (cc := cJ0_checkIndex_df160) (maxL := 2) (by decide +kernel) rfl (Nat.le_of_ble_eq_true rfl) ?_
  intro p e s m below meth c A args QQ hx hb hml hown hts hE hDD hP KR ls hl
  have hl : lv_has ls 2 [(0, .int (zI i)), (1, .int (zI n))] := hl
  have hDD : DD A [] := hDD
  have hS : va_S A s.heap s.heap [] := va_S.rf
  have q0 := hts (.fieldLink RJ0 1053 "jdk/internal/util/Preconditions" "SIOOBE_FORMATTER" "Ljava/util/function/BiFunction;") (List.mem_of_getElem? (i := 1) rfl)
  obtain ⟨v, hv, hZ⟩ : ∃ v : Value, (v = .null ∨ ∃ t, v = .ref t) ∧ va_Z "jdk/internal/util/Preconditions" "SIOOBE_FORMATTER" "Ljava/util/function/BiFunction;" v A s s.heap := by
    rcases hE.2.1.2.2.2.2.2.2.2 with h | ⟨t, h⟩
    · exact ⟨_, Or.inl rfl, h⟩
    · exact ⟨_, Or.inr ⟨t, rfl⟩, h⟩
  have hc : v.category = 1 := by rcases hv with rfl | ⟨t, rfl⟩ <;> rfl
  refine lv_iload_n hx hb dJ0_checkIndex_df160_0 rfl (lv_at hl 0 rfl) ?_
  refine lv_iload_n hx hb dJ0_checkIndex_df160_1 rfl (lv_at hl 1 rfl) ?_
  refine wi_gets hx hb hZ hS hown q0 dJ0_checkIndex_df160_2 ?_
  refine cS_i (rest := []) (w2 := []) ⟨hx, hb, hml, hown, hts⟩ (c_J3_checkIndex_8e157 l D cy sa i n hi hn v hv) (va_cwS 3 hts gJ0_checkIndex_df160_J3_checkIndex_8e157 rfl rfl rfl (by decide +kernel) ⟨Nat.le_of_ble_eq_true rfl, Nat.le_of_ble_eq_true rfl⟩) hE hP hDD rfl hS [] rfl rfl rfl rfl hl.1 (Nat.le_of_ble_eq_true rfl) ⟨Nat.zero_le _, Nat.zero_le _⟩ rfl dJ0_checkIndex_df160_5 rfl (fun H locs hP hS => ?_)
  refine lv_pop hx hb dJ0_checkIndex_df160_8 rfl ?_
  exact KR _ _ _ _ hP hS dJ0_checkIndex_df160_9
set_option maxHeartbeats 4000000 in
theorem c_J1_charAt_3b067 (l : Launch) (D : va_G) (cy : Nat → ClassId) (sa : Nat → Nat) (k : Nat) (hk : k < 6) (i : Int) (hi : 0 ≤ i ∧ i < strLenZ k) : CtI l yJ1_charAt_3b067 wsJ1_charAt_3b067 ({ frames := 2, cells := 0, slots := 0, locals := 43 }) D cy sa [.ref (sa (20 + k)), .int (zI i)] [] [] (strChZ k i.toNat) := by
  have hj : i.toNat < 6 := by have := strLen_le k; unfold strLenZ at hi; omega
  refine ct_Z (ty := .char) (cc := cJ1_charAt_3b067) (maxL := 2) (by decide +kernel) rfl (Nat.le_of_ble_eq_true rfl) ?_
  intro p e s m below meth c A args QQ hx hb hml hown hts hE hDD hP KR ls hl
  have hl : lv_has ls 2 [(0, .ref (sa (20 + k))), (1, .int (zI i))] := hl
  have hDD : DD A [] := hDD
  have hS : va_S A s.heap s.heap [] := va_S.rf
  have hV := hE.2.1.2.2.2.2.2.1.1 k hk
  have hs := strCh_c k hk i.toNat hj
  refine lv_iload_n hx hb dJ1_charAt_3b067_0 rfl (lv_at hl 1 rfl) ?_
  refine lv_aload_n hx hb dJ1_charAt_3b067_1 rfl (lv_at hl 0 rfl) ?_
  refine wi_tlen hx hb hV.2.2.2 hS dJ1_charAt_3b067_2 ?_
  refine cS_v (rest := []) (w2 := []) ⟨hx, hb, hml, hown, hts⟩ (c_J0_checkIndex_df160 l D cy sa i (strLenZ k) hi (strLenZ_in k)) (va_cwS 2 hts gJ1_charAt_3b067_J0_checkIndex_df160 rfl rfl rfl (by decide +kernel) ⟨Nat.le_of_ble_eq_true rfl, Nat.le_of_ble_eq_true rfl⟩) hE hP hDD rfl hS [] rfl rfl rfl rfl hl.1 (Nat.le_of_ble_eq_true rfl) ⟨Nat.zero_le _, Nat.zero_le _⟩ rfl dJ1_charAt_3b067_3 rfl (fun H locs hP hS => ?_)
  refine lv_aload_n hx hb dJ1_charAt_3b067_6 rfl (lv_at hl 0 rfl) ?_
  refine lv_iload_n hx hb dJ1_charAt_3b067_7 rfl (lv_at hl 1 rfl) ?_
  refine va_tb (v := .int ((strByt.getD k []).getD i.toNat 0)) hx hb hV.2.2.2 hS (zI_in hi (by have := strLen_le k; omega)) (by rw [zI_cl hi (by have := strLen_le k; omega)]) dJ1_charAt_3b067_8 ?_
  refine lv_sipush (v := 255) hx hb dJ1_charAt_3b067_9 (by decide) ?_
  refine lv_iand hx hb dJ1_charAt_3b067_12 ?_
  refine lv_i2c (v := (strByt.getD k []).getD i.toNat 0) hx hb dJ1_charAt_3b067_13 hs.1 ?_
  have e9 : (strByt.getD k []).getD i.toNat 0 = zI (strChZ k i.toNat) := (zI_of _).symm
  have hn := hs.2
  rw [e9] at hn ⊢
  exact KR _ _ _ _ hn hP hS dJ1_charAt_3b067_14
set_option maxHeartbeats 4000000 in
theorem c_J0_charAt_5068e (l : Launch) (D : va_G) (cy : Nat → ClassId) (sa : Nat → Nat) (k : Nat) (hk : k < 6) (i : Int) (hi : 0 ≤ i ∧ i < strLenZ k) : CtI l yJ0_charAt_5068e wsJ0_charAt_5068e ({ frames := 3, cells := 0, slots := 0, locals := 64 }) D cy sa [.ref (sa (10 + k)), .int (zI i)] [] [] (strChZ k i.toNat) := by
  have hj : i.toNat < 6 := by have := strLen_le k; unfold strLenZ at hi; omega
  refine ct_Z (ty := .char) (cc := cJ0_charAt_5068e) (maxL := 2) (by decide +kernel) rfl (Nat.le_of_ble_eq_true rfl) ?_
  intro p e s m below meth c A args QQ hx hb hml hown hts hE hDD hP KR ls hl
  have hl : lv_has ls 2 [(0, .ref (sa (10 + k))), (1, .int (zI i))] := hl
  have hDD : DD A [] := hDD
  have hS : va_S A s.heap s.heap [] := va_S.rf
  have hV := hE.2.1.2.2.2.2.2.1.1 k hk
  have q0 := hts (.fieldLink RJ0 9 "java/lang/String" "value" "[B") (List.mem_of_getElem? (i := 1) rfl)
  have hs := strCh_c k hk i.toNat hj
  refine lv_aload_n hx hb dJ0_charAt_5068e_0 rfl (lv_at hl 0 rfl) ?_
  refine cT_i (rest := []) (w2 := []) ⟨hx, hb, hml, hown, hts⟩ (c_J0_isLatin1_aae02 l D cy sa k hk) (cwV 0 hts gJ0_charAt_5068e_J0_isLatin1_aae02 rfl rfl rfl (by decide +kernel) ⟨Nat.le_of_ble_eq_true rfl, Nat.le_of_ble_eq_true rfl⟩) hk hE hP hDD rfl hS [] rfl rfl rfl rfl hl.1 (Nat.le_of_ble_eq_true rfl) ⟨Nat.zero_le _, Nat.zero_le _⟩ rfl dJ0_charAt_5068e_1 rfl (fun H locs hP hS => ?_)
  refine wi_if_eq (tgt := 16) hx hb dJ0_charAt_5068e_4 (by decide) (by decide) (fun c1 => absurd c1 (by decide)) (fun c1 => ?_)
  refine lv_aload_n hx hb dJ0_charAt_5068e_7 rfl (lv_at hl 0 rfl) ?_
  refine vk_getf hx hb hV.2.2.1 hS hown q0 (fun _ h => h) dJ0_charAt_5068e_8 ?_
  refine lv_iload_n hx hb dJ0_charAt_5068e_11 rfl (lv_at hl 1 rfl) ?_
  refine cS_i (rest := []) (w2 := []) ⟨hx, hb, hml, hown, hts⟩ (c_J1_charAt_3b067 l D cy sa k hk i hi) (va_cwS 2 hts gJ0_charAt_5068e_J1_charAt_3b067 rfl rfl rfl (by decide +kernel) ⟨Nat.le_of_ble_eq_true rfl, Nat.le_of_ble_eq_true rfl⟩) hE hP hDD rfl hS [] rfl rfl rfl rfl hl.1 (Nat.le_of_ble_eq_true rfl) ⟨Nat.zero_le _, Nat.zero_le _⟩ rfl dJ0_charAt_5068e_12 rfl (fun H locs hP hS => ?_)
  have e9 : (strByt.getD k []).getD i.toNat 0 = zI (strChZ k i.toNat) := (zI_of _).symm
  have hn := hs.2
  rw [e9] at hn
  exact KR _ _ _ _ hn hP hS dJ0_charAt_5068e_15
