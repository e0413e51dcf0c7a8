abbrev wd_X9_within (cy : Nat → ClassId) : va_W := []
set_option maxHeartbeats 4000000 in
set_option maxRecDepth 100000 in
theorem c_X9_within (l : Launch) (D : va_G) (cy : Nat → ClassId) (sa : Nat → Nat) (x0 : Int) (x1 : Int) (x2 : Int) (o : Int) (h : f_HH_within x0 x1 x2 = some o) : CtI l yX9_within wsX9_within ({ frames := 0, cells := 0, slots := 0, locals := 0 }) D cy sa [.int (zI x0), .int (zI x1), .int (zI x2)] (wd_X9_within cy ) (wd_X9_within cy ) o := by
  refine ct_Z (cc := cX9_within) (maxL := 3) (plainFor_of_name (by decide)) rfl (Nat.le_of_ble_eq_true rfl) ?_
  intro p e s m below meth c A args QQ hx hb hml hown hts hE hDD hP KR ls hl
  have hl : lv_has ls 3 [(0, .int (zI x0)), (1, .int (zI x1)), (2, .int (zI x2))] := hl
  have hDD : DD A [] := hDD
  have hS : va_S A s.heap s.heap [] := va_S.rf
  refine lv_iload_n hx hb dX9_within_0 rfl (lv_at hl 0 rfl) ?_
  refine lv_iload_n hx hb dX9_within_1 rfl (lv_at hl 1 rfl) ?_
  obtain ⟨hr1, h⟩ := chk_some h
  obtain ⟨hr2, h⟩ := chk_some h
  refine wi_ic_lt (tgt := 14) hx hb dX9_within_2 (by decide) hr1 hr2 (fun c4 => ?_) (fun c4 => ?_)
  · have h := ite_t c4 h
    refine wi_ic hx hb dX9_within_14 ?_
    obtain rfl := Option.some.inj h
    exact KR _ _ _ _ (z01 (Or.inl rfl)) hP hS dX9_within_15
  · have h := ite_f c4 h
    refine lv_iload_n hx hb dX9_within_5 rfl (lv_at hl 0 rfl) ?_
    refine lv_iload_n hx hb dX9_within_6 rfl (lv_at hl 2 rfl) ?_
    obtain ⟨hr5, h⟩ := chk_some h
    refine wi_ic_gt (tgt := 14) hx hb dX9_within_7 (by decide) hr1 hr5 (fun c7 => ?_) (fun c7 => ?_)
    · have h := ite_t c7 h
      refine wi_ic hx hb dX9_within_14 ?_
      obtain rfl := Option.some.inj h
      exact KR _ _ _ _ (z01 (Or.inl rfl)) hP hS dX9_within_15
    · have h := ite_f c7 h
      refine wi_ic hx hb dX9_within_10 ?_
      refine lv_goto (tgt := 15) hx hb dX9_within_11 (by decide) ?_
      obtain rfl := Option.some.inj h
      exact KR _ _ _ _ (z01 (Or.inr rfl)) hP hS dX9_within_15
abbrev wd_X7_isFull (cy : Nat → ClassId) (a_v : Nat) (a_v_bytes : Nat) (v_used : Int) : va_W := [(a_v, .inr (7, [.ref a_v_bytes, .int (zI v_used)]))]
set_option maxHeartbeats 4000000 in
set_option maxRecDepth 100000 in
theorem c_X7_isFull (l : Launch) (D : va_G) (cy : Nat → ClassId) (sa : Nat → Nat) (a_v : Nat) (a_v_bytes : Nat) (v_used : Int) (o : Int) (h : f_Tape_isFull v_used = some o) : CtI l yX7_isFull wsX7_isFull ({ frames := 0, cells := 0, slots := 0, locals := 0 }) D cy sa [.ref a_v] (wd_X7_isFull cy a_v a_v_bytes v_used) (wd_X7_isFull cy a_v a_v_bytes v_used) o := by
  refine ct_Z (cc := cX7_isFull) (maxL := 1) (plainFor_of_name (by decide)) rfl (Nat.le_of_ble_eq_true rfl) ?_
  intro p e s m below meth c A args QQ hx hb hml hown hts hE hDD hP KR ls hl
  have hl : lv_has ls 1 [(0, .ref a_v)] := hl
  have hDD : DD A [a_v] := hDD
  have hS : va_S A s.heap s.heap [] := va_S.rf
  have q0 := hts (.fieldLink RX7 15 "HatHours$Tape" "used" "I") (List.mem_of_getElem? (i := 1) rfl)
  have iX7 : ∀ w ∈ u_ws RX7 TX7 2, w ∈ wsX7_isFull := in_slice 2 2 rfl
  refine lv_aload_n hx hb dX7_isFull_0 rfl (lv_at hl 0 rfl) ?_
  refine wi_get (v := .int (zI v_used)) hx hb hts iX7 hown hE hP 0 rfl rfl 1 (by decide) q0 rfl dX7_isFull_1 ?_
  refine wi_si hx hb dX7_isFull_4 (by decide) ?_
  obtain ⟨hr1, h⟩ := chk_some h
  refine wi_ic_lt (tgt := 14) hx hb dX7_isFull_7 (by decide) hr1 (by decide) (fun c3 => ?_) (fun c3 => ?_)
  · have h := ite_t c3 h
    refine wi_ic hx hb dX7_isFull_14 ?_
    obtain rfl := Option.some.inj h
    exact KR _ _ _ _ (z01 (Or.inl rfl)) hP hS dX7_isFull_15
  · have h := ite_f c3 h
    refine wi_ic hx hb dX7_isFull_10 ?_
    refine lv_goto (tgt := 15) hx hb dX7_isFull_11 (by decide) ?_
    obtain rfl := Option.some.inj h
    exact KR _ _ _ _ (z01 (Or.inr rfl)) hP hS dX7_isFull_15
abbrev wd_X7_append (cy : Nat → ClassId) (a_v : Nat) (a_v_bytes : Nat) (v_used : Int) (v_bytes : Nat → Int) : va_W := [(a_v, .inr (7, [.ref a_v_bytes, .int (zI v_used)])), (a_v_bytes, .inl (cy 1, 160, .inl (fun j => zI (v_bytes j))))]
set_option maxHeartbeats 4000000 in
set_option maxRecDepth 100000 in
theorem c_X7_append (l : Launch) (D : va_G) (cy : Nat → ClassId) (sa : Nat → Nat) (a_v : Nat) (a_v_bytes : Nat) (v_used : Int) (v_bytes : Nat → Int) (x1 : Int) (o : Int × (Nat → Int)) (h : f_Tape_append v_used v_bytes x1 = some o) : CtV l yX7_append wsX7_append ({ frames := 1, cells := 0, slots := 0, locals := 20 }) D cy sa [.ref a_v, .int (zI x1)] (wd_X7_append cy a_v a_v_bytes v_used v_bytes) (wd_X7_append cy a_v a_v_bytes o.1 o.2)  := by
  refine ct_V (cc := cX7_append) (maxL := 2) (plainFor_of_name (by decide)) rfl (Nat.le_of_ble_eq_true rfl) ?_
  intro p e s m below meth c A args QQ hx hb hml hown hts hE hDD hP KR ls hl
  have hl : lv_has ls 2 [(0, .ref a_v), (1, .int (zI x1))] := hl
  have hDD : DD A [a_v, a_v_bytes] := hDD
  have hS : va_S A s.heap s.heap [] := va_S.rf
  have q0 := hts (.fieldLink RX7 11 "HatHours$Tape" "bytes" "[B") (List.mem_of_getElem? (i := 1) rfl)
  have q1 := hts (.fieldLink RX7 15 "HatHours$Tape" "used" "I") (List.mem_of_getElem? (i := 2) rfl)
  have iX7 : ∀ w ∈ u_ws RX7 TX7 2, w ∈ wsX7_append := in_slice 8 2 rfl
  refine lv_aload_n hx hb dX7_append_0 rfl (lv_at hl 0 rfl) ?_
  obtain ⟨o1, hc2, h⟩ := bnd_some h
  refine cV_i (rest := []) (w2 := (wd_X7_append cy a_v a_v_bytes v_used v_bytes)) ⟨hx, hb, hml, hown, hts⟩ (c_X7_isFull l D cy sa a_v a_v_bytes v_used o1 hc2) (cwV 0 hts gX7_append_X7_isFull rfl rfl rfl (by decide +kernel) ⟨Nat.le_of_ble_eq_true rfl, Nat.le_of_ble_eq_true rfl⟩) rfl rfl rfl hE hP hDD rfl hS [0] rfl rfl rfl rfl hl.1 (Nat.le_of_ble_eq_true rfl) ⟨Nat.zero_le _, Nat.zero_le _⟩ rfl dX7_append_1 rfl (fun H locs hP hS => ?_)
  obtain ⟨hr3, h⟩ := chk_some h
  refine wi_if_ne (tgt := 28) hx hb dX7_append_4 (by decide) hr3 (fun c5 => ?_) (fun c5 => ?_)
  · have h := ite_f c5 h
    obtain rfl := Option.some.inj h
    exact KR _ _ _ _ hP hS dX7_append_28
  · have h := ite_t c5 h
    refine lv_aload_n hx hb dX7_append_7 rfl (lv_at hl 0 rfl) ?_
    refine wi_get (v := .ref a_v_bytes) hx hb hts iX7 hown hE hP 0 rfl rfl 0 (by decide) q0 rfl dX7_append_8 ?_
    refine lv_aload_n hx hb dX7_append_11 rfl (lv_at hl 0 rfl) ?_
    refine wi_get (v := .int (zI v_used)) hx hb hts iX7 hown hE hP 0 rfl rfl 1 (by decide) q1 rfl dX7_append_12 ?_
    refine lv_iload_n hx hb dX7_append_15 rfl (lv_at hl 1 rfl) ?_
    refine wi_i2b hx hb dX7_append_16 ?_
    obtain ⟨hk6, h⟩ := chk_some h
    refine wi_bast (w2 := (wd_X7_append cy a_v a_v_bytes v_used (upZ v_bytes (v_used).toNat (z8 (z8 x1))))) hx hb hE hP hDD rfl hS 1 rfl (by decide) hk6 dX7_append_17 rfl (fun H locs hP hS => ?_)
    refine lv_aload_n hx hb dX7_append_18 rfl (lv_at hl 0 rfl) ?_
    refine lv_dup hx hb dX7_append_19 rfl ?_
    refine wi_get (v := .int (zI v_used)) hx hb hts iX7 hown hE hP 0 rfl rfl 1 (by decide) q1 rfl dX7_append_20 ?_
    refine wi_ic hx hb dX7_append_23 ?_
    refine wi_iadd hx hb dX7_append_24 ?_
    refine wi_put (ty := .int) (v := .int (zI (v_used + 1))) (w2 := (wd_X7_append cy a_v a_v_bytes (v_used + 1) (upZ v_bytes (v_used).toNat (z8 (z8 x1))))) hx hb hts iX7 tyX7 tyX7_ok nmX7 hown hE hP hDD rfl hS 0 rfl rfl 1 (by decide) q1 rfl (by decide +kernel) rfl rfl (Nat.le_of_ble_eq_true rfl) dX7_append_25 rfl (fun H locs hP hS => ?_)
    obtain rfl := Option.some.inj h
    exact KR _ _ _ _ hP hS dX7_append_28
abbrev wd_X7_size (cy : Nat → ClassId) (a_v : Nat) (a_v_bytes : Nat) (v_used : Int) : va_W := [(a_v, .inr (7, [.ref a_v_bytes, .int (zI v_used)]))]
set_option maxHeartbeats 4000000 in
set_option maxRecDepth 100000 in
theorem c_X7_size (l : Launch) (D : va_G) (cy : Nat → ClassId) (sa : Nat → Nat) (a_v : Nat) (a_v_bytes : Nat) (v_used : Int) (o : Int) (h : f_Tape_size v_used = some o) : CtI l yX7_size wsX7_size ({ frames := 0, cells := 0, slots := 0, locals := 0 }) D cy sa [.ref a_v] (wd_X7_size cy a_v a_v_bytes v_used) (wd_X7_size cy a_v a_v_bytes v_used) o := by
  refine ct_I (cc := cX7_size) (maxL := 1) (plainFor_of_name (by decide)) rfl (Nat.le_of_ble_eq_true rfl) ?_
  intro p e s m below meth c A args QQ hx hb hml hown hts hE hDD hP KR ls hl
  have hl : lv_has ls 1 [(0, .ref a_v)] := hl
  have hDD : DD A [a_v] := hDD
  have hS : va_S A s.heap s.heap [] := va_S.rf
  have q0 := hts (.fieldLink RX7 15 "HatHours$Tape" "used" "I") (List.mem_of_getElem? (i := 1) rfl)
  have iX7 : ∀ w ∈ u_ws RX7 TX7 2, w ∈ wsX7_size := in_slice 2 2 rfl
  refine lv_aload_n hx hb dX7_size_0 rfl (lv_at hl 0 rfl) ?_
  refine wi_get (v := .int (zI v_used)) hx hb hts iX7 hown hE hP 0 rfl rfl 1 (by decide) q0 rfl dX7_size_1 ?_
  obtain rfl := Option.some.inj h
  exact KR _ _ _ _ hP hS dX7_size_4
abbrev wd_X7_cut (cy : Nat → ClassId) (a_v : Nat) (a_v_bytes : Nat) (v_used : Int) : va_W := [(a_v, .inr (7, [.ref a_v_bytes, .int (zI v_used)]))]
set_option maxHeartbeats 4000000 in
set_option maxRecDepth 100000 in
theorem c_X7_cut (l : Launch) (D : va_G) (cy : Nat → ClassId) (sa : Nat → Nat) (a_v : Nat) (a_v_bytes : Nat) (v_used : Int) (x1 : Int) (o : Int) (h : f_Tape_cut v_used x1 = some o) : CtV l yX7_cut wsX7_cut ({ frames := 1, cells := 0, slots := 0, locals := 22 }) D cy sa [.ref a_v, .int (zI x1)] (wd_X7_cut cy a_v a_v_bytes v_used) (wd_X7_cut cy a_v a_v_bytes o)  := by
  refine ct_V (cc := cX7_cut) (maxL := 2) (plainFor_of_name (by decide)) rfl (Nat.le_of_ble_eq_true rfl) ?_
  intro p e s m below meth c A args QQ hx hb hml hown hts hE hDD hP KR ls hl
  have hl : lv_has ls 2 [(0, .ref a_v), (1, .int (zI x1))] := hl
  have hDD : DD A [a_v] := hDD
  have hS : va_S A s.heap s.heap [] := va_S.rf
  have q0 := hts (.fieldLink RX7 15 "HatHours$Tape" "used" "I") (List.mem_of_getElem? (i := 1) rfl)
  have q1 := hts (.initialized RX9) (List.mem_of_getElem? (i := 3) rfl)
  have q2 := hts (.static yX9_within) (List.mem_of_getElem? (i := 2) rfl)
  have iX7 : ∀ w ∈ u_ws RX7 TX7 2, w ∈ wsX7_cut := in_slice 5 2 rfl
  refine lv_iload_n hx hb dX7_cut_0 rfl (lv_at hl 1 rfl) ?_
  refine wi_ic hx hb dX7_cut_1 ?_
  refine lv_aload_n hx hb dX7_cut_2 rfl (lv_at hl 0 rfl) ?_
  refine wi_get (v := .int (zI v_used)) hx hb hts iX7 hown hE hP 0 rfl rfl 1 (by decide) q0 rfl dX7_cut_3 ?_
  obtain ⟨o1, hc2, h⟩ := bnd_some h
  refine cN_i (rest := []) (w2 := (wd_X7_cut cy a_v a_v_bytes v_used)) ⟨hx, hb, hml, hown, hts⟩ (c_X9_within l D cy sa x1 0 v_used o1 hc2) ⟨va_cnB 3 hts gX7_cut_X9_within_n23 rfl rfl rfl (hE.2.1.1 ("HatHours$Tape", 23, ⟨"HatHours", "within", "(III)Z"⟩, "HatHours") (List.mem_of_getElem? (i := 12) rfl)) q1 (by decide +kernel) ⟨Nat.le_of_ble_eq_true rfl, Nat.le_of_ble_eq_true rfl⟩, q2, trivial⟩ hE hP hDD rfl hS [] rfl rfl rfl rfl hl.1 (Nat.le_of_ble_eq_true rfl) ⟨Nat.zero_le _, Nat.zero_le _⟩ rfl dX7_cut_6 rfl (fun H locs hP hS => ?_)
  obtain ⟨hr3, h⟩ := chk_some h
  refine wi_if_eq (tgt := 17) hx hb dX7_cut_9 (by decide) hr3 (fun c5 => ?_) (fun c5 => ?_)
  · have h := ite_t c5 h
    obtain rfl := Option.some.inj h
    exact KR _ _ _ _ hP hS dX7_cut_17
  · have h := ite_f c5 h
    refine lv_aload_n hx hb dX7_cut_12 rfl (lv_at hl 0 rfl) ?_
    refine lv_iload_n hx hb dX7_cut_13 rfl (lv_at hl 1 rfl) ?_
    refine wi_put (ty := .int) (v := .int (zI x1)) (w2 := (wd_X7_cut cy a_v a_v_bytes x1)) hx hb hts iX7 tyX7 tyX7_ok nmX7 hown hE hP hDD rfl hS 0 rfl rfl 1 (by decide) q0 rfl (by decide +kernel) rfl rfl (Nat.le_of_ble_eq_true rfl) dX7_cut_14 rfl (fun H locs hP hS => ?_)
    obtain rfl := Option.some.inj h
    exact KR _ _ _ _ hP hS dX7_cut_17
abbrev wd_X5_clear (cy : Nat → ClassId) (a_v : Nat) (a_v_facts : Nat) (a_v_places : Nat) (v_boxes : Int) (v_startsAt : Int) : va_W := [(a_v, .inr (5, [.ref a_v_facts, .ref a_v_places, .int (zI v_boxes), .int (zI v_startsAt)]))]
set_option maxHeartbeats 4000000 in
set_option maxRecDepth 100000 in
theorem c_X5_clear (l : Launch) (D : va_G) (cy : Nat → ClassId) (sa : Nat → Nat) (a_v : Nat) (a_v_facts : Nat) (a_v_places : Nat) (v_boxes : Int) (v_startsAt : Int) (o : Int × Int) (h : f_Shop_clear v_boxes v_startsAt = some o) : CtV l yX5_clear wsX5_clear ({ frames := 0, cells := 0, slots := 0, locals := 0 }) D cy sa [.ref a_v] (wd_X5_clear cy a_v a_v_facts a_v_places v_boxes v_startsAt) (wd_X5_clear cy a_v a_v_facts a_v_places o.1 o.2)  := by
  refine ct_V (cc := cX5_clear) (maxL := 1) (plainFor_of_name (by decide)) rfl (Nat.le_of_ble_eq_true rfl) ?_
  intro p e s m below meth c A args QQ hx hb hml hown hts hE hDD hP KR ls hl
  have hl : lv_has ls 1 [(0, .ref a_v)] := hl
  have hDD : DD A [a_v] := hDD
  have hS : va_S A s.heap s.heap [] := va_S.rf
  have q0 := hts (.fieldLink RX5 18 "HatHours$Shop" "boxes" "I") (List.mem_of_getElem? (i := 1) rfl)
  have q1 := hts (.fieldLink RX5 22 "HatHours$Shop" "startsAt" "I") (List.mem_of_getElem? (i := 2) rfl)
  have iX5 : ∀ w ∈ u_ws RX5 TX5 4, w ∈ wsX5_clear := in_slice 3 4 rfl
  refine lv_aload_n hx hb dX5_clear_0 rfl (lv_at hl 0 rfl) ?_
  refine wi_ic hx hb dX5_clear_1 ?_
  refine wi_put (ty := .int) (v := .int (zI 0)) (w2 := (wd_X5_clear cy a_v a_v_facts a_v_places 0 v_startsAt)) hx hb hts iX5 tyX5 tyX5_ok nmX5 hown hE hP hDD rfl hS 0 rfl rfl 2 (by decide) q0 rfl (by decide +kernel) rfl rfl (Nat.le_of_ble_eq_true rfl) dX5_clear_2 rfl (fun H locs hP hS => ?_)
  refine lv_aload_n hx hb dX5_clear_5 rfl (lv_at hl 0 rfl) ?_
  refine wi_bi hx hb dX5_clear_6 (by decide) ?_
  refine wi_put (ty := .int) (v := .int (zI 6)) (w2 := (wd_X5_clear cy a_v a_v_facts a_v_places 0 6)) hx hb hts iX5 tyX5 tyX5_ok nmX5 hown hE hP hDD rfl hS 0 rfl rfl 3 (by decide) q1 rfl (by decide +kernel) rfl rfl (Nat.le_of_ble_eq_true rfl) dX5_clear_8 rfl (fun H locs hP hS => ?_)
  obtain rfl := Option.some.inj h
  exact KR _ _ _ _ hP hS dX5_clear_11
abbrev wd_X7_at (cy : Nat → ClassId) (a_v : Nat) (a_v_bytes : Nat) (v_used : Int) (v_bytes : Nat → Int) : va_W := [(a_v, .inr (7, [.ref a_v_bytes, .int (zI v_used)])), (a_v_bytes, .inl (cy 1, 160, .inl (fun j => zI (v_bytes j))))]
set_option maxHeartbeats 4000000 in
set_option maxRecDepth 100000 in
theorem c_X7_at (l : Launch) (D : va_G) (cy : Nat → ClassId) (sa : Nat → Nat) (a_v : Nat) (a_v_bytes : Nat) (v_used : Int) (v_bytes : Nat → Int) (x1 : Int) (o : Int) (h : f_Tape_at v_used v_bytes x1 = some o) : CtI l yX7_at wsX7_at ({ frames := 0, cells := 0, slots := 0, locals := 0 }) D cy sa [.ref a_v, .int (zI x1)] (wd_X7_at cy a_v a_v_bytes v_used v_bytes) (wd_X7_at cy a_v a_v_bytes v_used v_bytes) o := by
  refine ct_I (cc := cX7_at) (maxL := 2) (plainFor_of_name (by decide)) rfl (Nat.le_of_ble_eq_true rfl) ?_
  intro p e s m below meth c A args QQ hx hb hml hown hts hE hDD hP KR ls hl
  have hl : lv_has ls 2 [(0, .ref a_v), (1, .int (zI x1))] := hl
  have hDD : DD A [a_v, a_v_bytes] := hDD
  have hS : va_S A s.heap s.heap [] := va_S.rf
  have q0 := hts (.fieldLink RX7 15 "HatHours$Tape" "used" "I") (List.mem_of_getElem? (i := 1) rfl)
  have q1 := hts (.fieldLink RX7 11 "HatHours$Tape" "bytes" "[B") (List.mem_of_getElem? (i := 2) rfl)
  have iX7 : ∀ w ∈ u_ws RX7 TX7 2, w ∈ wsX7_at := in_slice 3 2 rfl
  refine lv_iload_n hx hb dX7_at_0 rfl (lv_at hl 1 rfl) ?_
  obtain ⟨hr1, h⟩ := chk_some h
  refine wi_if_lt (tgt := 21) hx hb dX7_at_1 (by decide) hr1 (fun c3 => ?_) (fun c3 => ?_)
  · have h := ite_t c3 h
    refine wi_bi hx hb dX7_at_21 (by decide) ?_
    obtain rfl := Option.some.inj h
    exact KR _ _ _ _ hP hS dX7_at_23
  · have h := ite_f c3 h
    refine lv_iload_n hx hb dX7_at_4 rfl (lv_at hl 1 rfl) ?_
    refine lv_aload_n hx hb dX7_at_5 rfl (lv_at hl 0 rfl) ?_
    refine wi_get (v := .int (zI v_used)) hx hb hts iX7 hown hE hP 0 rfl rfl 1 (by decide) q0 rfl dX7_at_6 ?_
    obtain ⟨hr4, h⟩ := chk_some h
    refine wi_ic_ge (tgt := 21) hx hb dX7_at_9 (by decide) hr1 hr4 (fun c6 => ?_) (fun c6 => ?_)
    · have h := ite_t c6 h
      refine wi_bi hx hb dX7_at_21 (by decide) ?_
      obtain rfl := Option.some.inj h
      exact KR _ _ _ _ hP hS dX7_at_23
    · have h := ite_f c6 h
      refine lv_aload_n hx hb dX7_at_12 rfl (lv_at hl 0 rfl) ?_
      refine wi_get (v := .ref a_v_bytes) hx hb hts iX7 hown hE hP 0 rfl rfl 0 (by decide) q1 rfl dX7_at_13 ?_
      refine lv_iload_n hx hb dX7_at_16 rfl (lv_at hl 1 rfl) ?_
      obtain ⟨hk7, h⟩ := chk_some h
      refine wi_bald hx hb hE hP 1 rfl (by decide) hk7 dX7_at_17 ?_
      refine lv_goto (tgt := 23) hx hb dX7_at_18 (by decide) ?_
      obtain rfl := Option.some.inj h
      exact KR _ _ _ _ hP hS dX7_at_23
abbrev wd_X5_has (cy : Nat → ClassId) (a_v : Nat) (a_v_facts : Nat) (a_v_places : Nat) (v_boxes : Int) (v_startsAt : Int) : va_W := [(a_v, .inr (5, [.ref a_v_facts, .ref a_v_places, .int (zI v_boxes), .int (zI v_startsAt)]))]
set_option maxHeartbeats 4000000 in
set_option maxRecDepth 100000 in
theorem c_X5_has (l : Launch) (D : va_G) (cy : Nat → ClassId) (sa : Nat → Nat) (a_v : Nat) (a_v_facts : Nat) (a_v_places : Nat) (v_boxes : Int) (v_startsAt : Int) (x1 : Int) (o : Int) (h : f_Shop_has v_boxes x1 = some o) : CtI l yX5_has wsX5_has ({ frames := 0, cells := 0, slots := 0, locals := 0 }) D cy sa [.ref a_v, .int (zI x1)] (wd_X5_has cy a_v a_v_facts a_v_places v_boxes v_startsAt) (wd_X5_has cy a_v a_v_facts a_v_places v_boxes v_startsAt) o := by
  refine ct_Z (cc := cX5_has) (maxL := 2) (plainFor_of_name (by decide)) rfl (Nat.le_of_ble_eq_true rfl) ?_
  intro p e s m below meth c A args QQ hx hb hml hown hts hE hDD hP KR ls hl
  have hl : lv_has ls 2 [(0, .ref a_v), (1, .int (zI x1))] := hl
  have hDD : DD A [a_v] := hDD
  have hS : va_S A s.heap s.heap [] := va_S.rf
  have q0 := hts (.fieldLink RX5 18 "HatHours$Shop" "boxes" "I") (List.mem_of_getElem? (i := 1) rfl)
  have iX5 : ∀ w ∈ u_ws RX5 TX5 4, w ∈ wsX5_has := in_slice 2 4 rfl
  refine lv_iload_n hx hb dX5_has_0 rfl (lv_at hl 1 rfl) ?_
  obtain ⟨hr1, h⟩ := chk_some h
  refine wi_if_lt (tgt := 16) hx hb dX5_has_1 (by decide) hr1 (fun c3 => ?_) (fun c3 => ?_)
  · have h := ite_t c3 h
    refine wi_ic hx hb dX5_has_16 ?_
    obtain rfl := Option.some.inj h
    exact KR _ _ _ _ (z01 (Or.inl rfl)) hP hS dX5_has_17
  · have h := ite_f c3 h
    refine lv_iload_n hx hb dX5_has_4 rfl (lv_at hl 1 rfl) ?_
    refine lv_aload_n hx hb dX5_has_5 rfl (lv_at hl 0 rfl) ?_
    refine wi_get (v := .int (zI v_boxes)) hx hb hts iX5 hown hE hP 0 rfl rfl 2 (by decide) q0 rfl dX5_has_6 ?_
    obtain ⟨hr4, h⟩ := chk_some h
    refine wi_ic_ge (tgt := 16) hx hb dX5_has_9 (by decide) hr1 hr4 (fun c6 => ?_) (fun c6 => ?_)
    · have h := ite_t c6 h
      refine wi_ic hx hb dX5_has_16 ?_
      obtain rfl := Option.some.inj h
      exact KR _ _ _ _ (z01 (Or.inl rfl)) hP hS dX5_has_17
    · have h := ite_f c6 h
      refine wi_ic hx hb dX5_has_12 ?_
      refine lv_goto (tgt := 17) hx hb dX5_has_13 (by decide) ?_
      obtain rfl := Option.some.inj h
      exact KR _ _ _ _ (z01 (Or.inr rfl)) hP hS dX5_has_17
abbrev wd_X5_placeOf (cy : Nat → ClassId) (a_v : Nat) (a_v_places : Nat) (a_v_facts : Nat) (v_boxes : Int) (v_startsAt : Int) (v_places : Nat → Int) : va_W := [(a_v, .inr (5, [.ref a_v_facts, .ref a_v_places, .int (zI v_boxes), .int (zI v_startsAt)])), (a_v_places, .inl (cy 0, 5, .inl (fun j => zI (v_places j))))]
set_option maxHeartbeats 4000000 in
set_option maxRecDepth 100000 in
theorem c_X5_placeOf (l : Launch) (D : va_G) (cy : Nat → ClassId) (sa : Nat → Nat) (a_v : Nat) (a_v_places : Nat) (a_v_facts : Nat) (v_boxes : Int) (v_startsAt : Int) (v_places : Nat → Int) (x1 : Int) (o : Int) (h : f_Shop_placeOf v_boxes v_places x1 = some o) : CtI l yX5_placeOf wsX5_placeOf ({ frames := 0, cells := 0, slots := 0, locals := 0 }) D cy sa [.ref a_v, .int (zI x1)] (wd_X5_placeOf cy a_v a_v_places a_v_facts v_boxes v_startsAt v_places) (wd_X5_placeOf cy a_v a_v_places a_v_facts v_boxes v_startsAt v_places) o := by
  refine ct_I (cc := cX5_placeOf) (maxL := 3) (plainFor_of_name (by decide)) rfl (Nat.le_of_ble_eq_true rfl) ?_
  intro p e s m below meth c A args QQ hx hb hml hown hts hE hDD hP KR ls hl
  have hl : lv_has ls 3 [(0, .ref a_v), (1, .int (zI x1))] := hl
  have hDD : DD A [a_v, a_v_places] := hDD
  have hS : va_S A s.heap s.heap [] := va_S.rf
  have q0 := hts (.fieldLink RX5 18 "HatHours$Shop" "boxes" "I") (List.mem_of_getElem? (i := 1) rfl)
  have q1 := hts (.fieldLink RX5 15 "HatHours$Shop" "places" "[I") (List.mem_of_getElem? (i := 2) rfl)
  have iX5 : ∀ w ∈ u_ws RX5 TX5 4, w ∈ wsX5_placeOf := in_slice 3 4 rfl
  have L2 : ∀ (fuel : Nat) (x1 : Int) (x2 : Int) (H : Heap) (locs : List Loc) (ls : Array Slot), va_P D vwCl (wd_X5_placeOf cy a_v a_v_places a_v_facts v_boxes v_startsAt v_places) H → va_S A s.heap H locs → lv_has ls 3 [(0, .ref a_v), (1, .int (zI x1)), (2, .int (zI x2))] → f_Shop_placeOf_L2 fuel v_boxes v_places x1 x2 = some o → W p l e { frames := 0, cells := 0, slots := 0, locals := 0 } s m args below meth c H locs 0 0 QQ (F0 m 2 ls []) := by
    intro fuel
    induction fuel with
    | zero => intro _ _ H locs ls hP hS hl h; cases h
    | succ fuel ih =>
      intro x1 x2 H locs ls hP hS hl h
      refine lv_iload_n hx hb dX5_placeOf_2 rfl (lv_at hl 2 rfl) ?_
      refine lv_aload_n hx hb dX5_placeOf_3 rfl (lv_at hl 0 rfl) ?_
      refine wi_get (v := .int (zI v_boxes)) hx hb hts iX5 hown hE hP 0 rfl rfl 2 (by decide) q0 rfl dX5_placeOf_4 ?_
      obtain ⟨hr1, h⟩ := chk_some h
      obtain ⟨hr2, h⟩ := chk_some h
      refine wi_ic_ge (tgt := 28) hx hb dX5_placeOf_7 (by decide) hr1 hr2 (fun c4 => ?_) (fun c4 => ?_)
      · have h := ite_t c4 h
        refine wi_bi hx hb dX5_placeOf_28 (by decide) ?_
        obtain rfl := Option.some.inj h
        exact KR _ _ _ _ hP hS dX5_placeOf_30
      · have h := ite_f c4 h
        refine lv_aload_n hx hb dX5_placeOf_10 rfl (lv_at hl 0 rfl) ?_
        refine wi_get (v := .ref a_v_places) hx hb hts iX5 hown hE hP 0 rfl rfl 1 (by decide) q1 rfl dX5_placeOf_11 ?_
        refine lv_iload_n hx hb dX5_placeOf_14 rfl (lv_at hl 2 rfl) ?_
        obtain ⟨hk5, h⟩ := chk_some h
        refine wi_iald hx hb hE hP 1 rfl (by decide) hk5 dX5_placeOf_15 ?_
        refine lv_iload_n hx hb dX5_placeOf_16 rfl (lv_at hl 1 rfl) ?_
        obtain ⟨hr6, h⟩ := chk_some h
        obtain ⟨hr7, h⟩ := chk_some h
        refine wi_ic_ne (tgt := 22) hx hb dX5_placeOf_17 (by decide) hr6 hr7 (fun c9 => ?_) (fun c9 => ?_)
        · have h := ite_f c9 h
          refine wi_iinc (k := 2) (lv' := [(2, .int (zI (x2 + 1))), (0, .ref a_v), (1, .int (zI x1))]) hx hb dX5_placeOf_22 hl rfl (by decide) rfl (fun ls hl => ?_)
          refine lv_goto (tgt := 2) hx hb dX5_placeOf_25 (by decide) ?_
          exact ih x1 (x2 + 1) _ _ _ hP hS (lv_sub hl [1, 2, 0] rfl) h
        · have h := ite_t c9 h
          refine lv_iload_n hx hb dX5_placeOf_20 rfl (lv_at hl 2 rfl) ?_
          obtain rfl := Option.some.inj h
          exact KR _ _ _ _ hP hS dX5_placeOf_21
  refine wi_ic hx hb dX5_placeOf_0 ?_
  refine lv_istore_n (lv' := [(2, .int (zI 0)), (0, .ref a_v), (1, .int (zI x1))]) hx hb dX5_placeOf_1 rfl hl (by decide) rfl (fun ls hl => ?_)
  exact L2 5000 x1 0 _ _ _ hP hS (lv_sub hl [1, 2, 0] rfl) h
abbrev wd_X5_exchange (cy : Nat → ClassId) (a_v : Nat) (a_v_places : Nat) (a_v_facts : Nat) (v_boxes : Int) (v_startsAt : Int) (v_places : Nat → Int) : va_W := [(a_v, .inr (5, [.ref a_v_facts, .ref a_v_places, .int (zI v_boxes), .int (zI v_startsAt)])), (a_v_places, .inl (cy 0, 5, .inl (fun j => zI (v_places j))))]
set_option maxHeartbeats 4000000 in
set_option maxRecDepth 100000 in
theorem c_X5_exchange (l : Launch) (D : va_G) (cy : Nat → ClassId) (sa : Nat → Nat) (a_v : Nat) (a_v_places : Nat) (a_v_facts : Nat) (v_boxes : Int) (v_startsAt : Int) (v_places : Nat → Int) (x1 : Int) (x2 : Int) (o : (Nat → Int)) (h : f_Shop_exchange v_boxes v_places x1 x2 = some o) : CtV l yX5_exchange wsX5_exchange ({ frames := 1, cells := 0, slots := 0, locals := 21 }) D cy sa [.ref a_v, .int (zI x1), .int (zI x2)] (wd_X5_exchange cy a_v a_v_places a_v_facts v_boxes v_startsAt v_places) (wd_X5_exchange cy a_v a_v_places a_v_facts v_boxes v_startsAt o)  := by
  refine ct_V (cc := cX5_exchange) (maxL := 4) (plainFor_of_name (by decide)) rfl (Nat.le_of_ble_eq_true rfl) ?_
  intro p e s m below meth c A args QQ hx hb hml hown hts hE hDD hP KR ls hl
  have hl : lv_has ls 4 [(0, .ref a_v), (1, .int (zI x1)), (2, .int (zI x2))] := hl
  have hDD : DD A [a_v, a_v_places] := hDD
  have hS : va_S A s.heap s.heap [] := va_S.rf
  have q0 := hts (.fieldLink RX5 15 "HatHours$Shop" "places" "[I") (List.mem_of_getElem? (i := 1) rfl)
  have iX5 : ∀ w ∈ u_ws RX5 TX5 4, w ∈ wsX5_exchange := in_slice 8 4 rfl
  refine lv_aload_n hx hb dX5_exchange_0 rfl (lv_at hl 0 rfl) ?_
  refine lv_iload_n hx hb dX5_exchange_1 rfl (lv_at hl 1 rfl) ?_
  obtain ⟨o1, hc2, h⟩ := bnd_some h
  refine cV_i (rest := []) (w2 := (wd_X5_exchange cy a_v a_v_places a_v_facts v_boxes v_startsAt v_places)) ⟨hx, hb, hml, hown, hts⟩ (c_X5_has l D cy sa a_v a_v_facts a_v_places v_boxes v_startsAt x1 o1 hc2) (cwV 1 hts gX5_exchange_X5_has rfl rfl rfl (by decide +kernel) ⟨Nat.le_of_ble_eq_true rfl, Nat.le_of_ble_eq_true rfl⟩) rfl rfl rfl hE hP hDD rfl hS [0] rfl rfl rfl rfl hl.1 (Nat.le_of_ble_eq_true rfl) ⟨Nat.zero_le _, Nat.zero_le _⟩ rfl dX5_exchange_2 rfl (fun H locs hP hS => ?_)
  obtain ⟨hr3, h⟩ := chk_some h
  refine wi_if_eq (tgt := 42) hx hb dX5_exchange_5 (by decide) hr3 (fun c5 => ?_) (fun c5 => ?_)
  · have h := ite_t c5 h
    obtain rfl := Option.some.inj h
    exact KR _ _ _ _ hP hS dX5_exchange_42
  · have h := ite_f c5 h
    refine lv_aload_n hx hb dX5_exchange_8 rfl (lv_at hl 0 rfl) ?_
    refine lv_iload_n hx hb dX5_exchange_9 rfl (lv_at hl 2 rfl) ?_
    obtain ⟨o6, hc7, h⟩ := bnd_some h
    refine cV_i (rest := []) (w2 := (wd_X5_exchange cy a_v a_v_places a_v_facts v_boxes v_startsAt v_places)) ⟨hx, hb, hml, hown, hts⟩ (c_X5_has l D cy sa a_v a_v_facts a_v_places v_boxes v_startsAt x2 o6 hc7) (cwV 1 hts gX5_exchange_X5_has rfl rfl rfl (by decide +kernel) ⟨Nat.le_of_ble_eq_true rfl, Nat.le_of_ble_eq_true rfl⟩) rfl rfl rfl hE hP hDD rfl hS [0] rfl rfl rfl rfl hl.1 (Nat.le_of_ble_eq_true rfl) ⟨Nat.zero_le _, Nat.zero_le _⟩ rfl dX5_exchange_10 rfl (fun H locs hP hS => ?_)
    obtain ⟨hr8, h⟩ := chk_some h
    refine wi_if_eq (tgt := 42) hx hb dX5_exchange_13 (by decide) hr8 (fun c10 => ?_) (fun c10 => ?_)
    · have h := ite_t c10 h
      obtain rfl := Option.some.inj h
      exact KR _ _ _ _ hP hS dX5_exchange_42
    · have h := ite_f c10 h
      refine lv_aload_n hx hb dX5_exchange_16 rfl (lv_at hl 0 rfl) ?_
      refine wi_get (v := .ref a_v_places) hx hb hts iX5 hown hE hP 0 rfl rfl 1 (by decide) q0 rfl dX5_exchange_17 ?_
      refine lv_iload_n hx hb dX5_exchange_20 rfl (lv_at hl 1 rfl) ?_
      obtain ⟨hk11, h⟩ := chk_some h
      refine wi_iald hx hb hE hP 1 rfl (by decide) hk11 dX5_exchange_21 ?_
      refine lv_istore_n (lv' := [(3, .int (zI (v_places (x1).toNat))), (0, .ref a_v), (1, .int (zI x1)), (2, .int (zI x2))]) hx hb dX5_exchange_22 rfl hl (by decide) rfl (fun ls hl => ?_)
      refine lv_aload_n hx hb dX5_exchange_23 rfl (lv_at hl 1 rfl) ?_
      refine wi_get (v := .ref a_v_places) hx hb hts iX5 hown hE hP 0 rfl rfl 1 (by decide) q0 rfl dX5_exchange_24 ?_
      refine lv_iload_n hx hb dX5_exchange_27 rfl (lv_at hl 2 rfl) ?_
      refine lv_aload_n hx hb dX5_exchange_28 rfl (lv_at hl 1 rfl) ?_
      refine wi_get (v := .ref a_v_places) hx hb hts iX5 hown hE hP 0 rfl rfl 1 (by decide) q0 rfl dX5_exchange_29 ?_
      refine lv_iload_n hx hb dX5_exchange_32 rfl (lv_at hl 3 rfl) ?_
      obtain ⟨hk12, h⟩ := chk_some h
      refine wi_iald hx hb hE hP 1 rfl (by decide) hk12 dX5_exchange_33 ?_
      refine wi_iast (w2 := (wd_X5_exchange cy a_v a_v_places a_v_facts v_boxes v_startsAt (upZ v_places (x1).toNat (v_places (x2).toNat)))) hx hb hE hP hDD rfl hS 1 rfl (by decide) hk11 dX5_exchange_34 rfl (fun H locs hP hS => ?_)
      refine lv_aload_n hx hb dX5_exchange_35 rfl (lv_at hl 1 rfl) ?_
      refine wi_get (v := .ref a_v_places) hx hb hts iX5 hown hE hP 0 rfl rfl 1 (by decide) q0 rfl dX5_exchange_36 ?_
      refine lv_iload_n hx hb dX5_exchange_39 rfl (lv_at hl 3 rfl) ?_
      refine lv_iload_n hx hb dX5_exchange_40 rfl (lv_at hl 0 rfl) ?_
      refine wi_iast (w2 := (wd_X5_exchange cy a_v a_v_places a_v_facts v_boxes v_startsAt (upZ (upZ v_places (x1).toNat (v_places (x2).toNat)) (x2).toNat (v_places (x1).toNat)))) hx hb hE hP hDD rfl hS 1 rfl (by decide) hk12 dX5_exchange_41 rfl (fun H locs hP hS => ?_)
      obtain rfl := Option.some.inj h
      exact KR _ _ _ _ hP hS dX5_exchange_42
abbrev wd_X5_bringTo (cy : Nat → ClassId) (a_v : Nat) (a_v_places : Nat) (a_v_facts : Nat) (v_boxes : Int) (v_startsAt : Int) (v_places : Nat → Int) : va_W := [(a_v, .inr (5, [.ref a_v_facts, .ref a_v_places, .int (zI v_boxes), .int (zI v_startsAt)])), (a_v_places, .inl (cy 0, 5, .inl (fun j => zI (v_places j))))]
set_option maxHeartbeats 4000000 in
set_option maxRecDepth 100000 in
theorem c_X5_bringTo (l : Launch) (D : va_G) (cy : Nat → ClassId) (sa : Nat → Nat) (a_v : Nat) (a_v_places : Nat) (a_v_facts : Nat) (v_boxes : Int) (v_startsAt : Int) (v_places : Nat → Int) (x1 : Int) (x2 : Int) (o : (Nat → Int)) (h : f_Shop_bringTo v_boxes v_places x1 x2 = some o) : CtV l yX5_bringTo wsX5_bringTo ({ frames := 2, cells := 0, slots := 0, locals := 44 }) D cy sa [.ref a_v, .int (zI x1), .int (zI x2)] (wd_X5_bringTo cy a_v a_v_places a_v_facts v_boxes v_startsAt v_places) (wd_X5_bringTo cy a_v a_v_places a_v_facts v_boxes v_startsAt o)  := by
  refine ct_V (cc := cX5_bringTo) (maxL := 5) (plainFor_of_name (by decide)) rfl (Nat.le_of_ble_eq_true rfl) ?_
  intro p e s m below meth c A args QQ hx hb hml hown hts hE hDD hP KR ls hl
  have hl : lv_has ls 5 [(0, .ref a_v), (1, .int (zI x1)), (2, .int (zI x2))] := hl
  have hDD : DD A [a_v, a_v_places] := hDD
  have hS : va_S A s.heap s.heap [] := va_S.rf
  have L9 : ∀ (fuel : Nat) (v_places : Nat → Int) (x1 : Int) (x4 : Int) (H : Heap) (locs : List Loc) (ls : Array Slot) (ex : (Nat → Int)), va_P D vwCl (wd_X5_bringTo cy a_v a_v_places a_v_facts v_boxes v_startsAt v_places) H → va_S A s.heap H locs → lv_has ls 5 [(0, .ref a_v), (1, .int (zI x1)), (4, .int (zI x4))] → f_Shop_bringTo_L9 fuel v_boxes v_places x1 x4 = some ex → (∀ (H : Heap) (locs : List Loc) (ls : Array Slot), va_P D vwCl (wd_X5_bringTo cy a_v a_v_places a_v_facts v_boxes v_startsAt ex) H → va_S A s.heap H locs → lv_has ls 5 [] → W p l e { frames := 2, cells := 0, slots := 0, locals := 44 } s m args below meth c H locs 0 0 QQ (F0 m 36 ls [])) → W p l e { frames := 2, cells := 0, slots := 0, locals := 44 } s m args below meth c H locs 0 0 QQ (F0 m 9 ls []) := by
    intro fuel
    induction fuel with
    | zero => intro _ _ _ H locs ls ex hP hS hl h K; cases h
    | succ fuel ih =>
      intro v_places x1 x4 H locs ls ex hP hS hl h K
      refine lv_iload hx hb dX5_bringTo_9 (lv_at hl 2 rfl) ?_
      refine lv_iload_n hx hb dX5_bringTo_11 rfl (lv_at hl 1 rfl) ?_
      obtain ⟨hr3, h⟩ := chk_some h
      obtain ⟨hr4, h⟩ := chk_some h
      refine wi_ic_le (tgt := 36) hx hb dX5_bringTo_12 (by decide) hr3 hr4 (fun c6 => ?_) (fun c6 => ?_)
      · have h := ite_t c6 h
        obtain rfl := Option.some.inj h
        exact K _ _ _ hP hS (lv_sub hl [] rfl)
      · have h := ite_f c6 h
        refine lv_iload hx hb dX5_bringTo_15 (lv_at hl 2 rfl) ?_
        refine wi_if_le (tgt := 36) hx hb dX5_bringTo_17 (by decide) hr3 (fun c8 => ?_) (fun c8 => ?_)
        · have h := ite_t c8 h
          obtain rfl := Option.some.inj h
          exact K _ _ _ hP hS (lv_sub hl [] rfl)
        · have h := ite_f c8 h
          refine lv_aload_n hx hb dX5_bringTo_20 rfl (lv_at hl 0 rfl) ?_
          refine lv_iload hx hb dX5_bringTo_21 (lv_at hl 2 rfl) ?_
          refine lv_iload hx hb dX5_bringTo_23 (lv_at hl 2 rfl) ?_
          refine wi_ic hx hb dX5_bringTo_25 ?_
          refine wi_isub hx hb dX5_bringTo_26 ?_
          obtain ⟨o9, hc10, h⟩ := bnd_some h
          refine cV_v (rest := []) (w2 := (wd_X5_bringTo cy a_v a_v_places a_v_facts v_boxes v_startsAt o9)) ⟨hx, hb, hml, hown, hts⟩ (c_X5_exchange l D cy sa a_v a_v_places a_v_facts v_boxes v_startsAt v_places x4 (x4 - 1) o9 hc10) (cwV 2 hts gX5_bringTo_X5_exchange rfl rfl rfl (by decide +kernel) ⟨Nat.le_of_ble_eq_true rfl, Nat.le_of_ble_eq_true rfl⟩) rfl rfl rfl hE hP hDD rfl hS [0, 1] rfl rfl rfl rfl hl.1 (Nat.le_of_ble_eq_true rfl) ⟨Nat.zero_le _, Nat.zero_le _⟩ rfl dX5_bringTo_27 rfl (fun H locs hP hS => ?_)
          refine wi_iinc (k := 2) (lv' := [(4, .int (zI (x4 + (-1)))), (0, .ref a_v), (1, .int (zI x1))]) hx hb dX5_bringTo_30 hl rfl (by decide) rfl (fun ls hl => ?_)
          refine lv_goto (tgt := 9) hx hb dX5_bringTo_33 (by decide) ?_
          exact ih o9 x1 (x4 + (-1)) _ _ _ _ hP hS (lv_sub hl [1, 2, 0] rfl) h K
  refine lv_aload_n hx hb dX5_bringTo_0 rfl (lv_at hl 0 rfl) ?_
  refine lv_iload_n hx hb dX5_bringTo_1 rfl (lv_at hl 2 rfl) ?_
  obtain ⟨o1, hc2, h⟩ := bnd_some h
  refine cV_i (rest := []) (w2 := (wd_X5_bringTo cy a_v a_v_places a_v_facts v_boxes v_startsAt v_places)) ⟨hx, hb, hml, hown, hts⟩ (c_X5_placeOf l D cy sa a_v a_v_places a_v_facts v_boxes v_startsAt v_places x2 o1 hc2) (cwV 1 hts gX5_bringTo_X5_placeOf rfl rfl rfl (by decide +kernel) ⟨Nat.le_of_ble_eq_true rfl, Nat.le_of_ble_eq_true rfl⟩) rfl rfl rfl hE hP hDD rfl hS [0, 1] rfl rfl rfl rfl hl.1 (Nat.le_of_ble_eq_true rfl) ⟨Nat.zero_le _, Nat.zero_le _⟩ rfl dX5_bringTo_2 rfl (fun H locs hP hS => ?_)
  refine lv_istore_n (lv' := [(3, .int (zI o1)), (0, .ref a_v), (1, .int (zI x1)), (2, .int (zI x2))]) hx hb dX5_bringTo_5 rfl hl (by decide) rfl (fun ls hl => ?_)
  refine lv_iload_n hx hb dX5_bringTo_6 rfl (lv_at hl 0 rfl) ?_
  refine lv_istore (lv' := [(4, .int (zI o1)), (3, .int (zI o1)), (0, .ref a_v), (1, .int (zI x1)), (2, .int (zI x2))]) hx hb dX5_bringTo_7 hl (by decide) rfl (fun ls hl => ?_)
  obtain ⟨o11, hx12, h⟩ := bnd_some h
  refine L9 5000 v_places x1 o1 _ _ _ _ hP hS (lv_sub hl [2, 3, 0] rfl) hx12 ?_
  clear hx12
  intro H locs ls hP hS hl
  obtain rfl := Option.some.inj h
  exact KR _ _ _ _ hP hS dX5_bringTo_36
abbrev wd_X5_setStart (cy : Nat → ClassId) (a_v : Nat) (a_v_facts : Nat) (a_v_places : Nat) (v_boxes : Int) (v_startsAt : Int) : va_W := [(a_v, .inr (5, [.ref a_v_facts, .ref a_v_places, .int (zI v_boxes), .int (zI v_startsAt)]))]
set_option maxHeartbeats 4000000 in
set_option maxRecDepth 100000 in
theorem c_X5_setStart (l : Launch) (D : va_G) (cy : Nat → ClassId) (sa : Nat → Nat) (a_v : Nat) (a_v_facts : Nat) (a_v_places : Nat) (v_boxes : Int) (v_startsAt : Int) (x1 : Int) (o : Int) (h : f_Shop_setStart v_startsAt x1 = some o) : CtV l yX5_setStart wsX5_setStart ({ frames := 0, cells := 0, slots := 0, locals := 0 }) D cy sa [.ref a_v, .int (zI x1)] (wd_X5_setStart cy a_v a_v_facts a_v_places v_boxes v_startsAt) (wd_X5_setStart cy a_v a_v_facts a_v_places v_boxes o)  := by
  refine ct_V (cc := cX5_setStart) (maxL := 2) (plainFor_of_name (by decide)) rfl (Nat.le_of_ble_eq_true rfl) ?_
  intro p e s m below meth c A args QQ hx hb hml hown hts hE hDD hP KR ls hl
  have hl : lv_has ls 2 [(0, .ref a_v), (1, .int (zI x1))] := hl
  have hDD : DD A [a_v] := hDD
  have hS : va_S A s.heap s.heap [] := va_S.rf
  have q0 := hts (.fieldLink RX5 22 "HatHours$Shop" "startsAt" "I") (List.mem_of_getElem? (i := 1) rfl)
  have iX5 : ∀ w ∈ u_ws RX5 TX5 4, w ∈ wsX5_setStart := in_slice 2 4 rfl
  refine lv_aload_n hx hb dX5_setStart_0 rfl (lv_at hl 0 rfl) ?_
  refine lv_iload_n hx hb dX5_setStart_1 rfl (lv_at hl 1 rfl) ?_
  refine wi_put (ty := .int) (v := .int (zI x1)) (w2 := (wd_X5_setStart cy a_v a_v_facts a_v_places v_boxes x1)) hx hb hts iX5 tyX5 tyX5_ok nmX5 hown hE hP hDD rfl hS 0 rfl rfl 3 (by decide) q0 rfl (by decide +kernel) rfl rfl (Nat.le_of_ble_eq_true rfl) dX5_setStart_2 rfl (fun H locs hP hS => ?_)
  obtain rfl := Option.some.inj h
  exact KR _ _ _ _ hP hS dX5_setStart_5
abbrev wd_X5_isFull (cy : Nat → ClassId) (a_v : Nat) (a_v_facts : Nat) (a_v_places : Nat) (v_boxes : Int) (v_startsAt : Int) : va_W := [(a_v, .inr (5, [.ref a_v_facts, .ref a_v_places, .int (zI v_boxes), .int (zI v_startsAt)]))]
set_option maxHeartbeats 4000000 in
set_option maxRecDepth 100000 in
theorem c_X5_isFull (l : Launch) (D : va_G) (cy : Nat → ClassId) (sa : Nat → Nat) (a_v : Nat) (a_v_facts : Nat) (a_v_places : Nat) (v_boxes : Int) (v_startsAt : Int) (o : Int) (h : f_Shop_isFull v_boxes = some o) : CtI l yX5_isFull wsX5_isFull ({ frames := 0, cells := 0, slots := 0, locals := 0 }) D cy sa [.ref a_v] (wd_X5_isFull cy a_v a_v_facts a_v_places v_boxes v_startsAt) (wd_X5_isFull cy a_v a_v_facts a_v_places v_boxes v_startsAt) o := by
  refine ct_Z (cc := cX5_isFull) (maxL := 1) (plainFor_of_name (by decide)) rfl (Nat.le_of_ble_eq_true rfl) ?_
  intro p e s m below meth c A args QQ hx hb hml hown hts hE hDD hP KR ls hl
  have hl : lv_has ls 1 [(0, .ref a_v)] := hl
  have hDD : DD A [a_v] := hDD
  have hS : va_S A s.heap s.heap [] := va_S.rf
  have q0 := hts (.fieldLink RX5 18 "HatHours$Shop" "boxes" "I") (List.mem_of_getElem? (i := 1) rfl)
  have iX5 : ∀ w ∈ u_ws RX5 TX5 4, w ∈ wsX5_isFull := in_slice 2 4 rfl
  refine lv_aload_n hx hb dX5_isFull_0 rfl (lv_at hl 0 rfl) ?_
  refine wi_get (v := .int (zI v_boxes)) hx hb hts iX5 hown hE hP 0 rfl rfl 2 (by decide) q0 rfl dX5_isFull_1 ?_
  refine wi_ic hx hb dX5_isFull_4 ?_
  obtain ⟨hr1, h⟩ := chk_some h
  refine wi_ic_lt (tgt := 12) hx hb dX5_isFull_5 (by decide) hr1 (by decide) (fun c3 => ?_) (fun c3 => ?_)
  · have h := ite_t c3 h
    refine wi_ic hx hb dX5_isFull_12 ?_
    obtain rfl := Option.some.inj h
    exact KR _ _ _ _ (z01 (Or.inl rfl)) hP hS dX5_isFull_13
  · have h := ite_f c3 h
    refine wi_ic hx hb dX5_isFull_8 ?_
    refine lv_goto (tgt := 13) hx hb dX5_isFull_9 (by decide) ?_
    obtain rfl := Option.some.inj h
    exact KR _ _ _ _ (z01 (Or.inr rfl)) hP hS dX5_isFull_13
abbrev wd_X5_setFact (cy : Nat → ClassId) (a_v : Nat) (a_v_facts : Nat) (a_v_places : Nat) (v_boxes : Int) (v_startsAt : Int) (v_facts : Nat → Int) : va_W := [(a_v, .inr (5, [.ref a_v_facts, .ref a_v_places, .int (zI v_boxes), .int (zI v_startsAt)])), (a_v_facts, .inl (cy 0, 30, .inl (fun j => zI (v_facts j))))]
set_option maxHeartbeats 4000000 in
set_option maxRecDepth 100000 in
theorem c_X5_setFact (l : Launch) (D : va_G) (cy : Nat → ClassId) (sa : Nat → Nat) (a_v : Nat) (a_v_facts : Nat) (a_v_places : Nat) (v_boxes : Int) (v_startsAt : Int) (v_facts : Nat → Int) (x1 : Int) (x2 : Int) (x3 : Int) (o : (Nat → Int)) (h : f_Shop_setFact v_boxes v_facts x1 x2 x3 = some o) : CtV l yX5_setFact wsX5_setFact ({ frames := 0, cells := 0, slots := 0, locals := 0 }) D cy sa [.ref a_v, .int (zI x1), .int (zI x2), .int (zI x3)] (wd_X5_setFact cy a_v a_v_facts a_v_places v_boxes v_startsAt v_facts) (wd_X5_setFact cy a_v a_v_facts a_v_places v_boxes v_startsAt o)  := by
  refine ct_V (cc := cX5_setFact) (maxL := 4) (plainFor_of_name (by decide)) rfl (Nat.le_of_ble_eq_true rfl) ?_
  intro p e s m below meth c A args QQ hx hb hml hown hts hE hDD hP KR ls hl
  have hl : lv_has ls 4 [(0, .ref a_v), (1, .int (zI x1)), (2, .int (zI x2)), (3, .int (zI x3))] := hl
  have hDD : DD A [a_v, a_v_facts] := hDD
  have hS : va_S A s.heap s.heap [] := va_S.rf
  have q0 := hts (.fieldLink RX5 18 "HatHours$Shop" "boxes" "I") (List.mem_of_getElem? (i := 1) rfl)
  have q1 := hts (.fieldLink RX5 11 "HatHours$Shop" "facts" "[I") (List.mem_of_getElem? (i := 2) rfl)
  have iX5 : ∀ w ∈ u_ws RX5 TX5 4, w ∈ wsX5_setFact := in_slice 3 4 rfl
  refine lv_iload_n hx hb dX5_setFact_0 rfl (lv_at hl 1 rfl) ?_
  obtain ⟨hr1, h⟩ := chk_some h
  refine wi_if_lt (tgt := 33) hx hb dX5_setFact_1 (by decide) hr1 (fun c3 => ?_) (fun c3 => ?_)
  · have h := ite_t c3 h
    obtain rfl := Option.some.inj h
    exact KR _ _ _ _ hP hS dX5_setFact_33
  · have h := ite_f c3 h
    refine lv_iload_n hx hb dX5_setFact_4 rfl (lv_at hl 1 rfl) ?_
    refine lv_aload_n hx hb dX5_setFact_5 rfl (lv_at hl 0 rfl) ?_
    refine wi_get (v := .int (zI v_boxes)) hx hb hts iX5 hown hE hP 0 rfl rfl 2 (by decide) q0 rfl dX5_setFact_6 ?_
    obtain ⟨hr4, h⟩ := chk_some h
    refine wi_ic_ge (tgt := 33) hx hb dX5_setFact_9 (by decide) hr1 hr4 (fun c6 => ?_) (fun c6 => ?_)
    · have h := ite_t c6 h
      obtain rfl := Option.some.inj h
      exact KR _ _ _ _ hP hS dX5_setFact_33
    · have h := ite_f c6 h
      refine lv_iload_n hx hb dX5_setFact_12 rfl (lv_at hl 2 rfl) ?_
      obtain ⟨hr7, h⟩ := chk_some h
      refine wi_if_lt (tgt := 33) hx hb dX5_setFact_13 (by decide) hr7 (fun c9 => ?_) (fun c9 => ?_)
      · have h := ite_t c9 h
        obtain rfl := Option.some.inj h
        exact KR _ _ _ _ hP hS dX5_setFact_33
      · have h := ite_f c9 h
        refine lv_iload_n hx hb dX5_setFact_16 rfl (lv_at hl 2 rfl) ?_
        refine wi_ic hx hb dX5_setFact_17 ?_
        refine wi_ic_gt (tgt := 33) hx hb dX5_setFact_18 (by decide) hr7 (by decide) (fun c11 => ?_) (fun c11 => ?_)
        · have h := ite_t c11 h
          obtain rfl := Option.some.inj h
          exact KR _ _ _ _ hP hS dX5_setFact_33
        · have h := ite_f c11 h
          refine lv_aload_n hx hb dX5_setFact_21 rfl (lv_at hl 0 rfl) ?_
          refine wi_get (v := .ref a_v_facts) hx hb hts iX5 hown hE hP 0 rfl rfl 0 (by decide) q1 rfl dX5_setFact_22 ?_
          refine lv_iload_n hx hb dX5_setFact_25 rfl (lv_at hl 1 rfl) ?_
          refine wi_bi hx hb dX5_setFact_26 (by decide) ?_
          refine wi_imul hx hb dX5_setFact_28 ?_
          refine lv_iload_n hx hb dX5_setFact_29 rfl (lv_at hl 2 rfl) ?_
          refine wi_iadd hx hb dX5_setFact_30 ?_
          refine lv_iload_n hx hb dX5_setFact_31 rfl (lv_at hl 3 rfl) ?_
          obtain ⟨hk12, h⟩ := chk_some h
          refine wi_iast (w2 := (wd_X5_setFact cy a_v a_v_facts a_v_places v_boxes v_startsAt (upZ v_facts ((x1 * 6) + x2).toNat x3))) hx hb hE hP hDD rfl hS 1 rfl (by decide) hk12 dX5_setFact_32 rfl (fun H locs hP hS => ?_)
          obtain rfl := Option.some.inj h
          exact KR _ _ _ _ hP hS dX5_setFact_33
abbrev wd_X5_addPlain (cy : Nat → ClassId) (a_v : Nat) (a_v_facts : Nat) (a_v_places : Nat) (v_boxes : Int) (v_startsAt : Int) (v_facts : Nat → Int) (v_places : Nat → Int) : va_W := [(a_v, .inr (5, [.ref a_v_facts, .ref a_v_places, .int (zI v_boxes), .int (zI v_startsAt)])), (a_v_facts, .inl (cy 0, 30, .inl (fun j => zI (v_facts j)))), (a_v_places, .inl (cy 0, 5, .inl (fun j => zI (v_places j))))]
set_option maxHeartbeats 4000000 in
set_option maxRecDepth 100000 in
theorem c_X5_addPlain (l : Launch) (D : va_G) (cy : Nat → ClassId) (sa : Nat → Nat) (a_v : Nat) (a_v_facts : Nat) (a_v_places : Nat) (v_boxes : Int) (v_startsAt : Int) (v_facts : Nat → Int) (v_places : Nat → Int) (x1 : Int) (x2 : Int) (x3 : Int) (o : Int × Int × (Nat → Int) × (Nat → Int)) (h : f_Shop_addPlain v_boxes v_facts v_places x1 x2 x3 = some o) : CtI l yX5_addPlain wsX5_addPlain ({ frames := 1, cells := 0, slots := 0, locals := 23 }) D cy sa [.ref a_v, .int (zI x1), .int (zI x2), .int (zI x3)] (wd_X5_addPlain cy a_v a_v_facts a_v_places v_boxes v_startsAt v_facts v_places) (wd_X5_addPlain cy a_v a_v_facts a_v_places o.2.1 v_startsAt o.2.2.1 o.2.2.2) o.1 := by
  refine ct_I (cc := cX5_addPlain) (maxL := 5) (plainFor_of_name (by decide)) rfl (Nat.le_of_ble_eq_true rfl) ?_
  intro p e s m below meth c A args QQ hx hb hml hown hts hE hDD hP KR ls hl
  have hl : lv_has ls 5 [(0, .ref a_v), (1, .int (zI x1)), (2, .int (zI x2)), (3, .int (zI x3))] := hl
  have hDD : DD A [a_v, a_v_facts, a_v_places] := hDD
  have hS : va_S A s.heap s.heap [] := va_S.rf
  have q0 := hts (.fieldLink RX5 18 "HatHours$Shop" "boxes" "I") (List.mem_of_getElem? (i := 1) rfl)
  have q1 := hts (.fieldLink RX5 15 "HatHours$Shop" "places" "[I") (List.mem_of_getElem? (i := 2) rfl)
  have iX5 : ∀ w ∈ u_ws RX5 TX5 4, w ∈ wsX5_addPlain := in_slice 13 4 rfl
  refine lv_aload_n hx hb dX5_addPlain_0 rfl (lv_at hl 0 rfl) ?_
  obtain ⟨o1, hc2, h⟩ := bnd_some h
  refine cV_i (rest := []) (w2 := (wd_X5_addPlain cy a_v a_v_facts a_v_places v_boxes v_startsAt v_facts v_places)) ⟨hx, hb, hml, hown, hts⟩ (c_X5_isFull l D cy sa a_v a_v_facts a_v_places v_boxes v_startsAt o1 hc2) (cwV 0 hts gX5_addPlain_X5_isFull rfl rfl rfl (by decide +kernel) ⟨Nat.le_of_ble_eq_true rfl, Nat.le_of_ble_eq_true rfl⟩) rfl rfl rfl hE hP hDD rfl hS [0] rfl rfl rfl rfl hl.1 (Nat.le_of_ble_eq_true rfl) ⟨Nat.zero_le _, Nat.zero_le _⟩ rfl dX5_addPlain_1 rfl (fun H locs hP hS => ?_)
  obtain ⟨hr3, h⟩ := chk_some h
  refine wi_if_eq (tgt := 10) hx hb dX5_addPlain_4 (by decide) hr3 (fun c5 => ?_) (fun c5 => ?_)
  · have h := ite_t c5 h
    refine lv_aload_n hx hb dX5_addPlain_10 rfl (lv_at hl 0 rfl) ?_
    refine wi_get (v := .int (zI v_boxes)) hx hb hts iX5 hown hE hP 0 rfl rfl 2 (by decide) q0 rfl dX5_addPlain_11 ?_
    refine lv_istore (lv' := [(4, .int (zI v_boxes)), (0, .ref a_v), (1, .int (zI x1)), (2, .int (zI x2)), (3, .int (zI x3))]) hx hb dX5_addPlain_14 hl (by decide) rfl (fun ls hl => ?_)
    refine lv_aload_n hx hb dX5_addPlain_16 rfl (lv_at hl 1 rfl) ?_
    refine lv_dup hx hb dX5_addPlain_17 rfl ?_
    refine wi_get (v := .int (zI v_boxes)) hx hb hts iX5 hown hE hP 0 rfl rfl 2 (by decide) q0 rfl dX5_addPlain_18 ?_
    refine wi_ic hx hb dX5_addPlain_21 ?_
    refine wi_iadd hx hb dX5_addPlain_22 ?_
    refine wi_put (ty := .int) (v := .int (zI (v_boxes + 1))) (w2 := (wd_X5_addPlain cy a_v a_v_facts a_v_places (v_boxes + 1) v_startsAt v_facts v_places)) hx hb hts iX5 tyX5 tyX5_ok nmX5 hown hE hP hDD rfl hS 0 rfl rfl 2 (by decide) q0 rfl (by decide +kernel) rfl rfl (Nat.le_of_ble_eq_true rfl) dX5_addPlain_23 rfl (fun H locs hP hS => ?_)
    refine lv_aload_n hx hb dX5_addPlain_26 rfl (lv_at hl 1 rfl) ?_
    refine wi_get (v := .ref a_v_places) hx hb hts iX5 hown hE hP 0 rfl rfl 1 (by decide) q1 rfl dX5_addPlain_27 ?_
    refine lv_iload hx hb dX5_addPlain_30 (lv_at hl 0 rfl) ?_
    refine lv_iload hx hb dX5_addPlain_32 (lv_at hl 0 rfl) ?_
    obtain ⟨hk6, h⟩ := chk_some h
    refine wi_iast (w2 := (wd_X5_addPlain cy a_v a_v_facts a_v_places (v_boxes + 1) v_startsAt v_facts (upZ v_places (v_boxes).toNat v_boxes))) hx hb hE hP hDD rfl hS 2 rfl (by decide) hk6 dX5_addPlain_34 rfl (fun H locs hP hS => ?_)
    refine lv_aload_n hx hb dX5_addPlain_35 rfl (lv_at hl 1 rfl) ?_
    refine lv_iload hx hb dX5_addPlain_36 (lv_at hl 0 rfl) ?_
    refine wi_ic hx hb dX5_addPlain_38 ?_
    refine lv_iload_n hx hb dX5_addPlain_39 rfl (lv_at hl 2 rfl) ?_
    obtain ⟨o7, hc8, h⟩ := bnd_some h
    refine cV_v (rest := []) (w2 := (wd_X5_addPlain cy a_v a_v_facts a_v_places (v_boxes + 1) v_startsAt o7 (upZ v_places (v_boxes).toNat v_boxes))) ⟨hx, hb, hml, hown, hts⟩ (c_X5_setFact l D cy sa a_v a_v_facts a_v_places (v_boxes + 1) v_startsAt v_facts v_boxes 0 x1 o7 hc8) (cwV 3 hts gX5_addPlain_X5_setFact rfl rfl rfl (by decide +kernel) ⟨Nat.le_of_ble_eq_true rfl, Nat.le_of_ble_eq_true rfl⟩) rfl rfl rfl hE hP hDD rfl hS [0, 1] rfl rfl rfl rfl hl.1 (Nat.le_of_ble_eq_true rfl) ⟨Nat.zero_le _, Nat.zero_le _⟩ rfl dX5_addPlain_40 rfl (fun H locs hP hS => ?_)
    refine lv_aload_n hx hb dX5_addPlain_43 rfl (lv_at hl 1 rfl) ?_
    refine lv_iload hx hb dX5_addPlain_44 (lv_at hl 0 rfl) ?_
    refine wi_ic hx hb dX5_addPlain_46 ?_
    refine lv_iload_n hx hb dX5_addPlain_47 rfl (lv_at hl 3 rfl) ?_
    obtain ⟨o9, hc10, h⟩ := bnd_some h
    refine cV_v (rest := []) (w2 := (wd_X5_addPlain cy a_v a_v_facts a_v_places (v_boxes + 1) v_startsAt o9 (upZ v_places (v_boxes).toNat v_boxes))) ⟨hx, hb, hml, hown, hts⟩ (c_X5_setFact l D cy sa a_v a_v_facts a_v_places (v_boxes + 1) v_startsAt o7 v_boxes 1 x2 o9 hc10) (cwV 3 hts gX5_addPlain_X5_setFact rfl rfl rfl (by decide +kernel) ⟨Nat.le_of_ble_eq_true rfl, Nat.le_of_ble_eq_true rfl⟩) rfl rfl rfl hE hP hDD rfl hS [0, 1] rfl rfl rfl rfl hl.1 (Nat.le_of_ble_eq_true rfl) ⟨Nat.zero_le _, Nat.zero_le _⟩ rfl dX5_addPlain_48 rfl (fun H locs hP hS => ?_)
    refine lv_aload_n hx hb dX5_addPlain_51 rfl (lv_at hl 1 rfl) ?_
    refine lv_iload hx hb dX5_addPlain_52 (lv_at hl 0 rfl) ?_
    refine wi_ic hx hb dX5_addPlain_54 ?_
    refine lv_iload_n hx hb dX5_addPlain_55 rfl (lv_at hl 4 rfl) ?_
    obtain ⟨o11, hc12, h⟩ := bnd_some h
    refine cV_v (rest := []) (w2 := (wd_X5_addPlain cy a_v a_v_facts a_v_places (v_boxes + 1) v_startsAt o11 (upZ v_places (v_boxes).toNat v_boxes))) ⟨hx, hb, hml, hown, hts⟩ (c_X5_setFact l D cy sa a_v a_v_facts a_v_places (v_boxes + 1) v_startsAt o9 v_boxes 2 x3 o11 hc12) (cwV 3 hts gX5_addPlain_X5_setFact rfl rfl rfl (by decide +kernel) ⟨Nat.le_of_ble_eq_true rfl, Nat.le_of_ble_eq_true rfl⟩) rfl rfl rfl hE hP hDD rfl hS [0, 1] rfl rfl rfl rfl hl.1 (Nat.le_of_ble_eq_true rfl) ⟨Nat.zero_le _, Nat.zero_le _⟩ rfl dX5_addPlain_56 rfl (fun H locs hP hS => ?_)
    refine lv_aload_n hx hb dX5_addPlain_59 rfl (lv_at hl 1 rfl) ?_
    refine lv_iload hx hb dX5_addPlain_60 (lv_at hl 0 rfl) ?_
    refine wi_ic hx hb dX5_addPlain_62 ?_
    refine wi_ic hx hb dX5_addPlain_63 ?_
    obtain ⟨o13, hc14, h⟩ := bnd_some h
    refine cV_v (rest := []) (w2 := (wd_X5_addPlain cy a_v a_v_facts a_v_places (v_boxes + 1) v_startsAt o13 (upZ v_places (v_boxes).toNat v_boxes))) ⟨hx, hb, hml, hown, hts⟩ (c_X5_setFact l D cy sa a_v a_v_facts a_v_places (v_boxes + 1) v_startsAt o11 v_boxes 3 1 o13 hc14) (cwV 3 hts gX5_addPlain_X5_setFact rfl rfl rfl (by decide +kernel) ⟨Nat.le_of_ble_eq_true rfl, Nat.le_of_ble_eq_true rfl⟩) rfl rfl rfl hE hP hDD rfl hS [0, 1] rfl rfl rfl rfl hl.1 (Nat.le_of_ble_eq_true rfl) ⟨Nat.zero_le _, Nat.zero_le _⟩ rfl dX5_addPlain_64 rfl (fun H locs hP hS => ?_)
    refine lv_aload_n hx hb dX5_addPlain_67 rfl (lv_at hl 1 rfl) ?_
    refine lv_iload hx hb dX5_addPlain_68 (lv_at hl 0 rfl) ?_
    refine wi_ic hx hb dX5_addPlain_70 ?_
    refine wi_bi hx hb dX5_addPlain_71 (by decide) ?_
    obtain ⟨o15, hc16, h⟩ := bnd_some h
    refine cV_v (rest := []) (w2 := (wd_X5_addPlain cy a_v a_v_facts a_v_places (v_boxes + 1) v_startsAt o15 (upZ v_places (v_boxes).toNat v_boxes))) ⟨hx, hb, hml, hown, hts⟩ (c_X5_setFact l D cy sa a_v a_v_facts a_v_places (v_boxes + 1) v_startsAt o13 v_boxes 4 8 o15 hc16) (cwV 3 hts gX5_addPlain_X5_setFact rfl rfl rfl (by decide +kernel) ⟨Nat.le_of_ble_eq_true rfl, Nat.le_of_ble_eq_true rfl⟩) rfl rfl rfl hE hP hDD rfl hS [0, 1] rfl rfl rfl rfl hl.1 (Nat.le_of_ble_eq_true rfl) ⟨Nat.zero_le _, Nat.zero_le _⟩ rfl dX5_addPlain_73 rfl (fun H locs hP hS => ?_)
    refine lv_aload_n hx hb dX5_addPlain_76 rfl (lv_at hl 1 rfl) ?_
    refine lv_iload hx hb dX5_addPlain_77 (lv_at hl 0 rfl) ?_
    refine wi_ic hx hb dX5_addPlain_79 ?_
    refine wi_ic hx hb dX5_addPlain_80 ?_
    obtain ⟨o17, hc18, h⟩ := bnd_some h
    refine cV_v (rest := []) (w2 := (wd_X5_addPlain cy a_v a_v_facts a_v_places (v_boxes + 1) v_startsAt o17 (upZ v_places (v_boxes).toNat v_boxes))) ⟨hx, hb, hml, hown, hts⟩ (c_X5_setFact l D cy sa a_v a_v_facts a_v_places (v_boxes + 1) v_startsAt o15 v_boxes 5 0 o17 hc18) (cwV 3 hts gX5_addPlain_X5_setFact rfl rfl rfl (by decide +kernel) ⟨Nat.le_of_ble_eq_true rfl, Nat.le_of_ble_eq_true rfl⟩) rfl rfl rfl hE hP hDD rfl hS [0, 1] rfl rfl rfl rfl hl.1 (Nat.le_of_ble_eq_true rfl) ⟨Nat.zero_le _, Nat.zero_le _⟩ rfl dX5_addPlain_81 rfl (fun H locs hP hS => ?_)
    refine lv_iload hx hb dX5_addPlain_84 (lv_at hl 0 rfl) ?_
    obtain rfl := Option.some.inj h
    exact KR _ _ _ _ hP hS dX5_addPlain_86
  · have h := ite_f c5 h
    refine wi_bi hx hb dX5_addPlain_7 (by decide) ?_
    obtain rfl := Option.some.inj h
    exact KR _ _ _ _ hP hS dX5_addPlain_9
abbrev wd_X5_isFact (cy : Nat → ClassId) : va_W := []
set_option maxHeartbeats 4000000 in
set_option maxRecDepth 100000 in
theorem c_X5_isFact (l : Launch) (D : va_G) (cy : Nat → ClassId) (sa : Nat → Nat) (x0 : Int) (o : Int) (h : f_Shop_isFact x0 = some o) : CtI l yX5_isFact wsX5_isFact ({ frames := 1, cells := 0, slots := 0, locals := 22 }) D cy sa [.int (zI x0)] (wd_X5_isFact cy ) (wd_X5_isFact cy ) o := by
  refine ct_Z (cc := cX5_isFact) (maxL := 1) (plainFor_of_name (by decide)) rfl (Nat.le_of_ble_eq_true rfl) ?_
  intro p e s m below meth c A args QQ hx hb hml hown hts hE hDD hP KR ls hl
  have hl : lv_has ls 1 [(0, .int (zI x0))] := hl
  have hDD : DD A [] := hDD
  have hS : va_S A s.heap s.heap [] := va_S.rf
  have q0 := hts (.initialized RX9) (List.mem_of_getElem? (i := 2) rfl)
  have q1 := hts (.static yX9_within) (List.mem_of_getElem? (i := 1) rfl)
  refine lv_iload_n hx hb dX5_isFact_0 rfl (lv_at hl 0 rfl) ?_
  refine wi_ic hx hb dX5_isFact_1 ?_
  refine wi_ic hx hb dX5_isFact_2 ?_
  obtain ⟨o1, hc2, h⟩ := bnd_some h
  refine cN_i (rest := []) (w2 := (wd_X5_isFact cy )) ⟨hx, hb, hml, hown, hts⟩ (c_X9_within l D cy sa x0 0 5 o1 hc2) ⟨va_cnB 3 hts gX5_isFact_X9_within_n31 rfl rfl rfl (hE.2.1.1 ("HatHours$Shop", 31, ⟨"HatHours", "within", "(III)Z"⟩, "HatHours") (List.mem_of_getElem? (i := 14) rfl)) q0 (by decide +kernel) ⟨Nat.le_of_ble_eq_true rfl, Nat.le_of_ble_eq_true rfl⟩, q1, trivial⟩ hE hP hDD rfl hS [] rfl rfl rfl rfl hl.1 (Nat.le_of_ble_eq_true rfl) ⟨Nat.zero_le _, Nat.zero_le _⟩ rfl dX5_isFact_3 rfl (fun H locs hP hS => ?_)
  obtain ⟨hk3, h⟩ := chk_some h
  obtain rfl := Option.some.inj h
  exact KR _ _ _ _ (z01 hk3) hP hS dX5_isFact_6
abbrev wd_X5_least (cy : Nat → ClassId) : va_W := []
set_option maxHeartbeats 4000000 in
set_option maxRecDepth 100000 in
theorem c_X5_least (l : Launch) (D : va_G) (cy : Nat → ClassId) (sa : Nat → Nat) (x0 : Int) (o : Int) (h : f_Shop_least x0 = some o) : CtI l yX5_least wsX5_least ({ frames := 2, cells := 0, slots := 0, locals := 42 }) D cy sa [.int (zI x0)] (wd_X5_least cy ) (wd_X5_least cy ) o := by
  refine ct_I (cc := cX5_least) (maxL := 1) (plainFor_of_name (by decide)) rfl (Nat.le_of_ble_eq_true rfl) ?_
  intro p e s m below meth c A args QQ hx hb hml hown hts hE hDD hP KR ls hl
  have hl : lv_has ls 1 [(0, .int (zI x0))] := hl
  have hDD : DD A [] := hDD
  have hS : va_S A s.heap s.heap [] := va_S.rf
  have q0 := hts (.fieldLink RX5 39 "HatHours$Shop" "LEAST" "[I") (List.mem_of_getElem? (i := 1) rfl)
  refine lv_iload_n hx hb dX5_least_0 rfl (lv_at hl 0 rfl) ?_
  obtain ⟨o1, hc2, h⟩ := bnd_some h
  refine cS_i (rest := []) (w2 := (wd_X5_least cy )) ⟨hx, hb, hml, hown, hts⟩ (c_X5_isFact l D cy sa x0 o1 hc2) (va_cwS 1 hts gX5_least_X5_isFact rfl rfl rfl (by decide +kernel) ⟨Nat.le_of_ble_eq_true rfl, Nat.le_of_ble_eq_true rfl⟩) hE hP hDD rfl hS [] rfl rfl rfl rfl hl.1 (Nat.le_of_ble_eq_true rfl) ⟨Nat.zero_le _, Nat.zero_le _⟩ rfl dX5_least_1 rfl (fun H locs hP hS => ?_)
  obtain ⟨hr3, h⟩ := chk_some h
  refine wi_if_eq (tgt := 15) hx hb dX5_least_4 (by decide) hr3 (fun c5 => ?_) (fun c5 => ?_)
  · have h := ite_t c5 h
    refine wi_ic hx hb dX5_least_15 ?_
    obtain rfl := Option.some.inj h
    exact KR _ _ _ _ hP hS dX5_least_16
  · have h := ite_f c5 h
    refine wi_gets hx hb hE.2.1.2.1.1 hS hown q0 dX5_least_7 ?_
    refine lv_iload_n hx hb dX5_least_10 rfl (lv_at hl 0 rfl) ?_
    obtain ⟨hk6, h⟩ := chk_some h
    refine wi_ti hx hb hE.2.1.2.1.2 hS (by decide) hk6 dX5_least_11 ?_
    refine lv_goto (tgt := 16) hx hb dX5_least_12 (by decide) ?_
    obtain rfl := Option.some.inj h
    exact KR _ _ _ _ hP hS dX5_least_16
abbrev wd_X5_most (cy : Nat → ClassId) : va_W := []
set_option maxHeartbeats 4000000 in
set_option maxRecDepth 100000 in
theorem c_X5_most (l : Launch) (D : va_G) (cy : Nat → ClassId) (sa : Nat → Nat) (x0 : Int) (o : Int) (h : f_Shop_most x0 = some o) : CtI l yX5_most wsX5_most ({ frames := 2, cells := 0, slots := 0, locals := 42 }) D cy sa [.int (zI x0)] (wd_X5_most cy ) (wd_X5_most cy ) o := by
  refine ct_I (cc := cX5_most) (maxL := 1) (plainFor_of_name (by decide)) rfl (Nat.le_of_ble_eq_true rfl) ?_
  intro p e s m below meth c A args QQ hx hb hml hown hts hE hDD hP KR ls hl
  have hl : lv_has ls 1 [(0, .int (zI x0))] := hl
  have hDD : DD A [] := hDD
  have hS : va_S A s.heap s.heap [] := va_S.rf
  have q0 := hts (.fieldLink RX5 42 "HatHours$Shop" "MOST" "[I") (List.mem_of_getElem? (i := 1) rfl)
  refine lv_iload_n hx hb dX5_most_0 rfl (lv_at hl 0 rfl) ?_
  obtain ⟨o1, hc2, h⟩ := bnd_some h
  refine cS_i (rest := []) (w2 := (wd_X5_most cy )) ⟨hx, hb, hml, hown, hts⟩ (c_X5_isFact l D cy sa x0 o1 hc2) (va_cwS 1 hts gX5_most_X5_isFact rfl rfl rfl (by decide +kernel) ⟨Nat.le_of_ble_eq_true rfl, Nat.le_of_ble_eq_true rfl⟩) hE hP hDD rfl hS [] rfl rfl rfl rfl hl.1 (Nat.le_of_ble_eq_true rfl) ⟨Nat.zero_le _, Nat.zero_le _⟩ rfl dX5_most_1 rfl (fun H locs hP hS => ?_)
  obtain ⟨hr3, h⟩ := chk_some h
  refine wi_if_eq (tgt := 15) hx hb dX5_most_4 (by decide) hr3 (fun c5 => ?_) (fun c5 => ?_)
  · have h := ite_t c5 h
    refine wi_ic hx hb dX5_most_15 ?_
    obtain rfl := Option.some.inj h
    exact KR _ _ _ _ hP hS dX5_most_16
  · have h := ite_f c5 h
    refine wi_gets hx hb hE.2.1.2.2.1.1 hS hown q0 dX5_most_7 ?_
    refine lv_iload_n hx hb dX5_most_10 rfl (lv_at hl 0 rfl) ?_
    obtain ⟨hk6, h⟩ := chk_some h
    refine wi_ti hx hb hE.2.1.2.2.1.2 hS (by decide) hk6 dX5_most_11 ?_
    refine lv_goto (tgt := 16) hx hb dX5_most_12 (by decide) ?_
    obtain rfl := Option.some.inj h
    exact KR _ _ _ _ hP hS dX5_most_16
abbrev wd_X5_copyFrom (cy : Nat → ClassId) (a_v : Nat) (a_v_facts : Nat) (a_v_places : Nat) (a_u1 : Nat) (a_u1_facts : Nat) (a_u1_places : Nat) (v_boxes : Int) (v_startsAt : Int) (v_facts : Nat → Int) (v_places : Nat → Int) (u1_boxes : Int) (u1_startsAt : Int) (u1_facts : Nat → Int) (u1_places : Nat → Int) : va_W := [(a_v, .inr (5, [.ref a_v_facts, .ref a_v_places, .int (zI v_boxes), .int (zI v_startsAt)])), (a_v_facts, .inl (cy 0, 30, .inl (fun j => zI (v_facts j)))), (a_v_places, .inl (cy 0, 5, .inl (fun j => zI (v_places j)))), (a_u1, .inr (5, [.ref a_u1_facts, .ref a_u1_places, .int (zI u1_boxes), .int (zI u1_startsAt)])), (a_u1_facts, .inl (cy 0, 30, .inl (fun j => zI (u1_facts j)))), (a_u1_places, .inl (cy 0, 5, .inl (fun j => zI (u1_places j))))]
set_option maxHeartbeats 4000000 in
set_option maxRecDepth 100000 in
theorem c_X5_copyFrom (l : Launch) (D : va_G) (cy : Nat → ClassId) (sa : Nat → Nat) (a_v : Nat) (a_v_facts : Nat) (a_v_places : Nat) (a_u1 : Nat) (a_u1_facts : Nat) (a_u1_places : Nat) (v_boxes : Int) (v_startsAt : Int) (v_facts : Nat → Int) (v_places : Nat → Int) (u1_boxes : Int) (u1_startsAt : Int) (u1_facts : Nat → Int) (u1_places : Nat → Int) (o : Int × Int × (Nat → Int) × (Nat → Int)) (h : f_Shop_copyFrom v_boxes v_startsAt v_facts v_places u1_boxes u1_startsAt u1_facts u1_places = some o) : CtV l yX5_copyFrom wsX5_copyFrom ({ frames := 1, cells := 0, slots := 0, locals := 60 }) D cy sa [.ref a_v, .ref a_u1] (wd_X5_copyFrom cy a_v a_v_facts a_v_places a_u1 a_u1_facts a_u1_places v_boxes v_startsAt v_facts v_places u1_boxes u1_startsAt u1_facts u1_places) (wd_X5_copyFrom cy a_v a_v_facts a_v_places a_u1 a_u1_facts a_u1_places o.1 o.2.1 o.2.2.1 o.2.2.2 u1_boxes u1_startsAt u1_facts u1_places)  := by
  refine ct_V (cc := cX5_copyFrom) (maxL := 2) (plainFor_of_name (by decide)) rfl (Nat.le_of_ble_eq_true rfl) ?_
  intro p e s m below meth c A args QQ hx hb hml hown hts hE hDD hP KR ls hl
  have hl : lv_has ls 2 [(0, .ref a_v), (1, .ref a_u1)] := hl
  have hDD : DD A [a_v, a_v_facts, a_v_places, a_u1, a_u1_facts, a_u1_places] := hDD
  have hS : va_S A s.heap s.heap [] := va_S.rf
  have q0 := hts (.fieldLink RX5 11 "HatHours$Shop" "facts" "[I") (List.mem_of_getElem? (i := 1) rfl)
  have q1 := hts (.methodLink RX5 25 arraycopyName) (List.mem_of_getElem? (i := 2) rfl)
  have q2 := hts (.native arraycopyName) (List.mem_of_getElem? (i := 3) rfl)
  have q3 := hts (.static arraycopyName) (List.mem_of_getElem? (i := 4) rfl)
  have q4 := hts (.initialized "java/lang/System") (List.mem_of_getElem? (i := 5) rfl)
  have q5 := hts (.fieldLink RX5 15 "HatHours$Shop" "places" "[I") (List.mem_of_getElem? (i := 6) rfl)
  have q6 := hts (.fieldLink RX5 18 "HatHours$Shop" "boxes" "I") (List.mem_of_getElem? (i := 7) rfl)
  have q7 := hts (.fieldLink RX5 22 "HatHours$Shop" "startsAt" "I") (List.mem_of_getElem? (i := 8) rfl)
  have iX5 : ∀ w ∈ u_ws RX5 TX5 4, w ∈ wsX5_copyFrom := in_slice 9 4 rfl
  refine lv_aload_n hx hb dX5_copyFrom_0 rfl (lv_at hl 1 rfl) ?_
  refine wi_get (v := .ref a_u1_facts) hx hb hts iX5 hown hE hP 3 rfl rfl 0 (by decide) q0 rfl dX5_copyFrom_1 ?_
  refine wi_ic hx hb dX5_copyFrom_4 ?_
  refine lv_aload_n hx hb dX5_copyFrom_5 rfl (lv_at hl 0 rfl) ?_
  refine wi_get (v := .ref a_v_facts) hx hb hts iX5 hown hE hP 0 rfl rfl 0 (by decide) q0 rfl dX5_copyFrom_6 ?_
  refine wi_ic hx hb dX5_copyFrom_9 ?_
  refine lv_aload_n hx hb dX5_copyFrom_10 rfl (lv_at hl 0 rfl) ?_
  refine wi_get (v := .ref a_v_facts) hx hb hts iX5 hown hE hP 0 rfl rfl 0 (by decide) q0 rfl dX5_copyFrom_11 ?_
  refine wi_alen (n := 30) hx hb hE hP 1 0 rfl rfl rfl dX5_copyFrom_14 ?_
  refine wi_copy (w2 := (wd_X5_copyFrom cy a_v a_v_facts a_v_places a_u1 a_u1_facts a_u1_places v_boxes v_startsAt (cpZ u1_facts v_facts 30) v_places u1_boxes u1_startsAt u1_facts u1_places)) hx hb (by rw [hml]; exact hl.1.symm) hown q1 q2 q3 q4 hE hP hDD rfl hS 4 1 rfl rfl (by decide) rfl (Nat.le_of_ble_eq_true rfl) (Nat.le_of_ble_eq_true rfl) dX5_copyFrom_15 rfl (fun H locs hP hS => ?_)
  refine lv_aload_n hx hb dX5_copyFrom_18 rfl (lv_at hl 1 rfl) ?_
  refine wi_get (v := .ref a_u1_places) hx hb hts iX5 hown hE hP 3 rfl rfl 1 (by decide) q5 rfl dX5_copyFrom_19 ?_
  refine wi_ic hx hb dX5_copyFrom_22 ?_
  refine lv_aload_n hx hb dX5_copyFrom_23 rfl (lv_at hl 0 rfl) ?_
  refine wi_get (v := .ref a_v_places) hx hb hts iX5 hown hE hP 0 rfl rfl 1 (by decide) q5 rfl dX5_copyFrom_24 ?_
  refine wi_ic hx hb dX5_copyFrom_27 ?_
  refine lv_aload_n hx hb dX5_copyFrom_28 rfl (lv_at hl 0 rfl) ?_
  refine wi_get (v := .ref a_v_places) hx hb hts iX5 hown hE hP 0 rfl rfl 1 (by decide) q5 rfl dX5_copyFrom_29 ?_
  refine wi_alen (n := 5) hx hb hE hP 2 0 rfl rfl rfl dX5_copyFrom_32 ?_
  refine wi_copy (w2 := (wd_X5_copyFrom cy a_v a_v_facts a_v_places a_u1 a_u1_facts a_u1_places v_boxes v_startsAt (cpZ u1_facts v_facts 30) (cpZ u1_places v_places 5) u1_boxes u1_startsAt u1_facts u1_places)) hx hb (by rw [hml]; exact hl.1.symm) hown q1 q2 q3 q4 hE hP hDD rfl hS 5 2 rfl rfl (by decide) rfl (Nat.le_of_ble_eq_true rfl) (Nat.le_of_ble_eq_true rfl) dX5_copyFrom_33 rfl (fun H locs hP hS => ?_)
  refine lv_aload_n hx hb dX5_copyFrom_36 rfl (lv_at hl 0 rfl) ?_
  refine lv_aload_n hx hb dX5_copyFrom_37 rfl (lv_at hl 1 rfl) ?_
  refine wi_get (v := .int (zI u1_boxes)) hx hb hts iX5 hown hE hP 3 rfl rfl 2 (by decide) q6 rfl dX5_copyFrom_38 ?_
  refine wi_put (ty := .int) (v := .int (zI u1_boxes)) (w2 := (wd_X5_copyFrom cy a_v a_v_facts a_v_places a_u1 a_u1_facts a_u1_places u1_boxes v_startsAt (cpZ u1_facts v_facts 30) (cpZ u1_places v_places 5) u1_boxes u1_startsAt u1_facts u1_places)) hx hb hts iX5 tyX5 tyX5_ok nmX5 hown hE hP hDD rfl hS 0 rfl rfl 2 (by decide) q6 rfl (by decide +kernel) rfl rfl (Nat.le_of_ble_eq_true rfl) dX5_copyFrom_41 rfl (fun H locs hP hS => ?_)
  refine lv_aload_n hx hb dX5_copyFrom_44 rfl (lv_at hl 0 rfl) ?_
  refine lv_aload_n hx hb dX5_copyFrom_45 rfl (lv_at hl 1 rfl) ?_
  refine wi_get (v := .int (zI u1_startsAt)) hx hb hts iX5 hown hE hP 3 rfl rfl 3 (by decide) q7 rfl dX5_copyFrom_46 ?_
  refine wi_put (ty := .int) (v := .int (zI u1_startsAt)) (w2 := (wd_X5_copyFrom cy a_v a_v_facts a_v_places a_u1 a_u1_facts a_u1_places u1_boxes u1_startsAt (cpZ u1_facts v_facts 30) (cpZ u1_places v_places 5) u1_boxes u1_startsAt u1_facts u1_places)) hx hb hts iX5 tyX5 tyX5_ok nmX5 hown hE hP hDD rfl hS 0 rfl rfl 3 (by decide) q7 rfl (by decide +kernel) rfl rfl (Nat.le_of_ble_eq_true rfl) dX5_copyFrom_49 rfl (fun H locs hP hS => ?_)
  obtain rfl := Option.some.inj h
  exact KR _ _ _ _ hP hS dX5_copyFrom_52
abbrev wd_X6_cut (cy : Nat → ClassId) (a_v : Nat) (a_v_rooms : Nat) (a_v_hours : Nat) (a_v_oclocks : Nat) (v_used : Int) : va_W := [(a_v, .inr (6, [.ref a_v_rooms, .ref a_v_hours, .ref a_v_oclocks, .int (zI v_used)]))]
set_option maxHeartbeats 4000000 in
set_option maxRecDepth 100000 in
theorem c_X6_cut (l : Launch) (D : va_G) (cy : Nat → ClassId) (sa : Nat → Nat) (a_v : Nat) (a_v_rooms : Nat) (a_v_hours : Nat) (a_v_oclocks : Nat) (v_used : Int) (x1 : Int) (o : Int) (h : f_Sightings_cut v_used x1 = some o) : CtV l yX6_cut wsX6_cut ({ frames := 1, cells := 0, slots := 0, locals := 22 }) D cy sa [.ref a_v, .int (zI x1)] (wd_X6_cut cy a_v a_v_rooms a_v_hours a_v_oclocks v_used) (wd_X6_cut cy a_v a_v_rooms a_v_hours a_v_oclocks o)  := by
  refine ct_V (cc := cX6_cut) (maxL := 2) (plainFor_of_name (by decide)) rfl (Nat.le_of_ble_eq_true rfl) ?_
  intro p e s m below meth c A args QQ hx hb hml hown hts hE hDD hP KR ls hl
  have hl : lv_has ls 2 [(0, .ref a_v), (1, .int (zI x1))] := hl
  have hDD : DD A [a_v] := hDD
  have hS : va_S A s.heap s.heap [] := va_S.rf
  have q0 := hts (.fieldLink RX6 19 "HatHours$Sightings" "used" "I") (List.mem_of_getElem? (i := 1) rfl)
  have q1 := hts (.initialized RX9) (List.mem_of_getElem? (i := 3) rfl)
  have q2 := hts (.static yX9_within) (List.mem_of_getElem? (i := 2) rfl)
  have iX6 : ∀ w ∈ u_ws RX6 TX6 4, w ∈ wsX6_cut := in_slice 5 4 rfl
  refine lv_iload_n hx hb dX6_cut_0 rfl (lv_at hl 1 rfl) ?_
  refine wi_ic hx hb dX6_cut_1 ?_
  refine lv_aload_n hx hb dX6_cut_2 rfl (lv_at hl 0 rfl) ?_
  refine wi_get (v := .int (zI v_used)) hx hb hts iX6 hown hE hP 0 rfl rfl 3 (by decide) q0 rfl dX6_cut_3 ?_
  obtain ⟨o1, hc2, h⟩ := bnd_some h
  refine cN_i (rest := []) (w2 := (wd_X6_cut cy a_v a_v_rooms a_v_hours a_v_oclocks v_used)) ⟨hx, hb, hml, hown, hts⟩ (c_X9_within l D cy sa x1 0 v_used o1 hc2) ⟨va_cnB 3 hts gX6_cut_X9_within_n27 rfl rfl rfl (hE.2.1.1 ("HatHours$Sightings", 27, ⟨"HatHours", "within", "(III)Z"⟩, "HatHours") (List.mem_of_getElem? (i := 15) rfl)) q1 (by decide +kernel) ⟨Nat.le_of_ble_eq_true rfl, Nat.le_of_ble_eq_true rfl⟩, q2, trivial⟩ hE hP hDD rfl hS [] rfl rfl rfl rfl hl.1 (Nat.le_of_ble_eq_true rfl) ⟨Nat.zero_le _, Nat.zero_le _⟩ rfl dX6_cut_6 rfl (fun H locs hP hS => ?_)
  obtain ⟨hr3, h⟩ := chk_some h
  refine wi_if_eq (tgt := 17) hx hb dX6_cut_9 (by decide) hr3 (fun c5 => ?_) (fun c5 => ?_)
  · have h := ite_t c5 h
    obtain rfl := Option.some.inj h
    exact KR _ _ _ _ hP hS dX6_cut_17
  · have h := ite_f c5 h
    refine lv_aload_n hx hb dX6_cut_12 rfl (lv_at hl 0 rfl) ?_
    refine lv_iload_n hx hb dX6_cut_13 rfl (lv_at hl 1 rfl) ?_
    refine wi_put (ty := .int) (v := .int (zI x1)) (w2 := (wd_X6_cut cy a_v a_v_rooms a_v_hours a_v_oclocks x1)) hx hb hts iX6 tyX6 tyX6_ok nmX6 hown hE hP hDD rfl hS 0 rfl rfl 3 (by decide) q0 rfl (by decide +kernel) rfl rfl (Nat.le_of_ble_eq_true rfl) dX6_cut_14 rfl (fun H locs hP hS => ?_)
    obtain rfl := Option.some.inj h
    exact KR _ _ _ _ hP hS dX6_cut_17
abbrev wd_X0_drop (cy : Nat → ClassId) (a_v : Nat) (a_v_shop : Nat) (a_v_seen : Nat) (v_there : Int) : va_W := [(a_v, .inr (0, [.ref a_v_shop, .ref a_v_seen, .int (zI v_there)]))]
set_option maxHeartbeats 4000000 in
set_option maxRecDepth 100000 in
theorem c_X0_drop (l : Launch) (D : va_G) (cy : Nat → ClassId) (sa : Nat → Nat) (a_v : Nat) (a_v_shop : Nat) (a_v_seen : Nat) (v_there : Int) (o : Int) (h : f_Image_drop v_there = some o) : CtV l yX0_drop wsX0_drop ({ frames := 0, cells := 0, slots := 0, locals := 0 }) D cy sa [.ref a_v] (wd_X0_drop cy a_v a_v_shop a_v_seen v_there) (wd_X0_drop cy a_v a_v_shop a_v_seen o)  := by
  refine ct_V (cc := cX0_drop) (maxL := 1) (plainFor_of_name (by decide)) rfl (Nat.le_of_ble_eq_true rfl) ?_
  intro p e s m below meth c A args QQ hx hb hml hown hts hE hDD hP KR ls hl
  have hl : lv_has ls 1 [(0, .ref a_v)] := hl
  have hDD : DD A [a_v] := hDD
  have hS : va_S A s.heap s.heap [] := va_S.rf
  have q0 := hts (.fieldLink RX0 23 "HatHours$Image" "there" "Z") (List.mem_of_getElem? (i := 1) rfl)
  have iX0 : ∀ w ∈ u_ws RX0 TX0 3, w ∈ wsX0_drop := in_slice 2 3 rfl
  refine lv_aload_n hx hb dX0_drop_0 rfl (lv_at hl 0 rfl) ?_
  refine wi_ic hx hb dX0_drop_1 ?_
  refine wi_put (ty := .boolean) (v := .int (zI 0)) (w2 := (wd_X0_drop cy a_v a_v_shop a_v_seen 0)) hx hb hts iX0 tyX0 tyX0_ok nmX0 hown hE hP hDD rfl hS 0 rfl rfl 2 (by decide) q0 rfl (by decide +kernel) rfl rfl (Nat.le_of_ble_eq_true rfl) dX0_drop_2 rfl (fun H locs hP hS => ?_)
  obtain rfl := Option.some.inj h
  exact KR _ _ _ _ hP hS dX0_drop_5
abbrev wd_X5_size (cy : Nat → ClassId) (a_v : Nat) (a_v_facts : Nat) (a_v_places : Nat) (v_boxes : Int) (v_startsAt : Int) : va_W := [(a_v, .inr (5, [.ref a_v_facts, .ref a_v_places, .int (zI v_boxes), .int (zI v_startsAt)]))]
set_option maxHeartbeats 4000000 in
set_option maxRecDepth 100000 in
theorem c_X5_size (l : Launch) (D : va_G) (cy : Nat → ClassId) (sa : Nat → Nat) (a_v : Nat) (a_v_facts : Nat) (a_v_places : Nat) (v_boxes : Int) (v_startsAt : Int) (o : Int) (h : f_Shop_size v_boxes = some o) : CtI l yX5_size wsX5_size ({ frames := 0, cells := 0, slots := 0, locals := 0 }) D cy sa [.ref a_v] (wd_X5_size cy a_v a_v_facts a_v_places v_boxes v_startsAt) (wd_X5_size cy a_v a_v_facts a_v_places v_boxes v_startsAt) o := by
  refine ct_I (cc := cX5_size) (maxL := 1) (plainFor_of_name (by decide)) rfl (Nat.le_of_ble_eq_true rfl) ?_
  intro p e s m below meth c A args QQ hx hb hml hown hts hE hDD hP KR ls hl
  have hl : lv_has ls 1 [(0, .ref a_v)] := hl
  have hDD : DD A [a_v] := hDD
  have hS : va_S A s.heap s.heap [] := va_S.rf
  have q0 := hts (.fieldLink RX5 18 "HatHours$Shop" "boxes" "I") (List.mem_of_getElem? (i := 1) rfl)
  have iX5 : ∀ w ∈ u_ws RX5 TX5 4, w ∈ wsX5_size := in_slice 2 4 rfl
  refine lv_aload_n hx hb dX5_size_0 rfl (lv_at hl 0 rfl) ?_
  refine wi_get (v := .int (zI v_boxes)) hx hb hts iX5 hown hE hP 0 rfl rfl 2 (by decide) q0 rfl dX5_size_1 ?_
  obtain rfl := Option.some.inj h
  exact KR _ _ _ _ hP hS dX5_size_4
abbrev wd_X5_startHour (cy : Nat → ClassId) (a_v : Nat) (a_v_facts : Nat) (a_v_places : Nat) (v_boxes : Int) (v_startsAt : Int) : va_W := [(a_v, .inr (5, [.ref a_v_facts, .ref a_v_places, .int (zI v_boxes), .int (zI v_startsAt)]))]
set_option maxHeartbeats 4000000 in
set_option maxRecDepth 100000 in
theorem c_X5_startHour (l : Launch) (D : va_G) (cy : Nat → ClassId) (sa : Nat → Nat) (a_v : Nat) (a_v_facts : Nat) (a_v_places : Nat) (v_boxes : Int) (v_startsAt : Int) (o : Int) (h : f_Shop_startHour v_startsAt = some o) : CtI l yX5_startHour wsX5_startHour ({ frames := 0, cells := 0, slots := 0, locals := 0 }) D cy sa [.ref a_v] (wd_X5_startHour cy a_v a_v_facts a_v_places v_boxes v_startsAt) (wd_X5_startHour cy a_v a_v_facts a_v_places v_boxes v_startsAt) o := by
  refine ct_I (cc := cX5_startHour) (maxL := 1) (plainFor_of_name (by decide)) rfl (Nat.le_of_ble_eq_true rfl) ?_
  intro p e s m below meth c A args QQ hx hb hml hown hts hE hDD hP KR ls hl
  have hl : lv_has ls 1 [(0, .ref a_v)] := hl
  have hDD : DD A [a_v] := hDD
  have hS : va_S A s.heap s.heap [] := va_S.rf
  have q0 := hts (.fieldLink RX5 22 "HatHours$Shop" "startsAt" "I") (List.mem_of_getElem? (i := 1) rfl)
  have iX5 : ∀ w ∈ u_ws RX5 TX5 4, w ∈ wsX5_startHour := in_slice 2 4 rfl
  refine lv_aload_n hx hb dX5_startHour_0 rfl (lv_at hl 0 rfl) ?_
  refine wi_get (v := .int (zI v_startsAt)) hx hb hts iX5 hown hE hP 0 rfl rfl 3 (by decide) q0 rfl dX5_startHour_1 ?_
  obtain rfl := Option.some.inj h
  exact KR _ _ _ _ hP hS dX5_startHour_4
abbrev wd_X5_fact (cy : Nat → ClassId) (a_v : Nat) (a_v_facts : Nat) (a_v_places : Nat) (v_boxes : Int) (v_startsAt : Int) (v_facts : Nat → Int) : va_W := [(a_v, .inr (5, [.ref a_v_facts, .ref a_v_places, .int (zI v_boxes), .int (zI v_startsAt)])), (a_v_facts, .inl (cy 0, 30, .inl (fun j => zI (v_facts j))))]
set_option maxHeartbeats 4000000 in
set_option maxRecDepth 100000 in
theorem c_X5_fact (l : Launch) (D : va_G) (cy : Nat → ClassId) (sa : Nat → Nat) (a_v : Nat) (a_v_facts : Nat) (a_v_places : Nat) (v_boxes : Int) (v_startsAt : Int) (v_facts : Nat → Int) (x1 : Int) (x2 : Int) (o : Int) (h : f_Shop_fact v_boxes v_facts x1 x2 = some o) : CtI l yX5_fact wsX5_fact ({ frames := 0, cells := 0, slots := 0, locals := 0 }) D cy sa [.ref a_v, .int (zI x1), .int (zI x2)] (wd_X5_fact cy a_v a_v_facts a_v_places v_boxes v_startsAt v_facts) (wd_X5_fact cy a_v a_v_facts a_v_places v_boxes v_startsAt v_facts) o := by
  refine ct_I (cc := cX5_fact) (maxL := 4) (plainFor_of_name (by decide)) rfl (Nat.le_of_ble_eq_true rfl) ?_
  intro p e s m below meth c A args QQ hx hb hml hown hts hE hDD hP KR ls hl
  have hl : lv_has ls 4 [(0, .ref a_v), (1, .int (zI x1)), (2, .int (zI x2))] := hl
  have hDD : DD A [a_v, a_v_facts] := hDD
  have hS : va_S A s.heap s.heap [] := va_S.rf
  have q0 := hts (.fieldLink RX5 11 "HatHours$Shop" "facts" "[I") (List.mem_of_getElem? (i := 2) rfl)
  have q1 := hts (.fieldLink RX5 18 "HatHours$Shop" "boxes" "I") (List.mem_of_getElem? (i := 1) rfl)
  have iX5 : ∀ w ∈ u_ws RX5 TX5 4, w ∈ wsX5_fact := in_slice 3 4 rfl
  refine lv_iload_n hx hb dX5_fact_0 rfl (lv_at hl 1 rfl) ?_
  obtain ⟨hr1, h⟩ := chk_some h
  obtain ⟨o2, hx3, h⟩ := bnd_some h
  have J4 : ∀ (H : Heap) (locs : List Loc) (ls : Array Slot), va_P D vwCl (wd_X5_fact cy a_v a_v_facts a_v_places v_boxes v_startsAt v_facts) H → va_S A s.heap H locs → lv_has ls 4 [(0, .ref a_v), (1, .int (zI x1)), (2, .int (zI x2))] → W p l e { frames := 0, cells := 0, slots := 0, locals := 0 } s m args below meth c H locs 0 0 QQ (F0 m 26 ls [.int (zI o2)]) := by
    intro H locs ls hP hS hl
    refine lv_istore_n (lv' := [(3, .int (zI o2)), (0, .ref a_v), (1, .int (zI x1)), (2, .int (zI x2))]) hx hb dX5_fact_26 rfl hl (by decide) rfl (fun ls hl => ?_)
    refine lv_iload_n hx hb dX5_fact_27 rfl (lv_at hl 0 rfl) ?_
    obtain ⟨hr5, h⟩ := chk_some h
    refine wi_if_eq (tgt := 45) hx hb dX5_fact_28 (by decide) hr5 (fun c7 => ?_) (fun c7 => ?_)
    · have h := ite_t c7 h
      refine wi_ic hx hb dX5_fact_45 ?_
      obtain rfl := Option.some.inj h
      exact KR _ _ _ _ hP hS dX5_fact_46
    · have h := ite_f c7 h
      refine lv_aload_n hx hb dX5_fact_31 rfl (lv_at hl 1 rfl) ?_
      refine wi_get (v := .ref a_v_facts) hx hb hts iX5 hown hE hP 0 rfl rfl 0 (by decide) q0 rfl dX5_fact_32 ?_
      refine lv_iload_n hx hb dX5_fact_35 rfl (lv_at hl 2 rfl) ?_
      refine wi_bi hx hb dX5_fact_36 (by decide) ?_
      refine wi_imul hx hb dX5_fact_38 ?_
      refine lv_iload_n hx hb dX5_fact_39 rfl (lv_at hl 3 rfl) ?_
      refine wi_iadd hx hb dX5_fact_40 ?_
      obtain ⟨hk8, h⟩ := chk_some h
      refine wi_iald hx hb hE hP 1 rfl (by decide) hk8 dX5_fact_41 ?_
      refine lv_goto (tgt := 46) hx hb dX5_fact_42 (by decide) ?_
      obtain rfl := Option.some.inj h
      exact KR _ _ _ _ hP hS dX5_fact_46
  clear h
  have h := hx3
  clear hx3
  refine wi_if_lt (tgt := 25) hx hb dX5_fact_1 (by decide) hr1 (fun c9 => ?_) (fun c9 => ?_)
  · have h := ite_t c9 h
    refine wi_ic hx hb dX5_fact_25 ?_
    obtain rfl := Option.some.inj h
    exact J4 _ _ _ hP hS (lv_sub hl [0, 1, 2] rfl)
  · have h := ite_f c9 h
    refine lv_iload_n hx hb dX5_fact_4 rfl (lv_at hl 1 rfl) ?_
    refine lv_aload_n hx hb dX5_fact_5 rfl (lv_at hl 0 rfl) ?_
    refine wi_get (v := .int (zI v_boxes)) hx hb hts iX5 hown hE hP 0 rfl rfl 2 (by decide) q1 rfl dX5_fact_6 ?_
    obtain ⟨hr10, h⟩ := chk_some h
    refine wi_ic_ge (tgt := 25) hx hb dX5_fact_9 (by decide) hr1 hr10 (fun c12 => ?_) (fun c12 => ?_)
    · have h := ite_t c12 h
      refine wi_ic hx hb dX5_fact_25 ?_
      obtain rfl := Option.some.inj h
      exact J4 _ _ _ hP hS (lv_sub hl [0, 1, 2] rfl)
    · have h := ite_f c12 h
      refine lv_iload_n hx hb dX5_fact_12 rfl (lv_at hl 2 rfl) ?_
      obtain ⟨hr13, h⟩ := chk_some h
      refine wi_if_lt (tgt := 25) hx hb dX5_fact_13 (by decide) hr13 (fun c15 => ?_) (fun c15 => ?_)
      · have h := ite_t c15 h
        refine wi_ic hx hb dX5_fact_25 ?_
        obtain rfl := Option.some.inj h
        exact J4 _ _ _ hP hS (lv_sub hl [0, 1, 2] rfl)
      · have h := ite_f c15 h
        refine lv_iload_n hx hb dX5_fact_16 rfl (lv_at hl 2 rfl) ?_
        refine wi_ic hx hb dX5_fact_17 ?_
        refine wi_ic_gt (tgt := 25) hx hb dX5_fact_18 (by decide) hr13 (by decide) (fun c17 => ?_) (fun c17 => ?_)
        · have h := ite_t c17 h
          refine wi_ic hx hb dX5_fact_25 ?_
          obtain rfl := Option.some.inj h
          exact J4 _ _ _ hP hS (lv_sub hl [0, 1, 2] rfl)
        · have h := ite_f c17 h
          refine wi_ic hx hb dX5_fact_21 ?_
          refine lv_goto (tgt := 26) hx hb dX5_fact_22 (by decide) ?_
          obtain rfl := Option.some.inj h
          exact J4 _ _ _ hP hS (lv_sub hl [0, 1, 2] rfl)
abbrev wd_X5_sumOf (cy : Nat → ClassId) (a_v : Nat) (a_v_facts : Nat) (a_v_places : Nat) (v_boxes : Int) (v_startsAt : Int) (v_facts : Nat → Int) : va_W := [(a_v, .inr (5, [.ref a_v_facts, .ref a_v_places, .int (zI v_boxes), .int (zI v_startsAt)])), (a_v_facts, .inl (cy 0, 30, .inl (fun j => zI (v_facts j))))]
set_option maxHeartbeats 4000000 in
set_option maxRecDepth 100000 in
theorem c_X5_sumOf (l : Launch) (D : va_G) (cy : Nat → ClassId) (sa : Nat → Nat) (a_v : Nat) (a_v_facts : Nat) (a_v_places : Nat) (v_boxes : Int) (v_startsAt : Int) (v_facts : Nat → Int) (x1 : Int) (o : Int) (h : f_Shop_sumOf v_boxes v_facts x1 = some o) : CtI l yX5_sumOf wsX5_sumOf ({ frames := 1, cells := 0, slots := 0, locals := 23 }) D cy sa [.ref a_v, .int (zI x1)] (wd_X5_sumOf cy a_v a_v_facts a_v_places v_boxes v_startsAt v_facts) (wd_X5_sumOf cy a_v a_v_facts a_v_places v_boxes v_startsAt v_facts) o := by
  refine ct_I (cc := cX5_sumOf) (maxL := 4) (plainFor_of_name (by decide)) rfl (Nat.le_of_ble_eq_true rfl) ?_
  intro p e s m below meth c A args QQ hx hb hml hown hts hE hDD hP KR ls hl
  have hl : lv_has ls 4 [(0, .ref a_v), (1, .int (zI x1))] := hl
  have hDD : DD A [a_v, a_v_facts] := hDD
  have hS : va_S A s.heap s.heap [] := va_S.rf
  have q0 := hts (.fieldLink RX5 18 "HatHours$Shop" "boxes" "I") (List.mem_of_getElem? (i := 1) rfl)
  have iX5 : ∀ w ∈ u_ws RX5 TX5 4, w ∈ wsX5_sumOf := in_slice 8 4 rfl
  have L4 : ∀ (fuel : Nat) (x1 : Int) (x2 : Int) (x3 : Int) (H : Heap) (locs : List Loc) (ls : Array Slot) (ex : Int), va_P D vwCl (wd_X5_sumOf cy a_v a_v_facts a_v_places v_boxes v_startsAt v_facts) H → va_S A s.heap H locs → lv_has ls 4 [(0, .ref a_v), (1, .int (zI x1)), (2, .int (zI x2)), (3, .int (zI x3))] → f_Shop_sumOf_L4 fuel v_boxes v_facts x1 x2 x3 = some ex → (∀ (H : Heap) (locs : List Loc) (ls : Array Slot), va_P D vwCl (wd_X5_sumOf cy a_v a_v_facts a_v_places v_boxes v_startsAt v_facts) H → va_S A s.heap H locs → lv_has ls 4 [(2, .int (zI ex))] → W p l e { frames := 1, cells := 0, slots := 0, locals := 23 } s m args below meth c H locs 0 0 QQ (F0 m 27 ls [])) → W p l e { frames := 1, cells := 0, slots := 0, locals := 23 } s m args below meth c H locs 0 0 QQ (F0 m 4 ls []) := by
    intro fuel
    induction fuel with
    | zero => intro _ _ _ H locs ls ex hP hS hl h K; cases h
    | succ fuel ih =>
      intro x1 x2 x3 H locs ls ex hP hS hl h K
      refine lv_iload_n hx hb dX5_sumOf_4 rfl (lv_at hl 3 rfl) ?_
      refine lv_aload_n hx hb dX5_sumOf_5 rfl (lv_at hl 0 rfl) ?_
      refine wi_get (v := .int (zI v_boxes)) hx hb hts iX5 hown hE hP 0 rfl rfl 2 (by decide) q0 rfl dX5_sumOf_6 ?_
      obtain ⟨hr1, h⟩ := chk_some h
      obtain ⟨hr2, h⟩ := chk_some h
      refine wi_ic_ge (tgt := 27) hx hb dX5_sumOf_9 (by decide) hr1 hr2 (fun c4 => ?_) (fun c4 => ?_)
      · have h := ite_t c4 h
        obtain rfl := Option.some.inj h
        exact K _ _ _ hP hS (lv_sub hl [2] rfl)
      · have h := ite_f c4 h
        refine lv_iload_n hx hb dX5_sumOf_12 rfl (lv_at hl 2 rfl) ?_
        refine lv_aload_n hx hb dX5_sumOf_13 rfl (lv_at hl 0 rfl) ?_
        refine lv_iload_n hx hb dX5_sumOf_14 rfl (lv_at hl 3 rfl) ?_
        refine lv_iload_n hx hb dX5_sumOf_15 rfl (lv_at hl 1 rfl) ?_
        obtain ⟨o5, hc6, h⟩ := bnd_some h
        refine cV_i (rest := [.int (zI x2)]) (w2 := (wd_X5_sumOf cy a_v a_v_facts a_v_places v_boxes v_startsAt v_facts)) ⟨hx, hb, hml, hown, hts⟩ (c_X5_fact l D cy sa a_v a_v_facts a_v_places v_boxes v_startsAt v_facts x3 x1 o5 hc6) (cwV 2 hts gX5_sumOf_X5_fact rfl rfl rfl (by decide +kernel) ⟨Nat.le_of_ble_eq_true rfl, Nat.le_of_ble_eq_true rfl⟩) rfl rfl rfl hE hP hDD rfl hS [0, 1] rfl rfl rfl rfl hl.1 (Nat.le_of_ble_eq_true rfl) ⟨Nat.zero_le _, Nat.zero_le _⟩ rfl dX5_sumOf_16 rfl (fun H locs hP hS => ?_)
        refine wi_iadd hx hb dX5_sumOf_19 ?_
        refine lv_istore_n (lv' := [(2, .int (zI (x2 + o5))), (0, .ref a_v), (1, .int (zI x1)), (3, .int (zI x3))]) hx hb dX5_sumOf_20 rfl hl (by decide) rfl (fun ls hl => ?_)
        refine wi_iinc (k := 3) (lv' := [(3, .int (zI (x3 + 1))), (2, .int (zI (x2 + o5))), (0, .ref a_v), (1, .int (zI x1))]) hx hb dX5_sumOf_21 hl rfl (by decide) rfl (fun ls hl => ?_)
        refine lv_goto (tgt := 4) hx hb dX5_sumOf_24 (by decide) ?_
        exact ih x1 (x2 + o5) (x3 + 1) _ _ _ _ hP hS (lv_sub hl [2, 3, 1, 0] rfl) h K
  refine wi_ic hx hb dX5_sumOf_0 ?_
  refine lv_istore_n (lv' := [(2, .int (zI 0)), (0, .ref a_v), (1, .int (zI x1))]) hx hb dX5_sumOf_1 rfl hl (by decide) rfl (fun ls hl => ?_)
  refine wi_ic hx hb dX5_sumOf_2 ?_
  refine lv_istore_n (lv' := [(3, .int (zI 0)), (2, .int (zI 0)), (0, .ref a_v), (1, .int (zI x1))]) hx hb dX5_sumOf_3 rfl hl (by decide) rfl (fun ls hl => ?_)
  obtain ⟨o7, hx8, h⟩ := bnd_some h
  refine L4 5000 x1 0 0 _ _ _ _ hP hS (lv_sub hl [2, 3, 1, 0] rfl) hx8 ?_
  clear hx8
  intro H locs ls hP hS hl
  refine lv_iload_n hx hb dX5_sumOf_27 rfl (lv_at hl 0 rfl) ?_
  obtain rfl := Option.some.inj h
  exact KR _ _ _ _ hP hS dX5_sumOf_28
abbrev wd_X5_wrongOf (cy : Nat → ClassId) (a_v : Nat) (a_v_facts : Nat) (a_v_places : Nat) (v_boxes : Int) (v_startsAt : Int) (v_facts : Nat → Int) : va_W := [(a_v, .inr (5, [.ref a_v_facts, .ref a_v_places, .int (zI v_boxes), .int (zI v_startsAt)])), (a_v_facts, .inl (cy 0, 30, .inl (fun j => zI (v_facts j))))]
set_option maxHeartbeats 4000000 in
set_option maxRecDepth 100000 in
theorem c_X5_wrongOf (l : Launch) (D : va_G) (cy : Nat → ClassId) (sa : Nat → Nat) (a_v : Nat) (a_v_facts : Nat) (a_v_places : Nat) (v_boxes : Int) (v_startsAt : Int) (v_facts : Nat → Int) (x1 : Int) (x2 : Int) (o : Int) (h : f_Shop_wrongOf v_boxes v_facts x1 x2 = some o) : CtI l yX5_wrongOf wsX5_wrongOf ({ frames := 1, cells := 0, slots := 0, locals := 23 }) D cy sa [.ref a_v, .int (zI x1), .int (zI x2)] (wd_X5_wrongOf cy a_v a_v_facts a_v_places v_boxes v_startsAt v_facts) (wd_X5_wrongOf cy a_v a_v_facts a_v_places v_boxes v_startsAt v_facts) o := by
  refine ct_I (cc := cX5_wrongOf) (maxL := 4) (plainFor_of_name (by decide)) rfl (Nat.le_of_ble_eq_true rfl) ?_
  intro p e s m below meth c A args QQ hx hb hml hown hts hE hDD hP KR ls hl
  have hl : lv_has ls 4 [(0, .ref a_v), (1, .int (zI x1)), (2, .int (zI x2))] := hl
  have hDD : DD A [a_v, a_v_facts] := hDD
  have hS : va_S A s.heap s.heap [] := va_S.rf
  have q0 := hts (.methodLink RX5 77 Lib.Math.min.name) (List.mem_of_getElem? (i := 1) rfl)
  have q1 := hts (.static Lib.Math.min.name) (List.mem_of_getElem? (i := 2) rfl)
  have q2 := hts (.initialized "java/lang/Math") (List.mem_of_getElem? (i := 3) rfl)
  have q3 := hts (.code Lib.Math.min.name Lib.Math.min.code 2 (some .int)) (List.mem_of_getElem? (i := 4) rfl)
  refine lv_iload_n hx hb dX5_wrongOf_0 rfl (lv_at hl 2 rfl) ?_
  refine lv_aload_n hx hb dX5_wrongOf_1 rfl (lv_at hl 0 rfl) ?_
  refine lv_iload_n hx hb dX5_wrongOf_2 rfl (lv_at hl 1 rfl) ?_
  refine wi_ic hx hb dX5_wrongOf_3 ?_
  obtain ⟨o1, hc2, h⟩ := bnd_some h
  refine cV_i (rest := [.int (zI x2)]) (w2 := (wd_X5_wrongOf cy a_v a_v_facts a_v_places v_boxes v_startsAt v_facts)) ⟨hx, hb, hml, hown, hts⟩ (c_X5_fact l D cy sa a_v a_v_facts a_v_places v_boxes v_startsAt v_facts x1 2 o1 hc2) (cwV 2 hts gX5_wrongOf_X5_fact rfl rfl rfl (by decide +kernel) ⟨Nat.le_of_ble_eq_true rfl, Nat.le_of_ble_eq_true rfl⟩) rfl rfl rfl hE hP hDD rfl hS [0, 1] rfl rfl rfl rfl hl.1 (Nat.le_of_ble_eq_true rfl) ⟨Nat.zero_le _, Nat.zero_le _⟩ rfl dX5_wrongOf_4 rfl (fun H locs hP hS => ?_)
  refine wi_isub hx hb dX5_wrongOf_7 ?_
  refine wi_bi hx hb dX5_wrongOf_8 (by decide) ?_
  obtain ⟨o3, hc4, h⟩ := bnd_some h
  refine cS_i (rest := []) (w2 := (wd_X5_wrongOf cy a_v a_v_facts a_v_places v_boxes v_startsAt v_facts)) ⟨hx, hb, hml, hown, hts⟩ (c_J9_floorMod_7cf53 l D cy sa (x2 - o1) 24 o3 hc4) (va_cwS 2 hts gX5_wrongOf_J9_floorMod_7cf53 rfl rfl rfl (by decide +kernel) ⟨Nat.le_of_ble_eq_true rfl, Nat.le_of_ble_eq_true rfl⟩) hE hP hDD rfl hS [] rfl rfl rfl rfl hl.1 (Nat.le_of_ble_eq_true rfl) ⟨Nat.zero_le _, Nat.zero_le _⟩ rfl dX5_wrongOf_10 rfl (fun H locs hP hS => ?_)
  refine lv_istore_n (lv' := [(3, .int (zI o3)), (0, .ref a_v), (1, .int (zI x1)), (2, .int (zI x2))]) hx hb dX5_wrongOf_13 rfl hl (by decide) rfl (fun ls hl => ?_)
  refine lv_aload_n hx hb dX5_wrongOf_14 rfl (lv_at hl 1 rfl) ?_
  refine lv_iload_n hx hb dX5_wrongOf_15 rfl (lv_at hl 2 rfl) ?_
  refine wi_ic hx hb dX5_wrongOf_16 ?_
  obtain ⟨o5, hc6, h⟩ := bnd_some h
  refine cV_i (rest := []) (w2 := (wd_X5_wrongOf cy a_v a_v_facts a_v_places v_boxes v_startsAt v_facts)) ⟨hx, hb, hml, hown, hts⟩ (c_X5_fact l D cy sa a_v a_v_facts a_v_places v_boxes v_startsAt v_facts x1 3 o5 hc6) (cwV 2 hts gX5_wrongOf_X5_fact rfl rfl rfl (by decide +kernel) ⟨Nat.le_of_ble_eq_true rfl, Nat.le_of_ble_eq_true rfl⟩) rfl rfl rfl hE hP hDD rfl hS [0, 1] rfl rfl rfl rfl hl.1 (Nat.le_of_ble_eq_true rfl) ⟨Nat.zero_le _, Nat.zero_le _⟩ rfl dX5_wrongOf_17 rfl (fun H locs hP hS => ?_)
  refine lv_iload_n hx hb dX5_wrongOf_20 rfl (lv_at hl 0 rfl) ?_
  refine wi_bi hx hb dX5_wrongOf_21 (by decide) ?_
  refine lv_iload_n hx hb dX5_wrongOf_23 rfl (lv_at hl 0 rfl) ?_
  refine wi_isub hx hb dX5_wrongOf_24 ?_
  obtain ⟨hr7, h⟩ := chk_some h
  obtain ⟨hr8, h⟩ := chk_some h
  refine wi_min hx hb (by rw [hml]; exact hl.1.symm) hown q0 q1 q2 q3 (Nat.le_of_ble_eq_true rfl) (Nat.le_of_ble_eq_true rfl) ⟨Nat.zero_le _, Nat.zero_le _⟩ hr7 hr8 dX5_wrongOf_25 ?_
  refine wi_imul hx hb dX5_wrongOf_28 ?_
  obtain rfl := Option.some.inj h
  exact KR _ _ _ _ hP hS dX5_wrongOf_29
