abbrev wd_X4_sizeOf (cy : Nat → ClassId) (a_v : Nat) (a_v_sizes : Nat) (a_v_cells : Nat) (a_v_lanes : Nat) (v_sizes : Nat → Int) : va_W := [(a_v, .inr (4, [.ref a_v_cells, .ref a_v_lanes, .ref a_v_sizes])), (a_v_sizes, .inl (cy 0, 4, .inl (fun j => zI (v_sizes j))))]
set_option maxHeartbeats 4000000 in
set_option maxRecDepth 100000 in
theorem c_X4_sizeOf (l : Launch) (D : va_G) (cy : Nat → ClassId) (sa : Nat → Nat) (a_v : Nat) (a_v_sizes : Nat) (a_v_cells : Nat) (a_v_lanes : Nat) (v_sizes : Nat → Int) (x1 : Int) (o : Int) (h : f_Sheets_sizeOf v_sizes x1 = some o) : CtI l yX4_sizeOf wsX4_sizeOf ({ frames := 2, cells := 0, slots := 0, locals := 42 }) D cy sa [.ref a_v, .int (zI x1)] (wd_X4_sizeOf cy a_v a_v_sizes a_v_cells a_v_lanes v_sizes) (wd_X4_sizeOf cy a_v a_v_sizes a_v_cells a_v_lanes v_sizes) o := by
  refine ct_I (cc := cX4_sizeOf) (maxL := 2) (plainFor_of_name (by decide)) rfl (Nat.le_of_ble_eq_true rfl) ?_
  intro p e s m below meth c A args QQ hx hb hml hown hts hE hDD hP KR ls hl
  have hl : lv_has ls 2 [(0, .ref a_v), (1, .int (zI x1))] := hl
  have hDD : DD A [a_v, a_v_sizes] := hDD
  have hS : va_S A s.heap s.heap [] := va_S.rf
  have q0 := hts (.fieldLink RX4 18 "HatHours$Sheets" "sizes" "[I") (List.mem_of_getElem? (i := 1) rfl)
  have iX4 : ∀ w ∈ u_ws RX4 TX4 3, w ∈ wsX4_sizeOf := in_slice 9 3 rfl
  refine lv_iload_n hx hb dX4_sizeOf_0 rfl (lv_at hl 1 rfl) ?_
  obtain ⟨o1, hc2, h⟩ := bnd_some h
  refine cS_i (rest := []) (w2 := (wd_X4_sizeOf cy a_v a_v_sizes a_v_cells a_v_lanes v_sizes)) ⟨hx, hb, hml, hown, hts⟩ (c_X4_has l D cy sa x1 o1 hc2) (va_cwS 1 hts gX4_sizeOf_X4_has rfl rfl rfl (by decide +kernel) ⟨Nat.le_of_ble_eq_true rfl, Nat.le_of_ble_eq_true rfl⟩) hE hP hDD rfl hS [] rfl rfl rfl rfl hl.1 (Nat.le_of_ble_eq_true rfl) ⟨Nat.zero_le _, Nat.zero_le _⟩ rfl dX4_sizeOf_1 rfl (fun H locs hP hS => ?_)
  obtain ⟨hr3, h⟩ := chk_some h
  refine wi_if_eq (tgt := 16) hx hb dX4_sizeOf_4 (by decide) hr3 (fun c5 => ?_) (fun c5 => ?_)
  · have h := ite_t c5 h
    refine wi_bi hx hb dX4_sizeOf_16 (by decide) ?_
    obtain rfl := Option.some.inj h
    exact KR _ _ _ _ hP hS dX4_sizeOf_18
  · have h := ite_f c5 h
    refine lv_aload_n hx hb dX4_sizeOf_7 rfl (lv_at hl 0 rfl) ?_
    refine wi_get (v := .ref a_v_sizes) hx hb hts iX4 hown hE hP 0 rfl rfl 2 (by decide) q0 rfl dX4_sizeOf_8 ?_
    refine lv_iload_n hx hb dX4_sizeOf_11 rfl (lv_at hl 1 rfl) ?_
    obtain ⟨hk6, h⟩ := chk_some h
    refine wi_iald hx hb hE hP 1 rfl (by decide) hk6 dX4_sizeOf_12 ?_
    refine lv_goto (tgt := 18) hx hb dX4_sizeOf_13 (by decide) ?_
    obtain rfl := Option.some.inj h
    exact KR _ _ _ _ hP hS dX4_sizeOf_18
abbrev wd_X4_hasCell (cy : Nat → ClassId) (a_v : Nat) (a_v_sizes : Nat) (a_v_cells : Nat) (a_v_lanes : Nat) (v_sizes : Nat → Int) : va_W := [(a_v, .inr (4, [.ref a_v_cells, .ref a_v_lanes, .ref a_v_sizes])), (a_v_sizes, .inl (cy 0, 4, .inl (fun j => zI (v_sizes j))))]
set_option maxHeartbeats 4000000 in
set_option maxRecDepth 100000 in
theorem c_X4_hasCell (l : Launch) (D : va_G) (cy : Nat → ClassId) (sa : Nat → Nat) (a_v : Nat) (a_v_sizes : Nat) (a_v_cells : Nat) (a_v_lanes : Nat) (v_sizes : Nat → Int) (x1 : Int) (x2 : Int) (o : Int) (h : f_Sheets_hasCell v_sizes x1 x2 = some o) : CtI l yX4_hasCell wsX4_hasCell ({ frames := 2, cells := 0, slots := 0, locals := 42 }) D cy sa [.ref a_v, .int (zI x1), .int (zI x2)] (wd_X4_hasCell cy a_v a_v_sizes a_v_cells a_v_lanes v_sizes) (wd_X4_hasCell cy a_v a_v_sizes a_v_cells a_v_lanes v_sizes) o := by
  refine ct_Z (cc := cX4_hasCell) (maxL := 3) (plainFor_of_name (by decide)) rfl (Nat.le_of_ble_eq_true rfl) ?_
  intro p e s m below meth c A args QQ hx hb hml hown hts hE hDD hP KR ls hl
  have hl : lv_has ls 3 [(0, .ref a_v), (1, .int (zI x1)), (2, .int (zI x2))] := hl
  have hDD : DD A [a_v, a_v_sizes] := hDD
  have hS : va_S A s.heap s.heap [] := va_S.rf
  have q0 := hts (.fieldLink RX4 18 "HatHours$Sheets" "sizes" "[I") (List.mem_of_getElem? (i := 1) rfl)
  have iX4 : ∀ w ∈ u_ws RX4 TX4 3, w ∈ wsX4_hasCell := in_slice 9 3 rfl
  refine lv_iload_n hx hb dX4_hasCell_0 rfl (lv_at hl 1 rfl) ?_
  obtain ⟨o1, hc2, h⟩ := bnd_some h
  refine cS_i (rest := []) (w2 := (wd_X4_hasCell cy a_v a_v_sizes a_v_cells a_v_lanes v_sizes)) ⟨hx, hb, hml, hown, hts⟩ (c_X4_has l D cy sa x1 o1 hc2) (va_cwS 1 hts gX4_hasCell_X4_has rfl rfl rfl (by decide +kernel) ⟨Nat.le_of_ble_eq_true rfl, Nat.le_of_ble_eq_true rfl⟩) hE hP hDD rfl hS [] rfl rfl rfl rfl hl.1 (Nat.le_of_ble_eq_true rfl) ⟨Nat.zero_le _, Nat.zero_le _⟩ rfl dX4_hasCell_1 rfl (fun H locs hP hS => ?_)
  obtain ⟨hr3, h⟩ := chk_some h
  refine wi_if_eq (tgt := 25) hx hb dX4_hasCell_4 (by decide) hr3 (fun c5 => ?_) (fun c5 => ?_)
  · have h := ite_t c5 h
    refine wi_ic hx hb dX4_hasCell_25 ?_
    obtain rfl := Option.some.inj h
    exact KR _ _ _ _ (z01 (Or.inl rfl)) hP hS dX4_hasCell_26
  · have h := ite_f c5 h
    refine lv_iload_n hx hb dX4_hasCell_7 rfl (lv_at hl 2 rfl) ?_
    obtain ⟨hr6, h⟩ := chk_some h
    refine wi_if_lt (tgt := 25) hx hb dX4_hasCell_8 (by decide) hr6 (fun c8 => ?_) (fun c8 => ?_)
    · have h := ite_t c8 h
      refine wi_ic hx hb dX4_hasCell_25 ?_
      obtain rfl := Option.some.inj h
      exact KR _ _ _ _ (z01 (Or.inl rfl)) hP hS dX4_hasCell_26
    · have h := ite_f c8 h
      refine lv_iload_n hx hb dX4_hasCell_11 rfl (lv_at hl 2 rfl) ?_
      refine lv_aload_n hx hb dX4_hasCell_12 rfl (lv_at hl 0 rfl) ?_
      refine wi_get (v := .ref a_v_sizes) hx hb hts iX4 hown hE hP 0 rfl rfl 2 (by decide) q0 rfl dX4_hasCell_13 ?_
      refine lv_iload_n hx hb dX4_hasCell_16 rfl (lv_at hl 1 rfl) ?_
      obtain ⟨hk9, h⟩ := chk_some h
      refine wi_iald hx hb hE hP 1 rfl (by decide) hk9 dX4_hasCell_17 ?_
      obtain ⟨hr10, h⟩ := chk_some h
      refine wi_ic_ge (tgt := 25) hx hb dX4_hasCell_18 (by decide) hr6 hr10 (fun c12 => ?_) (fun c12 => ?_)
      · have h := ite_t c12 h
        refine wi_ic hx hb dX4_hasCell_25 ?_
        obtain rfl := Option.some.inj h
        exact KR _ _ _ _ (z01 (Or.inl rfl)) hP hS dX4_hasCell_26
      · have h := ite_f c12 h
        refine wi_ic hx hb dX4_hasCell_21 ?_
        refine lv_goto (tgt := 26) hx hb dX4_hasCell_22 (by decide) ?_
        obtain rfl := Option.some.inj h
        exact KR _ _ _ _ (z01 (Or.inr rfl)) hP hS dX4_hasCell_26
abbrev wd_X4_faultAt (cy : Nat → ClassId) (a_v : Nat) (a_v_lanes : Nat) (a_v_sizes : Nat) (a_v_cells : Nat) (v_lanes : Nat → Int) (v_sizes : Nat → Int) : va_W := [(a_v, .inr (4, [.ref a_v_cells, .ref a_v_lanes, .ref a_v_sizes])), (a_v_lanes, .inl (cy 0, 4, .inl (fun j => zI (v_lanes j)))), (a_v_sizes, .inl (cy 0, 4, .inl (fun j => zI (v_sizes j))))]
set_option maxHeartbeats 4000000 in
set_option maxRecDepth 100000 in
theorem c_X4_faultAt (l : Launch) (D : va_G) (cy : Nat → ClassId) (sa : Nat → Nat) (a_v : Nat) (a_v_lanes : Nat) (a_v_sizes : Nat) (a_v_cells : Nat) (v_lanes : Nat → Int) (v_sizes : Nat → Int) (x1 : Int) (x2 : Int) (x3 : Int) (o : Int) (h : f_Sheets_faultAt v_lanes v_sizes x1 x2 x3 = some o) : CtI l yX4_faultAt wsX4_faultAt ({ frames := 3, cells := 0, slots := 0, locals := 64 }) D cy sa [.ref a_v, .int (zI x1), .int (zI x2), .int (zI x3)] (wd_X4_faultAt cy a_v a_v_lanes a_v_sizes a_v_cells v_lanes v_sizes) (wd_X4_faultAt cy a_v a_v_lanes a_v_sizes a_v_cells v_lanes v_sizes) o := by
  refine ct_I (cc := cX4_faultAt) (maxL := 4) (plainFor_of_name (by decide)) rfl (Nat.le_of_ble_eq_true rfl) ?_
  intro p e s m below meth c A args QQ hx hb hml hown hts hE hDD hP KR ls hl
  have hl : lv_has ls 4 [(0, .ref a_v), (1, .int (zI x1)), (2, .int (zI x2)), (3, .int (zI x3))] := hl
  have hDD : DD A [a_v, a_v_lanes, a_v_sizes] := hDD
  have hS : va_S A s.heap s.heap [] := va_S.rf
  refine lv_aload_n hx hb dX4_faultAt_0 rfl (lv_at hl 0 rfl) ?_
  refine lv_iload_n hx hb dX4_faultAt_1 rfl (lv_at hl 1 rfl) ?_
  obtain ⟨o1, hc2, h⟩ := bnd_some h
  refine cV_i (rest := []) (w2 := (wd_X4_faultAt cy a_v a_v_lanes a_v_sizes a_v_cells v_lanes v_sizes)) ⟨hx, hb, hml, hown, hts⟩ (c_X4_sizeOf l D cy sa a_v a_v_sizes a_v_cells a_v_lanes v_sizes x1 o1 hc2) (cwV 1 hts gX4_faultAt_X4_sizeOf rfl rfl rfl (by decide +kernel) ⟨Nat.le_of_ble_eq_true rfl, Nat.le_of_ble_eq_true rfl⟩) rfl rfl rfl hE hP hDD rfl hS [0, 2] rfl rfl rfl rfl hl.1 (Nat.le_of_ble_eq_true rfl) ⟨Nat.zero_le _, Nat.zero_le _⟩ rfl dX4_faultAt_2 rfl (fun H locs hP hS => ?_)
  refine wi_bi hx hb dX4_faultAt_5 (by decide) ?_
  obtain ⟨hr3, h⟩ := chk_some h
  refine wi_ic_ne (tgt := 12) hx hb dX4_faultAt_7 (by decide) hr3 (by decide) (fun c5 => ?_) (fun c5 => ?_)
  · have h := ite_f c5 h
    refine lv_aload_n hx hb dX4_faultAt_12 rfl (lv_at hl 0 rfl) ?_
    refine lv_iload_n hx hb dX4_faultAt_13 rfl (lv_at hl 1 rfl) ?_
    obtain ⟨o6, hc7, h⟩ := bnd_some h
    refine cV_i (rest := []) (w2 := (wd_X4_faultAt cy a_v a_v_lanes a_v_sizes a_v_cells v_lanes v_sizes)) ⟨hx, hb, hml, hown, hts⟩ (c_X4_laneOf l D cy sa a_v a_v_lanes a_v_cells a_v_sizes v_lanes x1 o6 hc7) (cwV 1 hts gX4_faultAt_X4_laneOf rfl rfl rfl (by decide +kernel) ⟨Nat.le_of_ble_eq_true rfl, Nat.le_of_ble_eq_true rfl⟩) rfl rfl rfl hE hP hDD rfl hS [0, 1] rfl rfl rfl rfl hl.1 (Nat.le_of_ble_eq_true rfl) ⟨Nat.zero_le _, Nat.zero_le _⟩ rfl dX4_faultAt_14 rfl (fun H locs hP hS => ?_)
    refine lv_iload_n hx hb dX4_faultAt_17 rfl (lv_at hl 2 rfl) ?_
    obtain ⟨hr8, h⟩ := chk_some h
    obtain ⟨hr9, h⟩ := chk_some h
    refine wi_ic_eq (tgt := 23) hx hb dX4_faultAt_18 (by decide) hr8 hr9 (fun c11 => ?_) (fun c11 => ?_)
    · have h := ite_t c11 h
      refine lv_aload_n hx hb dX4_faultAt_23 rfl (lv_at hl 0 rfl) ?_
      refine lv_iload_n hx hb dX4_faultAt_24 rfl (lv_at hl 1 rfl) ?_
      refine lv_iload_n hx hb dX4_faultAt_25 rfl (lv_at hl 3 rfl) ?_
      obtain ⟨o12, hc13, h⟩ := bnd_some h
      refine cV_i (rest := []) (w2 := (wd_X4_faultAt cy a_v a_v_lanes a_v_sizes a_v_cells v_lanes v_sizes)) ⟨hx, hb, hml, hown, hts⟩ (c_X4_hasCell l D cy sa a_v a_v_sizes a_v_cells a_v_lanes v_sizes x1 x3 o12 hc13) (cwV 2 hts gX4_faultAt_X4_hasCell rfl rfl rfl (by decide +kernel) ⟨Nat.le_of_ble_eq_true rfl, Nat.le_of_ble_eq_true rfl⟩) rfl rfl rfl hE hP hDD rfl hS [0, 2] rfl rfl rfl rfl hl.1 (Nat.le_of_ble_eq_true rfl) ⟨Nat.zero_le _, Nat.zero_le _⟩ rfl dX4_faultAt_26 rfl (fun H locs hP hS => ?_)
      obtain ⟨hr14, h⟩ := chk_some h
      refine wi_if_eq (tgt := 36) hx hb dX4_faultAt_29 (by decide) hr14 (fun c16 => ?_) (fun c16 => ?_)
      · have h := ite_t c16 h
        refine wi_ic hx hb dX4_faultAt_36 ?_
        obtain rfl := Option.some.inj h
        exact KR _ _ _ _ hP hS dX4_faultAt_37
      · have h := ite_f c16 h
        refine wi_ic hx hb dX4_faultAt_32 ?_
        refine lv_goto (tgt := 37) hx hb dX4_faultAt_33 (by decide) ?_
        obtain rfl := Option.some.inj h
        exact KR _ _ _ _ hP hS dX4_faultAt_37
    · have h := ite_f c11 h
      refine wi_ic hx hb dX4_faultAt_21 ?_
      obtain rfl := Option.some.inj h
      exact KR _ _ _ _ hP hS dX4_faultAt_22
  · have h := ite_t c5 h
    refine wi_ic hx hb dX4_faultAt_10 ?_
    obtain rfl := Option.some.inj h
    exact KR _ _ _ _ hP hS dX4_faultAt_11
abbrev wd_X4_narrowed (cy : Nat → ClassId) : va_W := []
set_option maxHeartbeats 4000000 in
set_option maxRecDepth 100000 in
theorem c_X4_narrowed (l : Launch) (D : va_G) (cy : Nat → ClassId) (sa : Nat → Nat) (x0 : Int) (x1 : Int) (o : Int) (h : f_Sheets_narrowed x0 x1 = some o) : CtI l yX4_narrowed wsX4_narrowed ({ frames := 0, cells := 0, slots := 0, locals := 0 }) D cy sa [.int (zI x0), .int (zI x1)] (wd_X4_narrowed cy ) (wd_X4_narrowed cy ) o := by
  refine ct_I (cc := cX4_narrowed) (maxL := 2) (plainFor_of_name (by decide)) rfl (Nat.le_of_ble_eq_true rfl) ?_
  intro p e s m below meth c A args QQ hx hb hml hown hts hE hDD hP KR ls hl
  have hl : lv_has ls 2 [(0, .int (zI x0)), (1, .int (zI x1))] := hl
  have hDD : DD A [] := hDD
  have hS : va_S A s.heap s.heap [] := va_S.rf
  refine lv_iload_n hx hb dX4_narrowed_0 rfl (lv_at hl 0 rfl) ?_
  obtain ⟨hr1, h⟩ := chk_some h
  refine wi_if_ne (tgt := 7) hx hb dX4_narrowed_1 (by decide) hr1 (fun c3 => ?_) (fun c3 => ?_)
  · have h := ite_f c3 h
    refine lv_iload_n hx hb dX4_narrowed_7 rfl (lv_at hl 0 rfl) ?_
    refine wi_ic hx hb dX4_narrowed_8 ?_
    refine wi_ic_ne (tgt := 17) hx hb dX4_narrowed_9 (by decide) hr1 (by decide) (fun c5 => ?_) (fun c5 => ?_)
    · have h := ite_f c5 h
      refine lv_iload_n hx hb dX4_narrowed_17 rfl (lv_at hl 1 rfl) ?_
      obtain rfl := Option.some.inj h
      exact KR _ _ _ _ hP hS dX4_narrowed_18
    · have h := ite_t c5 h
      refine lv_iload_n hx hb dX4_narrowed_12 rfl (lv_at hl 1 rfl) ?_
      refine wi_i2s hx hb dX4_narrowed_13 ?_
      refine lv_goto (tgt := 18) hx hb dX4_narrowed_14 (by decide) ?_
      obtain rfl := Option.some.inj h
      exact KR _ _ _ _ hP hS dX4_narrowed_18
  · have h := ite_t c3 h
    refine lv_iload_n hx hb dX4_narrowed_4 rfl (lv_at hl 1 rfl) ?_
    refine wi_i2b hx hb dX4_narrowed_5 ?_
    obtain rfl := Option.some.inj h
    exact KR _ _ _ _ hP hS dX4_narrowed_6
abbrev wd_X4_put (cy : Nat → ClassId) (a_v : Nat) (a_v_cells : Nat) (a_v_lanes : Nat) (a_v_sizes : Nat) (v_cells : Nat → Int) (v_lanes : Nat → Int) (v_sizes : Nat → Int) : va_W := [(a_v, .inr (4, [.ref a_v_cells, .ref a_v_lanes, .ref a_v_sizes])), (a_v_cells, .inl (cy 0, 160, .inl (fun j => zI (v_cells j)))), (a_v_lanes, .inl (cy 0, 4, .inl (fun j => zI (v_lanes j)))), (a_v_sizes, .inl (cy 0, 4, .inl (fun j => zI (v_sizes j))))]
set_option maxHeartbeats 4000000 in
set_option maxRecDepth 100000 in
theorem c_X4_put (l : Launch) (D : va_G) (cy : Nat → ClassId) (sa : Nat → Nat) (a_v : Nat) (a_v_cells : Nat) (a_v_lanes : Nat) (a_v_sizes : Nat) (v_cells : Nat → Int) (v_lanes : Nat → Int) (v_sizes : Nat → Int) (x1 : Int) (x2 : Int) (x3 : Int) (o : (Nat → Int)) (h : f_Sheets_put v_cells v_lanes v_sizes x1 x2 x3 = some o) : CtV l yX4_put wsX4_put ({ frames := 3, cells := 0, slots := 0, locals := 64 }) D cy sa [.ref a_v, .int (zI x1), .int (zI x2), .int (zI x3)] (wd_X4_put cy a_v a_v_cells a_v_lanes a_v_sizes v_cells v_lanes v_sizes) (wd_X4_put cy a_v a_v_cells a_v_lanes a_v_sizes o v_lanes v_sizes)  := by
  refine ct_V (cc := cX4_put) (maxL := 4) (plainFor_of_name (by decide)) rfl (Nat.le_of_ble_eq_true rfl) ?_
  intro p e s m below meth c A args QQ hx hb hml hown hts hE hDD hP KR ls hl
  have hl : lv_has ls 4 [(0, .ref a_v), (1, .int (zI x1)), (2, .int (zI x2)), (3, .int (zI x3))] := hl
  have hDD : DD A [a_v, a_v_cells, a_v_lanes, a_v_sizes] := hDD
  have hS : va_S A s.heap s.heap [] := va_S.rf
  have q0 := hts (.fieldLink RX4 11 "HatHours$Sheets" "cells" "[I") (List.mem_of_getElem? (i := 1) rfl)
  have q1 := hts (.fieldLink RX4 15 "HatHours$Sheets" "lanes" "[I") (List.mem_of_getElem? (i := 2) rfl)
  have iX4 : ∀ w ∈ u_ws RX4 TX4 3, w ∈ wsX4_put := in_slice 18 3 rfl
  refine lv_aload_n hx hb dX4_put_0 rfl (lv_at hl 0 rfl) ?_
  refine lv_iload_n hx hb dX4_put_1 rfl (lv_at hl 1 rfl) ?_
  refine lv_iload_n hx hb dX4_put_2 rfl (lv_at hl 2 rfl) ?_
  obtain ⟨o1, hc2, h⟩ := bnd_some h
  refine cV_i (rest := []) (w2 := (wd_X4_put cy a_v a_v_cells a_v_lanes a_v_sizes v_cells v_lanes v_sizes)) ⟨hx, hb, hml, hown, hts⟩ (c_X4_hasCell l D cy sa a_v a_v_sizes a_v_cells a_v_lanes v_sizes x1 x2 o1 hc2) (cwV 2 hts gX4_put_X4_hasCell rfl rfl rfl (by decide +kernel) ⟨Nat.le_of_ble_eq_true rfl, Nat.le_of_ble_eq_true rfl⟩) rfl rfl rfl hE hP hDD rfl hS [0, 3] rfl rfl rfl rfl hl.1 (Nat.le_of_ble_eq_true rfl) ⟨Nat.zero_le _, Nat.zero_le _⟩ rfl dX4_put_3 rfl (fun H locs hP hS => ?_)
  obtain ⟨hr3, h⟩ := chk_some h
  refine wi_if_eq (tgt := 30) hx hb dX4_put_6 (by decide) hr3 (fun c5 => ?_) (fun c5 => ?_)
  · have h := ite_t c5 h
    obtain rfl := Option.some.inj h
    exact KR _ _ _ _ hP hS dX4_put_30
  · have h := ite_f c5 h
    refine lv_aload_n hx hb dX4_put_9 rfl (lv_at hl 0 rfl) ?_
    refine wi_get (v := .ref a_v_cells) hx hb hts iX4 hown hE hP 0 rfl rfl 0 (by decide) q0 rfl dX4_put_10 ?_
    refine lv_iload_n hx hb dX4_put_13 rfl (lv_at hl 1 rfl) ?_
    refine wi_bi hx hb dX4_put_14 (by decide) ?_
    refine wi_imul hx hb dX4_put_16 ?_
    refine lv_iload_n hx hb dX4_put_17 rfl (lv_at hl 2 rfl) ?_
    refine wi_iadd hx hb dX4_put_18 ?_
    refine lv_aload_n hx hb dX4_put_19 rfl (lv_at hl 0 rfl) ?_
    refine wi_get (v := .ref a_v_lanes) hx hb hts iX4 hown hE hP 0 rfl rfl 1 (by decide) q1 rfl dX4_put_20 ?_
    refine lv_iload_n hx hb dX4_put_23 rfl (lv_at hl 1 rfl) ?_
    obtain ⟨hk6, h⟩ := chk_some h
    refine wi_iald hx hb hE hP 2 rfl (by decide) hk6 dX4_put_24 ?_
    refine lv_iload_n hx hb dX4_put_25 rfl (lv_at hl 3 rfl) ?_
    obtain ⟨o7, hc8, h⟩ := bnd_some h
    refine cS_i (rest := [.int (zI ((x1 * 40) + x2)), .ref a_v_cells]) (w2 := (wd_X4_put cy a_v a_v_cells a_v_lanes a_v_sizes v_cells v_lanes v_sizes)) ⟨hx, hb, hml, hown, hts⟩ (c_X4_narrowed l D cy sa (v_lanes (x1).toNat) x3 o7 hc8) (va_cwS 2 hts gX4_put_X4_narrowed rfl rfl rfl (by decide +kernel) ⟨Nat.le_of_ble_eq_true rfl, Nat.le_of_ble_eq_true rfl⟩) hE hP hDD rfl hS [] rfl rfl rfl rfl hl.1 (Nat.le_of_ble_eq_true rfl) ⟨Nat.zero_le _, Nat.zero_le _⟩ rfl dX4_put_26 rfl (fun H locs hP hS => ?_)
    obtain ⟨hk9, h⟩ := chk_some h
    refine wi_iast (w2 := (wd_X4_put cy a_v a_v_cells a_v_lanes a_v_sizes (upZ v_cells ((x1 * 40) + x2).toNat o7) v_lanes v_sizes)) hx hb hE hP hDD rfl hS 1 rfl (by decide) hk9 dX4_put_29 rfl (fun H locs hP hS => ?_)
    obtain rfl := Option.some.inj h
    exact KR _ _ _ _ hP hS dX4_put_30
abbrev wd_X3_draftOf (cy : Nat → ClassId) (a_v : Nat) (a_v_draft : Nat) (a_v_draft_facts : Nat) (a_v_draft_places : Nat) (a_u1 : Nat) (a_u1_facts : Nat) (a_u1_places : Nat) (a_v_least : Nat) (a_v_bestPlaces : Nat) (a_v_startsLeft : Nat) (v_draft_boxes : Int) (v_draft_startsAt : Int) (v_draft_facts : Nat → Int) (v_draft_places : Nat → Int) (u1_boxes : Int) (u1_startsAt : Int) (u1_facts : Nat → Int) (u1_places : Nat → Int) : va_W := [(a_v, .inr (3, [.ref a_v_draft, .ref a_v_least, .ref a_v_bestPlaces, .ref a_v_startsLeft])), (a_v_draft, .inr (5, [.ref a_v_draft_facts, .ref a_v_draft_places, .int (zI v_draft_boxes), .int (zI v_draft_startsAt)])), (a_v_draft_facts, .inl (cy 0, 30, .inl (fun j => zI (v_draft_facts j)))), (a_v_draft_places, .inl (cy 0, 5, .inl (fun j => zI (v_draft_places j)))), (a_u1, .inr (5, [.ref a_u1_facts, .ref a_u1_places, .int (zI u1_boxes), .int (zI u1_startsAt)])), (a_u1_facts, .inl (cy 0, 30, .inl (fun j => zI (u1_facts j)))), (a_u1_places, .inl (cy 0, 5, .inl (fun j => zI (u1_places j))))]
set_option maxHeartbeats 4000000 in
set_option maxRecDepth 100000 in
theorem c_X3_draftOf (l : Launch) (D : va_G) (cy : Nat → ClassId) (sa : Nat → Nat) (a_v : Nat) (a_v_draft : Nat) (a_v_draft_facts : Nat) (a_v_draft_places : Nat) (a_u1 : Nat) (a_u1_facts : Nat) (a_u1_places : Nat) (a_v_least : Nat) (a_v_bestPlaces : Nat) (a_v_startsLeft : Nat) (v_draft_boxes : Int) (v_draft_startsAt : Int) (v_draft_facts : Nat → Int) (v_draft_places : Nat → Int) (u1_boxes : Int) (u1_startsAt : Int) (u1_facts : Nat → Int) (u1_places : Nat → Int) (o : Int × Int × (Nat → Int) × (Nat → Int)) (h : f_Search_draftOf v_draft_boxes v_draft_startsAt v_draft_facts v_draft_places u1_boxes u1_startsAt u1_facts u1_places = some o) : CtR l yX3_draftOf wsX3_draftOf ({ frames := 2, cells := 0, slots := 0, locals := 81 }) D cy sa [.ref a_v, .ref a_u1] (wd_X3_draftOf cy a_v a_v_draft a_v_draft_facts a_v_draft_places a_u1 a_u1_facts a_u1_places a_v_least a_v_bestPlaces a_v_startsLeft v_draft_boxes v_draft_startsAt v_draft_facts v_draft_places u1_boxes u1_startsAt u1_facts u1_places) (wd_X3_draftOf cy a_v a_v_draft a_v_draft_facts a_v_draft_places a_u1 a_u1_facts a_u1_places a_v_least a_v_bestPlaces a_v_startsLeft o.1 o.2.1 o.2.2.1 o.2.2.2 u1_boxes u1_startsAt u1_facts u1_places) a_v_draft := by
  refine ct_R (cc := cX3_draftOf) (maxL := 2) (plainFor_of_name (by decide)) rfl (Nat.le_of_ble_eq_true rfl) ?_
  intro p e s m below meth c A args QQ hx hb hml hown hts hE hDD hP KR ls hl
  have hl : lv_has ls 2 [(0, .ref a_v), (1, .ref a_u1)] := hl
  have hDD : DD A [a_v, a_v_draft, a_v_draft_facts, a_v_draft_places, a_u1, a_u1_facts, a_u1_places] := hDD
  have hS : va_S A s.heap s.heap [] := va_S.rf
  have q0 := hts (.fieldLink RX3 12 "HatHours$Search" "draft" "LHatHours$Shop;") (List.mem_of_getElem? (i := 1) rfl)
  have iX3 : ∀ w ∈ u_ws RX3 TX3 4, w ∈ wsX3_draftOf := in_slice 15 4 rfl
  refine lv_aload_n hx hb dX3_draftOf_0 rfl (lv_at hl 0 rfl) ?_
  refine wi_get (v := .ref a_v_draft) hx hb hts iX3 hown hE hP 0 rfl rfl 0 (by decide) q0 rfl dX3_draftOf_1 ?_
  refine lv_aload_n hx hb dX3_draftOf_4 rfl (lv_at hl 1 rfl) ?_
  obtain ⟨o1, hc2, h⟩ := bnd_some h
  refine cV_v (rest := []) (w2 := (wd_X3_draftOf cy a_v a_v_draft a_v_draft_facts a_v_draft_places a_u1 a_u1_facts a_u1_places a_v_least a_v_bestPlaces a_v_startsLeft o1.1 o1.2.1 o1.2.2.1 o1.2.2.2 u1_boxes u1_startsAt u1_facts u1_places)) ⟨hx, hb, hml, hown, hts⟩ (c_X5_copyFrom l D cy sa a_v_draft a_v_draft_facts a_v_draft_places a_u1 a_u1_facts a_u1_places v_draft_boxes v_draft_startsAt v_draft_facts v_draft_places u1_boxes u1_startsAt u1_facts u1_places o1 hc2) (cwV 1 hts gX3_draftOf_X5_copyFrom rfl rfl rfl (by decide +kernel) ⟨Nat.le_of_ble_eq_true rfl, Nat.le_of_ble_eq_true rfl⟩) rfl rfl rfl hE hP hDD rfl hS [1, 2, 3, 4, 5, 6] rfl rfl rfl rfl hl.1 (Nat.le_of_ble_eq_true rfl) ⟨Nat.zero_le _, Nat.zero_le _⟩ rfl dX3_draftOf_5 rfl (fun H locs hP hS => ?_)
  refine lv_aload_n hx hb dX3_draftOf_8 rfl (lv_at hl 0 rfl) ?_
  refine wi_get (v := .ref a_v_draft) hx hb hts iX3 hown hE hP 0 rfl rfl 0 (by decide) q0 rfl dX3_draftOf_9 ?_
  obtain rfl := Option.some.inj h
  exact KR _ _ _ _ hP hS dX3_draftOf_12
abbrev wd_X4_faultOfThree (cy : Nat → ClassId) (a_v : Nat) (a_v_lanes : Nat) (a_v_sizes : Nat) (a_v_cells : Nat) (v_lanes : Nat → Int) (v_sizes : Nat → Int) : va_W := [(a_v, .inr (4, [.ref a_v_cells, .ref a_v_lanes, .ref a_v_sizes])), (a_v_lanes, .inl (cy 0, 4, .inl (fun j => zI (v_lanes j)))), (a_v_sizes, .inl (cy 0, 4, .inl (fun j => zI (v_sizes j))))]
set_option maxHeartbeats 4000000 in
set_option maxRecDepth 100000 in
theorem c_X4_faultOfThree (l : Launch) (D : va_G) (cy : Nat → ClassId) (sa : Nat → Nat) (a_v : Nat) (a_v_lanes : Nat) (a_v_sizes : Nat) (a_v_cells : Nat) (v_lanes : Nat → Int) (v_sizes : Nat → Int) (x1 : Int) (x2 : Int) (x3 : Int) (o : Int) (h : f_Sheets_faultOfThree v_lanes v_sizes x1 x2 x3 = some o) : CtI l yX4_faultOfThree wsX4_faultOfThree ({ frames := 4, cells := 0, slots := 0, locals := 87 }) D cy sa [.ref a_v, .int (zI x1), .int (zI x2), .int (zI x3)] (wd_X4_faultOfThree cy a_v a_v_lanes a_v_sizes a_v_cells v_lanes v_sizes) (wd_X4_faultOfThree cy a_v a_v_lanes a_v_sizes a_v_cells v_lanes v_sizes) o := by
  refine ct_I (cc := cX4_faultOfThree) (maxL := 6) (plainFor_of_name (by decide)) rfl (Nat.le_of_ble_eq_true rfl) ?_
  intro p e s m below meth c A args QQ hx hb hml hown hts hE hDD hP KR ls hl
  have hl : lv_has ls 6 [(0, .ref a_v), (1, .int (zI x1)), (2, .int (zI x2)), (3, .int (zI x3))] := hl
  have hDD : DD A [a_v, a_v_lanes, a_v_sizes] := hDD
  have hS : va_S A s.heap s.heap [] := va_S.rf
  have L6 : ∀ (fuel : Nat) (x1 : Int) (x2 : Int) (x3 : Int) (x4 : Int) (x5 : Int) (H : Heap) (locs : List Loc) (ls : Array Slot) (ex : Int), va_P D vwCl (wd_X4_faultOfThree cy a_v a_v_lanes a_v_sizes a_v_cells v_lanes v_sizes) H → va_S A s.heap H locs → lv_has ls 6 [(0, .ref a_v), (1, .int (zI x1)), (2, .int (zI x2)), (3, .int (zI x3)), (4, .int (zI x4)), (5, .int (zI x5))] → f_Sheets_faultOfThree_L6 fuel v_lanes v_sizes x1 x2 x3 x4 x5 = some ex → (∀ (H : Heap) (locs : List Loc) (ls : Array Slot), va_P D vwCl (wd_X4_faultOfThree cy a_v a_v_lanes a_v_sizes a_v_cells v_lanes v_sizes) H → va_S A s.heap H locs → lv_has ls 6 [(4, .int (zI ex))] → W p l e { frames := 4, cells := 0, slots := 0, locals := 87 } s m args below meth c H locs 0 0 QQ (F0 m 35 ls [])) → W p l e { frames := 4, cells := 0, slots := 0, locals := 87 } s m args below meth c H locs 0 0 QQ (F0 m 6 ls []) := by
    intro fuel
    induction fuel with
    | zero => intro _ _ _ _ _ H locs ls ex hP hS hl h K; cases h
    | succ fuel ih =>
      intro x1 x2 x3 x4 x5 H locs ls ex hP hS hl h K
      refine lv_iload hx hb dX4_faultOfThree_6 (lv_at hl 5 rfl) ?_
      refine wi_ic hx hb dX4_faultOfThree_8 ?_
      obtain ⟨hr1, h⟩ := chk_some h
      refine wi_ic_ge (tgt := 35) hx hb dX4_faultOfThree_9 (by decide) hr1 (by decide) (fun c3 => ?_) (fun c3 => ?_)
      · have h := ite_t c3 h
        obtain rfl := Option.some.inj h
        exact K _ _ _ hP hS (lv_sub hl [4] rfl)
      · have h := ite_f c3 h
        refine lv_iload hx hb dX4_faultOfThree_12 (lv_at hl 4 rfl) ?_
        obtain ⟨hr4, h⟩ := chk_some h
        refine wi_if_ne (tgt := 35) hx hb dX4_faultOfThree_14 (by decide) hr4 (fun c6 => ?_) (fun c6 => ?_)
        · have h := ite_f c6 h
          obtain rfl := Option.some.inj h
          exact K _ _ _ hP hS (lv_sub hl [4] rfl)
        · have h := ite_t c6 h
          refine lv_aload_n hx hb dX4_faultOfThree_17 rfl (lv_at hl 0 rfl) ?_
          refine lv_iload_n hx hb dX4_faultOfThree_18 rfl (lv_at hl 1 rfl) ?_
          refine lv_iload_n hx hb dX4_faultOfThree_19 rfl (lv_at hl 2 rfl) ?_
          refine lv_iload_n hx hb dX4_faultOfThree_20 rfl (lv_at hl 3 rfl) ?_
          refine lv_iload hx hb dX4_faultOfThree_21 (lv_at hl 5 rfl) ?_
          refine wi_iadd hx hb dX4_faultOfThree_23 ?_
          obtain ⟨o7, hc8, h⟩ := bnd_some h
          refine cV_i (rest := []) (w2 := (wd_X4_faultOfThree cy a_v a_v_lanes a_v_sizes a_v_cells v_lanes v_sizes)) ⟨hx, hb, hml, hown, hts⟩ (c_X4_faultAt l D cy sa a_v a_v_lanes a_v_sizes a_v_cells v_lanes v_sizes x1 x2 (x3 + x5) o7 hc8) (cwV 3 hts gX4_faultOfThree_X4_faultAt rfl rfl rfl (by decide +kernel) ⟨Nat.le_of_ble_eq_true rfl, Nat.le_of_ble_eq_true rfl⟩) rfl rfl rfl hE hP hDD rfl hS [0, 1, 2] rfl rfl rfl rfl hl.1 (Nat.le_of_ble_eq_true rfl) ⟨Nat.zero_le _, Nat.zero_le _⟩ rfl dX4_faultOfThree_24 rfl (fun H locs hP hS => ?_)
          refine lv_istore (lv' := [(4, .int (zI o7)), (0, .ref a_v), (1, .int (zI x1)), (2, .int (zI x2)), (3, .int (zI x3)), (5, .int (zI x5))]) hx hb dX4_faultOfThree_27 hl (by decide) rfl (fun ls hl => ?_)
          refine wi_iinc (k := 5) (lv' := [(5, .int (zI (x5 + 1))), (4, .int (zI o7)), (0, .ref a_v), (1, .int (zI x1)), (2, .int (zI x2)), (3, .int (zI x3))]) hx hb dX4_faultOfThree_29 hl rfl (by decide) rfl (fun ls hl => ?_)
          refine lv_goto (tgt := 6) hx hb dX4_faultOfThree_32 (by decide) ?_
          exact ih x1 x2 x3 o7 (x5 + 1) _ _ _ _ hP hS (lv_sub hl [2, 3, 4, 5, 1, 0] rfl) h K
  refine wi_ic hx hb dX4_faultOfThree_0 ?_
  refine lv_istore (lv' := [(4, .int (zI 0)), (0, .ref a_v), (1, .int (zI x1)), (2, .int (zI x2)), (3, .int (zI x3))]) hx hb dX4_faultOfThree_1 hl (by decide) rfl (fun ls hl => ?_)
  refine wi_ic hx hb dX4_faultOfThree_3 ?_
  refine lv_istore (lv' := [(5, .int (zI 0)), (4, .int (zI 0)), (0, .ref a_v), (1, .int (zI x1)), (2, .int (zI x2)), (3, .int (zI x3))]) hx hb dX4_faultOfThree_4 hl (by decide) rfl (fun ls hl => ?_)
  obtain ⟨o9, hx10, h⟩ := bnd_some h
  refine L6 5000 x1 x2 x3 0 0 _ _ _ _ hP hS (lv_sub hl [2, 3, 4, 5, 1, 0] rfl) hx10 ?_
  clear hx10
  intro H locs ls hP hS hl
  refine lv_iload hx hb dX4_faultOfThree_35 (lv_at hl 0 rfl) ?_
  obtain rfl := Option.some.inj h
  exact KR _ _ _ _ hP hS dX4_faultOfThree_37
abbrev wd_X4_cellAt (cy : Nat → ClassId) (a_v : Nat) (a_v_cells : Nat) (a_v_sizes : Nat) (a_v_lanes : Nat) (v_cells : Nat → Int) (v_sizes : Nat → Int) : va_W := [(a_v, .inr (4, [.ref a_v_cells, .ref a_v_lanes, .ref a_v_sizes])), (a_v_cells, .inl (cy 0, 160, .inl (fun j => zI (v_cells j)))), (a_v_sizes, .inl (cy 0, 4, .inl (fun j => zI (v_sizes j))))]
set_option maxHeartbeats 4000000 in
set_option maxRecDepth 100000 in
theorem c_X4_cellAt (l : Launch) (D : va_G) (cy : Nat → ClassId) (sa : Nat → Nat) (a_v : Nat) (a_v_cells : Nat) (a_v_sizes : Nat) (a_v_lanes : Nat) (v_cells : Nat → Int) (v_sizes : Nat → Int) (x1 : Int) (x2 : Int) (o : Int) (h : f_Sheets_cellAt v_cells v_sizes x1 x2 = some o) : CtI l yX4_cellAt wsX4_cellAt ({ frames := 3, cells := 0, slots := 0, locals := 64 }) D cy sa [.ref a_v, .int (zI x1), .int (zI x2)] (wd_X4_cellAt cy a_v a_v_cells a_v_sizes a_v_lanes v_cells v_sizes) (wd_X4_cellAt cy a_v a_v_cells a_v_sizes a_v_lanes v_cells v_sizes) o := by
  refine ct_I (cc := cX4_cellAt) (maxL := 3) (plainFor_of_name (by decide)) rfl (Nat.le_of_ble_eq_true rfl) ?_
  intro p e s m below meth c A args QQ hx hb hml hown hts hE hDD hP KR ls hl
  have hl : lv_has ls 3 [(0, .ref a_v), (1, .int (zI x1)), (2, .int (zI x2))] := hl
  have hDD : DD A [a_v, a_v_cells, a_v_sizes] := hDD
  have hS : va_S A s.heap s.heap [] := va_S.rf
  have q0 := hts (.fieldLink RX4 11 "HatHours$Sheets" "cells" "[I") (List.mem_of_getElem? (i := 1) rfl)
  have iX4 : ∀ w ∈ u_ws RX4 TX4 3, w ∈ wsX4_cellAt := in_slice 14 3 rfl
  refine lv_aload_n hx hb dX4_cellAt_0 rfl (lv_at hl 0 rfl) ?_
  refine lv_iload_n hx hb dX4_cellAt_1 rfl (lv_at hl 1 rfl) ?_
  refine lv_iload_n hx hb dX4_cellAt_2 rfl (lv_at hl 2 rfl) ?_
  obtain ⟨o1, hc2, h⟩ := bnd_some h
  refine cV_i (rest := []) (w2 := (wd_X4_cellAt cy a_v a_v_cells a_v_sizes a_v_lanes v_cells v_sizes)) ⟨hx, hb, hml, hown, hts⟩ (c_X4_hasCell l D cy sa a_v a_v_sizes a_v_cells a_v_lanes v_sizes x1 x2 o1 hc2) (cwV 2 hts gX4_cellAt_X4_hasCell rfl rfl rfl (by decide +kernel) ⟨Nat.le_of_ble_eq_true rfl, Nat.le_of_ble_eq_true rfl⟩) rfl rfl rfl hE hP hDD rfl hS [0, 2] rfl rfl rfl rfl hl.1 (Nat.le_of_ble_eq_true rfl) ⟨Nat.zero_le _, Nat.zero_le _⟩ rfl dX4_cellAt_3 rfl (fun H locs hP hS => ?_)
  obtain ⟨hr3, h⟩ := chk_some h
  refine wi_if_eq (tgt := 23) hx hb dX4_cellAt_6 (by decide) hr3 (fun c5 => ?_) (fun c5 => ?_)
  · have h := ite_t c5 h
    refine wi_ic hx hb dX4_cellAt_23 ?_
    obtain rfl := Option.some.inj h
    exact KR _ _ _ _ hP hS dX4_cellAt_24
  · have h := ite_f c5 h
    refine lv_aload_n hx hb dX4_cellAt_9 rfl (lv_at hl 0 rfl) ?_
    refine wi_get (v := .ref a_v_cells) hx hb hts iX4 hown hE hP 0 rfl rfl 0 (by decide) q0 rfl dX4_cellAt_10 ?_
    refine lv_iload_n hx hb dX4_cellAt_13 rfl (lv_at hl 1 rfl) ?_
    refine wi_bi hx hb dX4_cellAt_14 (by decide) ?_
    refine wi_imul hx hb dX4_cellAt_16 ?_
    refine lv_iload_n hx hb dX4_cellAt_17 rfl (lv_at hl 2 rfl) ?_
    refine wi_iadd hx hb dX4_cellAt_18 ?_
    obtain ⟨hk6, h⟩ := chk_some h
    refine wi_iald hx hb hE hP 1 rfl (by decide) hk6 dX4_cellAt_19 ?_
    refine lv_goto (tgt := 24) hx hb dX4_cellAt_20 (by decide) ?_
    obtain rfl := Option.some.inj h
    exact KR _ _ _ _ hP hS dX4_cellAt_24
