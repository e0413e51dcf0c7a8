abbrev wd_X10_alter (cy : Nat → ClassId) (a_v : Nat) (a_v_st : Nat) (a_v_now : Nat) (a_v_isKept : Nat) (a_v_draft : Nat) (a_v_placedRow : Nat) (a_v_tape : Nat) (a_v_by : Nat) (a_v_told : Nat) (a_v_bestRow : Nat) (a_v_ways : Nat) (a_v_lanes : Nat) (a_v_sizes : Nat) (a_v_cells : Nat) (a_v_before : Nat) (v_hasOrder : Int) (v_hasStart : Int) (v_placed : Int) (v_placedMany : Int) (v_highest : Int) (v_taped : Int) (v_pos : Int) (v_begun : Int) (v_sort : Int) (v_value : Int) (v_fault : Int) (v_wrongAt : Int) (v_rightSum : Int) (v_wrongSum : Int) (v_allWays : Int) (v_torn : Int) (v_st : Nat → Int) : va_W := [(a_v, .inr (10, [.ref a_v_st, .ref a_v_now, .ref a_v_isKept, .ref a_v_draft, .int (zI v_hasOrder), .int (zI v_hasStart), .int (zI v_placed), .int (zI v_placedMany), .ref a_v_placedRow, .int (zI v_highest), .ref a_v_tape, .int (zI v_taped), .int (zI v_pos), .int (zI v_begun), .int (zI v_sort), .int (zI v_value), .int (zI v_fault), .int (zI v_wrongAt), .ref a_v_by, .ref a_v_told, .ref a_v_bestRow, .long (zL v_rightSum), .long (zL v_wrongSum), .long (zL v_allWays), .ref a_v_ways, .ref a_v_lanes, .ref a_v_sizes, .ref a_v_cells, .int (zI v_torn), .ref a_v_before])), (a_v_st, .inl (cy 0, 168, .inl (fun j => zI (v_st j))))]
set_option maxHeartbeats 4000000 in
set_option maxRecDepth 100000 in
theorem c_X10_alter (l : Launch) (D : va_G) (cy : Nat → ClassId) (sa : Nat → Nat) (a_v : Nat) (a_v_st : Nat) (a_v_now : Nat) (a_v_isKept : Nat) (a_v_draft : Nat) (a_v_placedRow : Nat) (a_v_tape : Nat) (a_v_by : Nat) (a_v_told : Nat) (a_v_bestRow : Nat) (a_v_ways : Nat) (a_v_lanes : Nat) (a_v_sizes : Nat) (a_v_cells : Nat) (a_v_before : Nat) (v_hasOrder : Int) (v_hasStart : Int) (v_placed : Int) (v_placedMany : Int) (v_highest : Int) (v_taped : Int) (v_pos : Int) (v_begun : Int) (v_sort : Int) (v_value : Int) (v_fault : Int) (v_wrongAt : Int) (v_rightSum : Int) (v_wrongSum : Int) (v_allWays : Int) (v_torn : Int) (v_st : Nat → Int) (x1 : Int) (x2 : Int) (x3 : Int) (o : Int × (Nat → Int)) (h : f_M_alter v_st x1 x2 x3 = some o) : CtI l yX10_alter wsX10_alter ({ frames := 3, cells := 0, slots := 0, locals := 66 }) D cy sa [.ref a_v, .int (zI x1), .int (zI x2), .int (zI x3)] (wd_X10_alter cy a_v a_v_st a_v_now a_v_isKept a_v_draft a_v_placedRow a_v_tape a_v_by a_v_told a_v_bestRow a_v_ways a_v_lanes a_v_sizes a_v_cells a_v_before v_hasOrder v_hasStart v_placed v_placedMany v_highest v_taped v_pos v_begun v_sort v_value v_fault v_wrongAt v_rightSum v_wrongSum v_allWays v_torn v_st) (wd_X10_alter cy a_v a_v_st a_v_now a_v_isKept a_v_draft a_v_placedRow a_v_tape a_v_by a_v_told a_v_bestRow a_v_ways a_v_lanes a_v_sizes a_v_cells a_v_before v_hasOrder v_hasStart v_placed v_placedMany v_highest v_taped v_pos v_begun v_sort v_value v_fault v_wrongAt v_rightSum v_wrongSum v_allWays v_torn o.2) o.1 := by
  refine ct_I (cc := cX10_alter) (maxL := 4) (plainFor_of_name (by decide)) rfl (Nat.le_of_ble_eq_true rfl) ?_
  intro p e s m below meth c A args QQ hx hb hml hown hts hE hDD hP KR ls hl
  have hl : lv_has ls 4 [(0, .ref a_v), (1, .int (zI x1)), (2, .int (zI x2)), (3, .int (zI x3))] := hl
  have hDD : DD A [a_v, a_v_st] := hDD
  have hS : va_S A s.heap s.heap [] := va_S.rf
  refine lv_aload_n hx hb dX10_alter_0 rfl (lv_at hl 0 rfl) ?_
  refine lv_iload_n hx hb dX10_alter_1 rfl (lv_at hl 1 rfl) ?_
  obtain ⟨o1, hc2, h⟩ := bnd_some h
  refine cV_i (rest := []) (w2 := (wd_X10_alter cy a_v a_v_st a_v_now a_v_isKept a_v_draft a_v_placedRow a_v_tape a_v_by a_v_told a_v_bestRow a_v_ways a_v_lanes a_v_sizes a_v_cells a_v_before v_hasOrder v_hasStart v_placed v_placedMany v_highest v_taped v_pos v_begun v_sort v_value v_fault v_wrongAt v_rightSum v_wrongSum v_allWays v_torn v_st)) ⟨hx, hb, hml, hown, hts⟩ (c_X10_isBox l D cy sa a_v a_v_st a_v_now a_v_isKept a_v_draft a_v_placedRow a_v_tape a_v_by a_v_told a_v_bestRow a_v_ways a_v_lanes a_v_sizes a_v_cells a_v_before v_hasOrder v_hasStart v_placed v_placedMany v_highest v_taped v_pos v_begun v_sort v_value v_fault v_wrongAt v_rightSum v_wrongSum v_allWays v_torn v_st x1 o1 hc2) (cwV 1 hts gX10_alter_X10_isBox rfl rfl rfl (by decide +kernel) ⟨Nat.le_of_ble_eq_true rfl, Nat.le_of_ble_eq_true rfl⟩) rfl rfl rfl hE hP hDD rfl hS [0, 1] rfl rfl rfl rfl hl.1 (Nat.le_of_ble_eq_true rfl) ⟨Nat.zero_le _, Nat.zero_le _⟩ rfl dX10_alter_2 rfl (fun H locs hP hS => ?_)
  obtain ⟨hr3, h⟩ := chk_some h
  refine wi_if_eq (tgt := 30) hx hb dX10_alter_5 (by decide) hr3 (fun c5 => ?_) (fun c5 => ?_)
  · have h := ite_t c5 h
    refine wi_ic hx hb dX10_alter_30 ?_
    obtain rfl := Option.some.inj h
    exact KR _ _ _ _ hP hS dX10_alter_31
  · have h := ite_f c5 h
    refine lv_iload_n hx hb dX10_alter_8 rfl (lv_at hl 2 rfl) ?_
    refine lv_iload_n hx hb dX10_alter_9 rfl (lv_at hl 3 rfl) ?_
    obtain ⟨o6, hc7, h⟩ := bnd_some h
    refine cS_i (rest := []) (w2 := (wd_X10_alter cy a_v a_v_st a_v_now a_v_isKept a_v_draft a_v_placedRow a_v_tape a_v_by a_v_told a_v_bestRow a_v_ways a_v_lanes a_v_sizes a_v_cells a_v_before v_hasOrder v_hasStart v_placed v_placedMany v_highest v_taped v_pos v_begun v_sort v_value v_fault v_wrongAt v_rightSum v_wrongSum v_allWays v_torn v_st)) ⟨hx, hb, hml, hown, hts⟩ (c_X10_canBe l D cy sa x2 x3 o6 hc7) (va_cwS 2 hts gX10_alter_X10_canBe rfl rfl rfl (by decide +kernel) ⟨Nat.le_of_ble_eq_true rfl, Nat.le_of_ble_eq_true rfl⟩) hE hP hDD rfl hS [] rfl rfl rfl rfl hl.1 (Nat.le_of_ble_eq_true rfl) ⟨Nat.zero_le _, Nat.zero_le _⟩ rfl dX10_alter_10 rfl (fun H locs hP hS => ?_)
    obtain ⟨hr8, h⟩ := chk_some h
    refine wi_if_eq (tgt := 30) hx hb dX10_alter_13 (by decide) hr8 (fun c10 => ?_) (fun c10 => ?_)
    · have h := ite_t c10 h
      refine wi_ic hx hb dX10_alter_30 ?_
      obtain rfl := Option.some.inj h
      exact KR _ _ _ _ hP hS dX10_alter_31
    · have h := ite_f c10 h
      refine lv_aload_n hx hb dX10_alter_16 rfl (lv_at hl 0 rfl) ?_
      refine wi_bi hx hb dX10_alter_17 (by decide) ?_
      refine lv_iload_n hx hb dX10_alter_19 rfl (lv_at hl 1 rfl) ?_
      refine wi_imul hx hb dX10_alter_20 ?_
      refine lv_iload_n hx hb dX10_alter_21 rfl (lv_at hl 2 rfl) ?_
      refine wi_iadd hx hb dX10_alter_22 ?_
      refine lv_iload_n hx hb dX10_alter_23 rfl (lv_at hl 3 rfl) ?_
      obtain ⟨o11, hc12, h⟩ := bnd_some h
      refine cV_i (rest := []) (w2 := (wd_X10_alter cy a_v a_v_st a_v_now a_v_isKept a_v_draft a_v_placedRow a_v_tape a_v_by a_v_told a_v_bestRow a_v_ways a_v_lanes a_v_sizes a_v_cells a_v_before v_hasOrder v_hasStart v_placed v_placedMany v_highest v_taped v_pos v_begun v_sort v_value v_fault v_wrongAt v_rightSum v_wrongSum v_allWays v_torn o11.2)) ⟨hx, hb, hml, hown, hts⟩ (c_X10_becomes l D cy sa a_v a_v_st a_v_now a_v_isKept a_v_draft a_v_placedRow a_v_tape a_v_by a_v_told a_v_bestRow a_v_ways a_v_lanes a_v_sizes a_v_cells a_v_before v_hasOrder v_hasStart v_placed v_placedMany v_highest v_taped v_pos v_begun v_sort v_value v_fault v_wrongAt v_rightSum v_wrongSum v_allWays v_torn v_st ((6 * x1) + x2) x3 o11 hc12) (cwV 2 hts gX10_alter_X10_becomes rfl rfl rfl (by decide +kernel) ⟨Nat.le_of_ble_eq_true rfl, Nat.le_of_ble_eq_true rfl⟩) rfl rfl rfl hE hP hDD rfl hS [0, 1] rfl rfl rfl rfl hl.1 (Nat.le_of_ble_eq_true rfl) ⟨Nat.zero_le _, Nat.zero_le _⟩ rfl dX10_alter_24 rfl (fun H locs hP hS => ?_)
      refine lv_goto (tgt := 31) hx hb dX10_alter_27 (by decide) ?_
      obtain rfl := Option.some.inj h
      exact KR _ _ _ _ hP hS dX10_alter_31
abbrev wd_X10_start (cy : Nat → ClassId) (a_v : Nat) (a_v_st : Nat) (a_v_now : Nat) (a_v_isKept : Nat) (a_v_draft : Nat) (a_v_placedRow : Nat) (a_v_tape : Nat) (a_v_by : Nat) (a_v_told : Nat) (a_v_bestRow : Nat) (a_v_ways : Nat) (a_v_lanes : Nat) (a_v_sizes : Nat) (a_v_cells : Nat) (a_v_before : Nat) (v_hasOrder : Int) (v_hasStart : Int) (v_placed : Int) (v_placedMany : Int) (v_highest : Int) (v_taped : Int) (v_pos : Int) (v_begun : Int) (v_sort : Int) (v_value : Int) (v_fault : Int) (v_wrongAt : Int) (v_rightSum : Int) (v_wrongSum : Int) (v_allWays : Int) (v_torn : Int) (v_st : Nat → Int) : va_W := [(a_v, .inr (10, [.ref a_v_st, .ref a_v_now, .ref a_v_isKept, .ref a_v_draft, .int (zI v_hasOrder), .int (zI v_hasStart), .int (zI v_placed), .int (zI v_placedMany), .ref a_v_placedRow, .int (zI v_highest), .ref a_v_tape, .int (zI v_taped), .int (zI v_pos), .int (zI v_begun), .int (zI v_sort), .int (zI v_value), .int (zI v_fault), .int (zI v_wrongAt), .ref a_v_by, .ref a_v_told, .ref a_v_bestRow, .long (zL v_rightSum), .long (zL v_wrongSum), .long (zL v_allWays), .ref a_v_ways, .ref a_v_lanes, .ref a_v_sizes, .ref a_v_cells, .int (zI v_torn), .ref a_v_before])), (a_v_st, .inl (cy 0, 168, .inl (fun j => zI (v_st j))))]
set_option maxHeartbeats 4000000 in
set_option maxRecDepth 100000 in
theorem c_X10_start (l : Launch) (D : va_G) (cy : Nat → ClassId) (sa : Nat → Nat) (a_v : Nat) (a_v_st : Nat) (a_v_now : Nat) (a_v_isKept : Nat) (a_v_draft : Nat) (a_v_placedRow : Nat) (a_v_tape : Nat) (a_v_by : Nat) (a_v_told : Nat) (a_v_bestRow : Nat) (a_v_ways : Nat) (a_v_lanes : Nat) (a_v_sizes : Nat) (a_v_cells : Nat) (a_v_before : Nat) (v_hasOrder : Int) (v_hasStart : Int) (v_placed : Int) (v_placedMany : Int) (v_highest : Int) (v_taped : Int) (v_pos : Int) (v_begun : Int) (v_sort : Int) (v_value : Int) (v_fault : Int) (v_wrongAt : Int) (v_rightSum : Int) (v_wrongSum : Int) (v_allWays : Int) (v_torn : Int) (v_st : Nat → Int) (x1 : Int) (o : Int × (Nat → Int)) (h : f_M_start v_st x1 = some o) : CtI l yX10_start wsX10_start ({ frames := 2, cells := 0, slots := 0, locals := 45 }) D cy sa [.ref a_v, .int (zI x1)] (wd_X10_start cy a_v a_v_st a_v_now a_v_isKept a_v_draft a_v_placedRow a_v_tape a_v_by a_v_told a_v_bestRow a_v_ways a_v_lanes a_v_sizes a_v_cells a_v_before v_hasOrder v_hasStart v_placed v_placedMany v_highest v_taped v_pos v_begun v_sort v_value v_fault v_wrongAt v_rightSum v_wrongSum v_allWays v_torn v_st) (wd_X10_start cy a_v a_v_st a_v_now a_v_isKept a_v_draft a_v_placedRow a_v_tape a_v_by a_v_told a_v_bestRow a_v_ways a_v_lanes a_v_sizes a_v_cells a_v_before v_hasOrder v_hasStart v_placed v_placedMany v_highest v_taped v_pos v_begun v_sort v_value v_fault v_wrongAt v_rightSum v_wrongSum v_allWays v_torn o.2) o.1 := by
  refine ct_I (cc := cX10_start) (maxL := 2) (plainFor_of_name (by decide)) rfl (Nat.le_of_ble_eq_true rfl) ?_
  intro p e s m below meth c A args QQ hx hb hml hown hts hE hDD hP KR ls hl
  have hl : lv_has ls 2 [(0, .ref a_v), (1, .int (zI x1))] := hl
  have hDD : DD A [a_v, a_v_st] := hDD
  have hS : va_S A s.heap s.heap [] := va_S.rf
  refine lv_iload_n hx hb dX10_start_0 rfl (lv_at hl 1 rfl) ?_
  obtain ⟨o1, hc2, h⟩ := bnd_some h
  refine cS_i (rest := []) (w2 := (wd_X10_start cy a_v a_v_st a_v_now a_v_isKept a_v_draft a_v_placedRow a_v_tape a_v_by a_v_told a_v_bestRow a_v_ways a_v_lanes a_v_sizes a_v_cells a_v_before v_hasOrder v_hasStart v_placed v_placedMany v_highest v_taped v_pos v_begun v_sort v_value v_fault v_wrongAt v_rightSum v_wrongSum v_allWays v_torn v_st)) ⟨hx, hb, hml, hown, hts⟩ (c_X10_isHour l D cy sa x1 o1 hc2) (va_cwS 1 hts gX10_start_X10_isHour rfl rfl rfl (by decide +kernel) ⟨Nat.le_of_ble_eq_true rfl, Nat.le_of_ble_eq_true rfl⟩) hE hP hDD rfl hS [] rfl rfl rfl rfl hl.1 (Nat.le_of_ble_eq_true rfl) ⟨Nat.zero_le _, Nat.zero_le _⟩ rfl dX10_start_1 rfl (fun H locs hP hS => ?_)
  obtain ⟨hr3, h⟩ := chk_some h
  refine wi_if_eq (tgt := 17) hx hb dX10_start_4 (by decide) hr3 (fun c5 => ?_) (fun c5 => ?_)
  · have h := ite_t c5 h
    refine wi_ic hx hb dX10_start_17 ?_
    obtain rfl := Option.some.inj h
    exact KR _ _ _ _ hP hS dX10_start_18
  · have h := ite_f c5 h
    refine lv_aload_n hx hb dX10_start_7 rfl (lv_at hl 0 rfl) ?_
    refine wi_bi hx hb dX10_start_8 (by decide) ?_
    refine lv_iload_n hx hb dX10_start_10 rfl (lv_at hl 1 rfl) ?_
    obtain ⟨o6, hc7, h⟩ := bnd_some h
    refine cV_i (rest := []) (w2 := (wd_X10_start cy a_v a_v_st a_v_now a_v_isKept a_v_draft a_v_placedRow a_v_tape a_v_by a_v_told a_v_bestRow a_v_ways a_v_lanes a_v_sizes a_v_cells a_v_before v_hasOrder v_hasStart v_placed v_placedMany v_highest v_taped v_pos v_begun v_sort v_value v_fault v_wrongAt v_rightSum v_wrongSum v_allWays v_torn o6.2)) ⟨hx, hb, hml, hown, hts⟩ (c_X10_becomes l D cy sa a_v a_v_st a_v_now a_v_isKept a_v_draft a_v_placedRow a_v_tape a_v_by a_v_told a_v_bestRow a_v_ways a_v_lanes a_v_sizes a_v_cells a_v_before v_hasOrder v_hasStart v_placed v_placedMany v_highest v_taped v_pos v_begun v_sort v_value v_fault v_wrongAt v_rightSum v_wrongSum v_allWays v_torn v_st 36 x1 o6 hc7) (cwV 2 hts gX10_start_X10_becomes rfl rfl rfl (by decide +kernel) ⟨Nat.le_of_ble_eq_true rfl, Nat.le_of_ble_eq_true rfl⟩) rfl rfl rfl hE hP hDD rfl hS [0, 1] rfl rfl rfl rfl hl.1 (Nat.le_of_ble_eq_true rfl) ⟨Nat.zero_le _, Nat.zero_le _⟩ rfl dX10_start_11 rfl (fun H locs hP hS => ?_)
    refine lv_goto (tgt := 18) hx hb dX10_start_14 (by decide) ?_
    obtain rfl := Option.some.inj h
    exact KR _ _ _ _ hP hS dX10_start_18
abbrev wd_X10_change (cy : Nat → ClassId) (a_v : Nat) (a_v_st : Nat) (a_v_now : Nat) (a_v_isKept : Nat) (a_v_draft : Nat) (a_v_placedRow : Nat) (a_v_tape : Nat) (a_v_by : Nat) (a_v_told : Nat) (a_v_bestRow : Nat) (a_v_ways : Nat) (a_v_lanes : Nat) (a_v_sizes : Nat) (a_v_cells : Nat) (a_v_before : Nat) (v_hasOrder : Int) (v_hasStart : Int) (v_placed : Int) (v_placedMany : Int) (v_highest : Int) (v_taped : Int) (v_pos : Int) (v_begun : Int) (v_sort : Int) (v_value : Int) (v_fault : Int) (v_wrongAt : Int) (v_rightSum : Int) (v_wrongSum : Int) (v_allWays : Int) (v_torn : Int) (v_st : Nat → Int) : va_W := [(a_v, .inr (10, [.ref a_v_st, .ref a_v_now, .ref a_v_isKept, .ref a_v_draft, .int (zI v_hasOrder), .int (zI v_hasStart), .int (zI v_placed), .int (zI v_placedMany), .ref a_v_placedRow, .int (zI v_highest), .ref a_v_tape, .int (zI v_taped), .int (zI v_pos), .int (zI v_begun), .int (zI v_sort), .int (zI v_value), .int (zI v_fault), .int (zI v_wrongAt), .ref a_v_by, .ref a_v_told, .ref a_v_bestRow, .long (zL v_rightSum), .long (zL v_wrongSum), .long (zL v_allWays), .ref a_v_ways, .ref a_v_lanes, .ref a_v_sizes, .ref a_v_cells, .int (zI v_torn), .ref a_v_before])), (a_v_st, .inl (cy 0, 168, .inl (fun j => zI (v_st j))))]
set_option maxHeartbeats 4000000 in
set_option maxRecDepth 100000 in
theorem c_X10_change (l : Launch) (D : va_G) (cy : Nat → ClassId) (sa : Nat → Nat) (a_v : Nat) (a_v_st : Nat) (a_v_now : Nat) (a_v_isKept : Nat) (a_v_draft : Nat) (a_v_placedRow : Nat) (a_v_tape : Nat) (a_v_by : Nat) (a_v_told : Nat) (a_v_bestRow : Nat) (a_v_ways : Nat) (a_v_lanes : Nat) (a_v_sizes : Nat) (a_v_cells : Nat) (a_v_before : Nat) (v_hasOrder : Int) (v_hasStart : Int) (v_placed : Int) (v_placedMany : Int) (v_highest : Int) (v_taped : Int) (v_pos : Int) (v_begun : Int) (v_sort : Int) (v_value : Int) (v_fault : Int) (v_wrongAt : Int) (v_rightSum : Int) (v_wrongSum : Int) (v_allWays : Int) (v_torn : Int) (v_st : Nat → Int) (x1 : Int) (x2 : Int) (o : Int × (Nat → Int)) (h : f_M_change v_st x1 x2 = some o) : CtI l yX10_change wsX10_change ({ frames := 2, cells := 0, slots := 0, locals := 46 }) D cy sa [.ref a_v, .int (zI x1), .int (zI x2)] (wd_X10_change cy a_v a_v_st a_v_now a_v_isKept a_v_draft a_v_placedRow a_v_tape a_v_by a_v_told a_v_bestRow a_v_ways a_v_lanes a_v_sizes a_v_cells a_v_before v_hasOrder v_hasStart v_placed v_placedMany v_highest v_taped v_pos v_begun v_sort v_value v_fault v_wrongAt v_rightSum v_wrongSum v_allWays v_torn v_st) (wd_X10_change cy a_v a_v_st a_v_now a_v_isKept a_v_draft a_v_placedRow a_v_tape a_v_by a_v_told a_v_bestRow a_v_ways a_v_lanes a_v_sizes a_v_cells a_v_before v_hasOrder v_hasStart v_placed v_placedMany v_highest v_taped v_pos v_begun v_sort v_value v_fault v_wrongAt v_rightSum v_wrongSum v_allWays v_torn o.2) o.1 := by
  refine ct_I (cc := cX10_change) (maxL := 4) (plainFor_of_name (by decide)) rfl (Nat.le_of_ble_eq_true rfl) ?_
  intro p e s m below meth c A args QQ hx hb hml hown hts hE hDD hP KR ls hl
  have hl : lv_has ls 4 [(0, .ref a_v), (1, .int (zI x1)), (2, .int (zI x2))] := hl
  have hDD : DD A [a_v, a_v_st] := hDD
  have hS : va_S A s.heap s.heap [] := va_S.rf
  have q0 := hts (.fieldLink RX10 7 "HatHoursModel" "st" "[I") (List.mem_of_getElem? (i := 1) rfl)
  have iX10 : ∀ w ∈ u_ws RX10 TX10 30, w ∈ wsX10_change := in_slice 10 30 rfl
  refine lv_aload_n hx hb dX10_change_0 rfl (lv_at hl 0 rfl) ?_
  refine lv_iload_n hx hb dX10_change_1 rfl (lv_at hl 1 rfl) ?_
  obtain ⟨o1, hc2, h⟩ := bnd_some h
  refine cV_i (rest := []) (w2 := (wd_X10_change cy a_v a_v_st a_v_now a_v_isKept a_v_draft a_v_placedRow a_v_tape a_v_by a_v_told a_v_bestRow a_v_ways a_v_lanes a_v_sizes a_v_cells a_v_before v_hasOrder v_hasStart v_placed v_placedMany v_highest v_taped v_pos v_begun v_sort v_value v_fault v_wrongAt v_rightSum v_wrongSum v_allWays v_torn v_st)) ⟨hx, hb, hml, hown, hts⟩ (c_X10_isBox l D cy sa a_v a_v_st a_v_now a_v_isKept a_v_draft a_v_placedRow a_v_tape a_v_by a_v_told a_v_bestRow a_v_ways a_v_lanes a_v_sizes a_v_cells a_v_before v_hasOrder v_hasStart v_placed v_placedMany v_highest v_taped v_pos v_begun v_sort v_value v_fault v_wrongAt v_rightSum v_wrongSum v_allWays v_torn v_st x1 o1 hc2) (cwV 1 hts gX10_change_X10_isBox rfl rfl rfl (by decide +kernel) ⟨Nat.le_of_ble_eq_true rfl, Nat.le_of_ble_eq_true rfl⟩) rfl rfl rfl hE hP hDD rfl hS [0, 1] rfl rfl rfl rfl hl.1 (Nat.le_of_ble_eq_true rfl) ⟨Nat.zero_le _, Nat.zero_le _⟩ rfl dX10_change_2 rfl (fun H locs hP hS => ?_)
  obtain ⟨hr3, h⟩ := chk_some h
  refine wi_if_eq (tgt := 21) hx hb dX10_change_5 (by decide) hr3 (fun c5 => ?_) (fun c5 => ?_)
  · have h := ite_t c5 h
    refine wi_ic hx hb dX10_change_21 ?_
    obtain rfl := Option.some.inj h
    exact KR _ _ _ _ hP hS dX10_change_22
  · have h := ite_f c5 h
    refine lv_aload_n hx hb dX10_change_8 rfl (lv_at hl 0 rfl) ?_
    refine lv_iload_n hx hb dX10_change_9 rfl (lv_at hl 2 rfl) ?_
    obtain ⟨o6, hc7, h⟩ := bnd_some h
    refine cV_i (rest := []) (w2 := (wd_X10_change cy a_v a_v_st a_v_now a_v_isKept a_v_draft a_v_placedRow a_v_tape a_v_by a_v_told a_v_bestRow a_v_ways a_v_lanes a_v_sizes a_v_cells a_v_before v_hasOrder v_hasStart v_placed v_placedMany v_highest v_taped v_pos v_begun v_sort v_value v_fault v_wrongAt v_rightSum v_wrongSum v_allWays v_torn v_st)) ⟨hx, hb, hml, hown, hts⟩ (c_X10_isBox l D cy sa a_v a_v_st a_v_now a_v_isKept a_v_draft a_v_placedRow a_v_tape a_v_by a_v_told a_v_bestRow a_v_ways a_v_lanes a_v_sizes a_v_cells a_v_before v_hasOrder v_hasStart v_placed v_placedMany v_highest v_taped v_pos v_begun v_sort v_value v_fault v_wrongAt v_rightSum v_wrongSum v_allWays v_torn v_st x2 o6 hc7) (cwV 1 hts gX10_change_X10_isBox rfl rfl rfl (by decide +kernel) ⟨Nat.le_of_ble_eq_true rfl, Nat.le_of_ble_eq_true rfl⟩) rfl rfl rfl hE hP hDD rfl hS [0, 1] rfl rfl rfl rfl hl.1 (Nat.le_of_ble_eq_true rfl) ⟨Nat.zero_le _, Nat.zero_le _⟩ rfl dX10_change_10 rfl (fun H locs hP hS => ?_)
    obtain ⟨hr8, h⟩ := chk_some h
    refine wi_if_eq (tgt := 21) hx hb dX10_change_13 (by decide) hr8 (fun c10 => ?_) (fun c10 => ?_)
    · have h := ite_t c10 h
      refine wi_ic hx hb dX10_change_21 ?_
      obtain rfl := Option.some.inj h
      exact KR _ _ _ _ hP hS dX10_change_22
    · have h := ite_f c10 h
      refine lv_iload_n hx hb dX10_change_16 rfl (lv_at hl 1 rfl) ?_
      refine lv_iload_n hx hb dX10_change_17 rfl (lv_at hl 2 rfl) ?_
      obtain ⟨hr11, h⟩ := chk_some h
      obtain ⟨hr12, h⟩ := chk_some h
      refine wi_ic_ne (tgt := 23) hx hb dX10_change_18 (by decide) hr11 hr12 (fun c14 => ?_) (fun c14 => ?_)
      · have h := ite_f c14 h
        refine lv_aload_n hx hb dX10_change_23 rfl (lv_at hl 0 rfl) ?_
        refine wi_get (v := .ref a_v_st) hx hb hts iX10 hown hE hP 0 rfl rfl 0 (by decide) q0 rfl dX10_change_24 ?_
        refine wi_bi hx hb dX10_change_27 (by decide) ?_
        refine lv_iload_n hx hb dX10_change_29 rfl (lv_at hl 1 rfl) ?_
        refine wi_iadd hx hb dX10_change_30 ?_
        obtain ⟨hk15, h⟩ := chk_some h
        refine wi_iald hx hb hE hP 1 rfl (by decide) hk15 dX10_change_31 ?_
        refine lv_istore_n (lv' := [(3, .int (zI (v_st (31 + x1).toNat))), (0, .ref a_v), (1, .int (zI x1)), (2, .int (zI x2))]) hx hb dX10_change_32 rfl hl (by decide) rfl (fun ls hl => ?_)
        refine lv_aload_n hx hb dX10_change_33 rfl (lv_at hl 1 rfl) ?_
        refine wi_get (v := .ref a_v_st) hx hb hts iX10 hown hE hP 0 rfl rfl 0 (by decide) q0 rfl dX10_change_34 ?_
        refine wi_bi hx hb dX10_change_37 (by decide) ?_
        refine lv_iload_n hx hb dX10_change_39 rfl (lv_at hl 2 rfl) ?_
        refine wi_iadd hx hb dX10_change_40 ?_
        refine lv_aload_n hx hb dX10_change_41 rfl (lv_at hl 1 rfl) ?_
        refine wi_get (v := .ref a_v_st) hx hb hts iX10 hown hE hP 0 rfl rfl 0 (by decide) q0 rfl dX10_change_42 ?_
        refine wi_bi hx hb dX10_change_45 (by decide) ?_
        refine lv_iload_n hx hb dX10_change_47 rfl (lv_at hl 3 rfl) ?_
        refine wi_iadd hx hb dX10_change_48 ?_
        obtain ⟨hk16, h⟩ := chk_some h
        refine wi_iald hx hb hE hP 1 rfl (by decide) hk16 dX10_change_49 ?_
        refine wi_iast (w2 := (wd_X10_change cy a_v a_v_st a_v_now a_v_isKept a_v_draft a_v_placedRow a_v_tape a_v_by a_v_told a_v_bestRow a_v_ways a_v_lanes a_v_sizes a_v_cells a_v_before v_hasOrder v_hasStart v_placed v_placedMany v_highest v_taped v_pos v_begun v_sort v_value v_fault v_wrongAt v_rightSum v_wrongSum v_allWays v_torn (upZ v_st (31 + x1).toNat (v_st (31 + x2).toNat)))) hx hb hE hP hDD rfl hS 1 rfl (by decide) hk15 dX10_change_50 rfl (fun H locs hP hS => ?_)
        refine lv_aload_n hx hb dX10_change_51 rfl (lv_at hl 1 rfl) ?_
        refine wi_get (v := .ref a_v_st) hx hb hts iX10 hown hE hP 0 rfl rfl 0 (by decide) q0 rfl dX10_change_52 ?_
        refine wi_bi hx hb dX10_change_55 (by decide) ?_
        refine lv_iload_n hx hb dX10_change_57 rfl (lv_at hl 3 rfl) ?_
        refine wi_iadd hx hb dX10_change_58 ?_
        refine lv_iload_n hx hb dX10_change_59 rfl (lv_at hl 0 rfl) ?_
        refine wi_iast (w2 := (wd_X10_change cy a_v a_v_st a_v_now a_v_isKept a_v_draft a_v_placedRow a_v_tape a_v_by a_v_told a_v_bestRow a_v_ways a_v_lanes a_v_sizes a_v_cells a_v_before v_hasOrder v_hasStart v_placed v_placedMany v_highest v_taped v_pos v_begun v_sort v_value v_fault v_wrongAt v_rightSum v_wrongSum v_allWays v_torn (upZ (upZ v_st (31 + x1).toNat (v_st (31 + x2).toNat)) (31 + x2).toNat (v_st (31 + x1).toNat)))) hx hb hE hP hDD rfl hS 1 rfl (by decide) hk16 dX10_change_60 rfl (fun H locs hP hS => ?_)
        refine lv_iload_n hx hb dX10_change_61 rfl (lv_at hl 0 rfl) ?_
        obtain rfl := Option.some.inj h
        exact KR _ _ _ _ hP hS dX10_change_62
      · have h := ite_t c14 h
        refine wi_ic hx hb dX10_change_21 ?_
        obtain rfl := Option.some.inj h
        exact KR _ _ _ _ hP hS dX10_change_22
abbrev wd_X10_sew (cy : Nat → ClassId) (a_v : Nat) (a_v_st : Nat) (a_v_now : Nat) (a_v_isKept : Nat) (a_v_draft : Nat) (a_v_placedRow : Nat) (a_v_tape : Nat) (a_v_by : Nat) (a_v_told : Nat) (a_v_bestRow : Nat) (a_v_ways : Nat) (a_v_lanes : Nat) (a_v_sizes : Nat) (a_v_cells : Nat) (a_v_before : Nat) (v_hasOrder : Int) (v_hasStart : Int) (v_placed : Int) (v_placedMany : Int) (v_highest : Int) (v_taped : Int) (v_pos : Int) (v_begun : Int) (v_sort : Int) (v_value : Int) (v_fault : Int) (v_wrongAt : Int) (v_rightSum : Int) (v_wrongSum : Int) (v_allWays : Int) (v_torn : Int) (v_st : Nat → Int) : va_W := [(a_v, .inr (10, [.ref a_v_st, .ref a_v_now, .ref a_v_isKept, .ref a_v_draft, .int (zI v_hasOrder), .int (zI v_hasStart), .int (zI v_placed), .int (zI v_placedMany), .ref a_v_placedRow, .int (zI v_highest), .ref a_v_tape, .int (zI v_taped), .int (zI v_pos), .int (zI v_begun), .int (zI v_sort), .int (zI v_value), .int (zI v_fault), .int (zI v_wrongAt), .ref a_v_by, .ref a_v_told, .ref a_v_bestRow, .long (zL v_rightSum), .long (zL v_wrongSum), .long (zL v_allWays), .ref a_v_ways, .ref a_v_lanes, .ref a_v_sizes, .ref a_v_cells, .int (zI v_torn), .ref a_v_before])), (a_v_st, .inl (cy 0, 168, .inl (fun j => zI (v_st j))))]
set_option maxHeartbeats 4000000 in
set_option maxRecDepth 100000 in
theorem c_X10_sew (l : Launch) (D : va_G) (cy : Nat → ClassId) (sa : Nat → Nat) (a_v : Nat) (a_v_st : Nat) (a_v_now : Nat) (a_v_isKept : Nat) (a_v_draft : Nat) (a_v_placedRow : Nat) (a_v_tape : Nat) (a_v_by : Nat) (a_v_told : Nat) (a_v_bestRow : Nat) (a_v_ways : Nat) (a_v_lanes : Nat) (a_v_sizes : Nat) (a_v_cells : Nat) (a_v_before : Nat) (v_hasOrder : Int) (v_hasStart : Int) (v_placed : Int) (v_placedMany : Int) (v_highest : Int) (v_taped : Int) (v_pos : Int) (v_begun : Int) (v_sort : Int) (v_value : Int) (v_fault : Int) (v_wrongAt : Int) (v_rightSum : Int) (v_wrongSum : Int) (v_allWays : Int) (v_torn : Int) (v_st : Nat → Int) (x1 : Int) (x2 : Int) (x3 : Int) (o : Int × (Nat → Int)) (h : f_M_sew v_st x1 x2 x3 = some o) : CtI l yX10_sew wsX10_sew ({ frames := 3, cells := 0, slots := 0, locals := 66 }) D cy sa [.ref a_v, .int (zI x1), .int (zI x2), .int (zI x3)] (wd_X10_sew cy a_v a_v_st a_v_now a_v_isKept a_v_draft a_v_placedRow a_v_tape a_v_by a_v_told a_v_bestRow a_v_ways a_v_lanes a_v_sizes a_v_cells a_v_before v_hasOrder v_hasStart v_placed v_placedMany v_highest v_taped v_pos v_begun v_sort v_value v_fault v_wrongAt v_rightSum v_wrongSum v_allWays v_torn v_st) (wd_X10_sew cy a_v a_v_st a_v_now a_v_isKept a_v_draft a_v_placedRow a_v_tape a_v_by a_v_told a_v_bestRow a_v_ways a_v_lanes a_v_sizes a_v_cells a_v_before v_hasOrder v_hasStart v_placed v_placedMany v_highest v_taped v_pos v_begun v_sort v_value v_fault v_wrongAt v_rightSum v_wrongSum v_allWays v_torn o.2) o.1 := by
  refine ct_I (cc := cX10_sew) (maxL := 5) (plainFor_of_name (by decide)) rfl (Nat.le_of_ble_eq_true rfl) ?_
  intro p e s m below meth c A args QQ hx hb hml hown hts hE hDD hP KR ls hl
  have hl : lv_has ls 5 [(0, .ref a_v), (1, .int (zI x1)), (2, .int (zI x2)), (3, .int (zI x3))] := hl
  have hDD : DD A [a_v, a_v_st] := hDD
  have hS : va_S A s.heap s.heap [] := va_S.rf
  have q0 := hts (.fieldLink RX10 7 "HatHoursModel" "st" "[I") (List.mem_of_getElem? (i := 1) rfl)
  have iX10 : ∀ w ∈ u_ws RX10 TX10 30, w ∈ wsX10_sew := in_slice 20 30 rfl
  refine wi_ic hx hb dX10_sew_0 ?_
  refine lv_iload_n hx hb dX10_sew_1 rfl (lv_at hl 1 rfl) ?_
  obtain ⟨o1, hc2, h⟩ := bnd_some h
  refine cS_i (rest := []) (w2 := (wd_X10_sew cy a_v a_v_st a_v_now a_v_isKept a_v_draft a_v_placedRow a_v_tape a_v_by a_v_told a_v_bestRow a_v_ways a_v_lanes a_v_sizes a_v_cells a_v_before v_hasOrder v_hasStart v_placed v_placedMany v_highest v_taped v_pos v_begun v_sort v_value v_fault v_wrongAt v_rightSum v_wrongSum v_allWays v_torn v_st)) ⟨hx, hb, hml, hown, hts⟩ (c_X10_canBe l D cy sa 0 x1 o1 hc2) (va_cwS 2 hts gX10_sew_X10_canBe rfl rfl rfl (by decide +kernel) ⟨Nat.le_of_ble_eq_true rfl, Nat.le_of_ble_eq_true rfl⟩) hE hP hDD rfl hS [] rfl rfl rfl rfl hl.1 (Nat.le_of_ble_eq_true rfl) ⟨Nat.zero_le _, Nat.zero_le _⟩ rfl dX10_sew_2 rfl (fun H locs hP hS => ?_)
  obtain ⟨hr3, h⟩ := chk_some h
  refine wi_if_eq (tgt := 24) hx hb dX10_sew_5 (by decide) hr3 (fun c5 => ?_) (fun c5 => ?_)
  · have h := ite_t c5 h
    refine wi_ic hx hb dX10_sew_24 ?_
    obtain rfl := Option.some.inj h
    exact KR _ _ _ _ hP hS dX10_sew_25
  · have h := ite_f c5 h
    refine wi_ic hx hb dX10_sew_8 ?_
    refine lv_iload_n hx hb dX10_sew_9 rfl (lv_at hl 2 rfl) ?_
    obtain ⟨o6, hc7, h⟩ := bnd_some h
    refine cS_i (rest := []) (w2 := (wd_X10_sew cy a_v a_v_st a_v_now a_v_isKept a_v_draft a_v_placedRow a_v_tape a_v_by a_v_told a_v_bestRow a_v_ways a_v_lanes a_v_sizes a_v_cells a_v_before v_hasOrder v_hasStart v_placed v_placedMany v_highest v_taped v_pos v_begun v_sort v_value v_fault v_wrongAt v_rightSum v_wrongSum v_allWays v_torn v_st)) ⟨hx, hb, hml, hown, hts⟩ (c_X10_canBe l D cy sa 1 x2 o6 hc7) (va_cwS 2 hts gX10_sew_X10_canBe rfl rfl rfl (by decide +kernel) ⟨Nat.le_of_ble_eq_true rfl, Nat.le_of_ble_eq_true rfl⟩) hE hP hDD rfl hS [] rfl rfl rfl rfl hl.1 (Nat.le_of_ble_eq_true rfl) ⟨Nat.zero_le _, Nat.zero_le _⟩ rfl dX10_sew_10 rfl (fun H locs hP hS => ?_)
    obtain ⟨hr8, h⟩ := chk_some h
    refine wi_if_eq (tgt := 24) hx hb dX10_sew_13 (by decide) hr8 (fun c10 => ?_) (fun c10 => ?_)
    · have h := ite_t c10 h
      refine wi_ic hx hb dX10_sew_24 ?_
      obtain rfl := Option.some.inj h
      exact KR _ _ _ _ hP hS dX10_sew_25
    · have h := ite_f c10 h
      refine wi_ic hx hb dX10_sew_16 ?_
      refine lv_iload_n hx hb dX10_sew_17 rfl (lv_at hl 3 rfl) ?_
      obtain ⟨o11, hc12, h⟩ := bnd_some h
      refine cS_i (rest := []) (w2 := (wd_X10_sew cy a_v a_v_st a_v_now a_v_isKept a_v_draft a_v_placedRow a_v_tape a_v_by a_v_told a_v_bestRow a_v_ways a_v_lanes a_v_sizes a_v_cells a_v_before v_hasOrder v_hasStart v_placed v_placedMany v_highest v_taped v_pos v_begun v_sort v_value v_fault v_wrongAt v_rightSum v_wrongSum v_allWays v_torn v_st)) ⟨hx, hb, hml, hown, hts⟩ (c_X10_canBe l D cy sa 2 x3 o11 hc12) (va_cwS 2 hts gX10_sew_X10_canBe rfl rfl rfl (by decide +kernel) ⟨Nat.le_of_ble_eq_true rfl, Nat.le_of_ble_eq_true rfl⟩) hE hP hDD rfl hS [] rfl rfl rfl rfl hl.1 (Nat.le_of_ble_eq_true rfl) ⟨Nat.zero_le _, Nat.zero_le _⟩ rfl dX10_sew_18 rfl (fun H locs hP hS => ?_)
      obtain ⟨hr13, h⟩ := chk_some h
      refine wi_if_ne (tgt := 26) hx hb dX10_sew_21 (by decide) hr13 (fun c15 => ?_) (fun c15 => ?_)
      · have h := ite_f c15 h
        refine lv_aload_n hx hb dX10_sew_26 rfl (lv_at hl 0 rfl) ?_
        refine wi_get (v := .ref a_v_st) hx hb hts iX10 hown hE hP 0 rfl rfl 0 (by decide) q0 rfl dX10_sew_27 ?_
        refine wi_bi hx hb dX10_sew_30 (by decide) ?_
        refine wi_iald hx hb hE hP 1 rfl (by decide) (by decide) dX10_sew_32 ?_
        refine wi_ic hx hb dX10_sew_33 ?_
        obtain ⟨hr16, h⟩ := chk_some h
        refine wi_ic_ne (tgt := 40) hx hb dX10_sew_34 (by decide) hr16 (by decide) (fun c18 => ?_) (fun c18 => ?_)
        · have h := ite_f c18 h
          refine wi_bi hx hb dX10_sew_40 (by decide) ?_
          refine lv_aload_n hx hb dX10_sew_42 rfl (lv_at hl 0 rfl) ?_
          refine wi_get (v := .ref a_v_st) hx hb hts iX10 hown hE hP 0 rfl rfl 0 (by decide) q0 rfl dX10_sew_43 ?_
          refine wi_bi hx hb dX10_sew_46 (by decide) ?_
          refine wi_iald hx hb hE hP 1 rfl (by decide) (by decide) dX10_sew_48 ?_
          refine wi_imul hx hb dX10_sew_49 ?_
          refine lv_istore (lv' := [(4, .int (zI (6 * (v_st 30)))), (0, .ref a_v), (1, .int (zI x1)), (2, .int (zI x2)), (3, .int (zI x3))]) hx hb dX10_sew_50 hl (by decide) rfl (fun ls hl => ?_)
          refine lv_aload_n hx hb dX10_sew_52 rfl (lv_at hl 1 rfl) ?_
          refine wi_get (v := .ref a_v_st) hx hb hts iX10 hown hE hP 0 rfl rfl 0 (by decide) q0 rfl dX10_sew_53 ?_
          refine lv_iload hx hb dX10_sew_56 (lv_at hl 0 rfl) ?_
          refine wi_ic hx hb dX10_sew_58 ?_
          refine wi_iadd hx hb dX10_sew_59 ?_
          refine lv_iload_n hx hb dX10_sew_60 rfl (lv_at hl 2 rfl) ?_
          obtain ⟨hk19, h⟩ := chk_some h
          refine wi_iast (w2 := (wd_X10_sew cy a_v a_v_st a_v_now a_v_isKept a_v_draft a_v_placedRow a_v_tape a_v_by a_v_told a_v_bestRow a_v_ways a_v_lanes a_v_sizes a_v_cells a_v_before v_hasOrder v_hasStart v_placed v_placedMany v_highest v_taped v_pos v_begun v_sort v_value v_fault v_wrongAt v_rightSum v_wrongSum v_allWays v_torn (upZ v_st ((6 * (v_st 30)) + 0).toNat x1))) hx hb hE hP hDD rfl hS 1 rfl (by decide) hk19 dX10_sew_61 rfl (fun H locs hP hS => ?_)
          refine lv_aload_n hx hb dX10_sew_62 rfl (lv_at hl 1 rfl) ?_
          refine wi_get (v := .ref a_v_st) hx hb hts iX10 hown hE hP 0 rfl rfl 0 (by decide) q0 rfl dX10_sew_63 ?_
          refine lv_iload hx hb dX10_sew_66 (lv_at hl 0 rfl) ?_
          refine wi_ic hx hb dX10_sew_68 ?_
          refine wi_iadd hx hb dX10_sew_69 ?_
          refine lv_iload_n hx hb dX10_sew_70 rfl (lv_at hl 3 rfl) ?_
          obtain ⟨hk20, h⟩ := chk_some h
          refine wi_iast (w2 := (wd_X10_sew cy a_v a_v_st a_v_now a_v_isKept a_v_draft a_v_placedRow a_v_tape a_v_by a_v_told a_v_bestRow a_v_ways a_v_lanes a_v_sizes a_v_cells a_v_before v_hasOrder v_hasStart v_placed v_placedMany v_highest v_taped v_pos v_begun v_sort v_value v_fault v_wrongAt v_rightSum v_wrongSum v_allWays v_torn (upZ (upZ v_st ((6 * (v_st 30)) + 0).toNat x1) ((6 * (v_st 30)) + 1).toNat x2))) hx hb hE hP hDD rfl hS 1 rfl (by decide) hk20 dX10_sew_71 rfl (fun H locs hP hS => ?_)
          refine lv_aload_n hx hb dX10_sew_72 rfl (lv_at hl 1 rfl) ?_
          refine wi_get (v := .ref a_v_st) hx hb hts iX10 hown hE hP 0 rfl rfl 0 (by decide) q0 rfl dX10_sew_73 ?_
          refine lv_iload hx hb dX10_sew_76 (lv_at hl 0 rfl) ?_
          refine wi_ic hx hb dX10_sew_78 ?_
          refine wi_iadd hx hb dX10_sew_79 ?_
          refine lv_iload_n hx hb dX10_sew_80 rfl (lv_at hl 4 rfl) ?_
          obtain ⟨hk21, h⟩ := chk_some h
          refine wi_iast (w2 := (wd_X10_sew cy a_v a_v_st a_v_now a_v_isKept a_v_draft a_v_placedRow a_v_tape a_v_by a_v_told a_v_bestRow a_v_ways a_v_lanes a_v_sizes a_v_cells a_v_before v_hasOrder v_hasStart v_placed v_placedMany v_highest v_taped v_pos v_begun v_sort v_value v_fault v_wrongAt v_rightSum v_wrongSum v_allWays v_torn (upZ (upZ (upZ v_st ((6 * (v_st 30)) + 0).toNat x1) ((6 * (v_st 30)) + 1).toNat x2) ((6 * (v_st 30)) + 2).toNat x3))) hx hb hE hP hDD rfl hS 1 rfl (by decide) hk21 dX10_sew_81 rfl (fun H locs hP hS => ?_)
          refine lv_aload_n hx hb dX10_sew_82 rfl (lv_at hl 1 rfl) ?_
          refine wi_get (v := .ref a_v_st) hx hb hts iX10 hown hE hP 0 rfl rfl 0 (by decide) q0 rfl dX10_sew_83 ?_
          refine lv_iload hx hb dX10_sew_86 (lv_at hl 0 rfl) ?_
          refine wi_ic hx hb dX10_sew_88 ?_
          refine wi_iadd hx hb dX10_sew_89 ?_
          refine wi_ic hx hb dX10_sew_90 ?_
          obtain ⟨hk22, h⟩ := chk_some h
          refine wi_iast (w2 := (wd_X10_sew cy a_v a_v_st a_v_now a_v_isKept a_v_draft a_v_placedRow a_v_tape a_v_by a_v_told a_v_bestRow a_v_ways a_v_lanes a_v_sizes a_v_cells a_v_before v_hasOrder v_hasStart v_placed v_placedMany v_highest v_taped v_pos v_begun v_sort v_value v_fault v_wrongAt v_rightSum v_wrongSum v_allWays v_torn (upZ (upZ (upZ (upZ v_st ((6 * (v_st 30)) + 0).toNat x1) ((6 * (v_st 30)) + 1).toNat x2) ((6 * (v_st 30)) + 2).toNat x3) ((6 * (v_st 30)) + 3).toNat 1))) hx hb hE hP hDD rfl hS 1 rfl (by decide) hk22 dX10_sew_91 rfl (fun H locs hP hS => ?_)
          refine lv_aload_n hx hb dX10_sew_92 rfl (lv_at hl 1 rfl) ?_
          refine wi_get (v := .ref a_v_st) hx hb hts iX10 hown hE hP 0 rfl rfl 0 (by decide) q0 rfl dX10_sew_93 ?_
          refine lv_iload hx hb dX10_sew_96 (lv_at hl 0 rfl) ?_
          refine wi_ic hx hb dX10_sew_98 ?_
          refine wi_iadd hx hb dX10_sew_99 ?_
          refine wi_bi hx hb dX10_sew_100 (by decide) ?_
          obtain ⟨hk23, h⟩ := chk_some h
          refine wi_iast (w2 := (wd_X10_sew cy a_v a_v_st a_v_now a_v_isKept a_v_draft a_v_placedRow a_v_tape a_v_by a_v_told a_v_bestRow a_v_ways a_v_lanes a_v_sizes a_v_cells a_v_before v_hasOrder v_hasStart v_placed v_placedMany v_highest v_taped v_pos v_begun v_sort v_value v_fault v_wrongAt v_rightSum v_wrongSum v_allWays v_torn (upZ (upZ (upZ (upZ (upZ v_st ((6 * (v_st 30)) + 0).toNat x1) ((6 * (v_st 30)) + 1).toNat x2) ((6 * (v_st 30)) + 2).toNat x3) ((6 * (v_st 30)) + 3).toNat 1) ((6 * (v_st 30)) + 4).toNat 8))) hx hb hE hP hDD rfl hS 1 rfl (by decide) hk23 dX10_sew_102 rfl (fun H locs hP hS => ?_)
          refine lv_aload_n hx hb dX10_sew_103 rfl (lv_at hl 1 rfl) ?_
          refine wi_get (v := .ref a_v_st) hx hb hts iX10 hown hE hP 0 rfl rfl 0 (by decide) q0 rfl dX10_sew_104 ?_
          refine lv_iload hx hb dX10_sew_107 (lv_at hl 0 rfl) ?_
          refine wi_ic hx hb dX10_sew_109 ?_
          refine wi_iadd hx hb dX10_sew_110 ?_
          refine wi_ic hx hb dX10_sew_111 ?_
          obtain ⟨hk24, h⟩ := chk_some h
          refine wi_iast (w2 := (wd_X10_sew cy a_v a_v_st a_v_now a_v_isKept a_v_draft a_v_placedRow a_v_tape a_v_by a_v_told a_v_bestRow a_v_ways a_v_lanes a_v_sizes a_v_cells a_v_before v_hasOrder v_hasStart v_placed v_placedMany v_highest v_taped v_pos v_begun v_sort v_value v_fault v_wrongAt v_rightSum v_wrongSum v_allWays v_torn (upZ (upZ (upZ (upZ (upZ (upZ v_st ((6 * (v_st 30)) + 0).toNat x1) ((6 * (v_st 30)) + 1).toNat x2) ((6 * (v_st 30)) + 2).toNat x3) ((6 * (v_st 30)) + 3).toNat 1) ((6 * (v_st 30)) + 4).toNat 8) ((6 * (v_st 30)) + 5).toNat 0))) hx hb hE hP hDD rfl hS 1 rfl (by decide) hk24 dX10_sew_112 rfl (fun H locs hP hS => ?_)
          refine lv_aload_n hx hb dX10_sew_113 rfl (lv_at hl 1 rfl) ?_
          refine wi_get (v := .ref a_v_st) hx hb hts iX10 hown hE hP 0 rfl rfl 0 (by decide) q0 rfl dX10_sew_114 ?_
          refine wi_bi hx hb dX10_sew_117 (by decide) ?_
          refine lv_aload_n hx hb dX10_sew_119 rfl (lv_at hl 1 rfl) ?_
          refine wi_get (v := .ref a_v_st) hx hb hts iX10 hown hE hP 0 rfl rfl 0 (by decide) q0 rfl dX10_sew_120 ?_
          refine wi_bi hx hb dX10_sew_123 (by decide) ?_
          refine wi_iald hx hb hE hP 1 rfl (by decide) (by decide) dX10_sew_125 ?_
          refine wi_iadd hx hb dX10_sew_126 ?_
          refine lv_aload_n hx hb dX10_sew_127 rfl (lv_at hl 1 rfl) ?_
          refine wi_get (v := .ref a_v_st) hx hb hts iX10 hown hE hP 0 rfl rfl 0 (by decide) q0 rfl dX10_sew_128 ?_
          refine wi_bi hx hb dX10_sew_131 (by decide) ?_
          refine wi_iald hx hb hE hP 1 rfl (by decide) (by decide) dX10_sew_133 ?_
          obtain ⟨hk25, h⟩ := chk_some h
          refine wi_iast (w2 := (wd_X10_sew cy a_v a_v_st a_v_now a_v_isKept a_v_draft a_v_placedRow a_v_tape a_v_by a_v_told a_v_bestRow a_v_ways a_v_lanes a_v_sizes a_v_cells a_v_before v_hasOrder v_hasStart v_placed v_placedMany v_highest v_taped v_pos v_begun v_sort v_value v_fault v_wrongAt v_rightSum v_wrongSum v_allWays v_torn (upZ (upZ (upZ (upZ (upZ (upZ (upZ v_st ((6 * (v_st 30)) + 0).toNat x1) ((6 * (v_st 30)) + 1).toNat x2) ((6 * (v_st 30)) + 2).toNat x3) ((6 * (v_st 30)) + 3).toNat 1) ((6 * (v_st 30)) + 4).toNat 8) ((6 * (v_st 30)) + 5).toNat 0) (31 + ((upZ (upZ (upZ (upZ (upZ (upZ v_st ((6 * (v_st 30)) + 0).toNat x1) ((6 * (v_st 30)) + 1).toNat x2) ((6 * (v_st 30)) + 2).toNat x3) ((6 * (v_st 30)) + 3).toNat 1) ((6 * (v_st 30)) + 4).toNat 8) ((6 * (v_st 30)) + 5).toNat 0) 30)).toNat ((upZ (upZ (upZ (upZ (upZ (upZ v_st ((6 * (v_st 30)) + 0).toNat x1) ((6 * (v_st 30)) + 1).toNat x2) ((6 * (v_st 30)) + 2).toNat x3) ((6 * (v_st 30)) + 3).toNat 1) ((6 * (v_st 30)) + 4).toNat 8) ((6 * (v_st 30)) + 5).toNat 0) 30)))) hx hb hE hP hDD rfl hS 1 rfl (by decide) hk25 dX10_sew_134 rfl (fun H locs hP hS => ?_)
          refine lv_aload_n hx hb dX10_sew_135 rfl (lv_at hl 1 rfl) ?_
          refine wi_get (v := .ref a_v_st) hx hb hts iX10 hown hE hP 0 rfl rfl 0 (by decide) q0 rfl dX10_sew_136 ?_
          refine wi_bi hx hb dX10_sew_139 (by decide) ?_
          refine lv_dup2_11 hx hb dX10_sew_141 rfl rfl ?_
          refine wi_iald hx hb hE hP 1 rfl (by decide) (by decide) dX10_sew_142 ?_
          refine wi_ic hx hb dX10_sew_143 ?_
          refine wi_iadd hx hb dX10_sew_144 ?_
          refine wi_iast (w2 := (wd_X10_sew cy a_v a_v_st a_v_now a_v_isKept a_v_draft a_v_placedRow a_v_tape a_v_by a_v_told a_v_bestRow a_v_ways a_v_lanes a_v_sizes a_v_cells a_v_before v_hasOrder v_hasStart v_placed v_placedMany v_highest v_taped v_pos v_begun v_sort v_value v_fault v_wrongAt v_rightSum v_wrongSum v_allWays v_torn (upZ (upZ (upZ (upZ (upZ (upZ (upZ (upZ v_st ((6 * (v_st 30)) + 0).toNat x1) ((6 * (v_st 30)) + 1).toNat x2) ((6 * (v_st 30)) + 2).toNat x3) ((6 * (v_st 30)) + 3).toNat 1) ((6 * (v_st 30)) + 4).toNat 8) ((6 * (v_st 30)) + 5).toNat 0) (31 + ((upZ (upZ (upZ (upZ (upZ (upZ v_st ((6 * (v_st 30)) + 0).toNat x1) ((6 * (v_st 30)) + 1).toNat x2) ((6 * (v_st 30)) + 2).toNat x3) ((6 * (v_st 30)) + 3).toNat 1) ((6 * (v_st 30)) + 4).toNat 8) ((6 * (v_st 30)) + 5).toNat 0) 30)).toNat ((upZ (upZ (upZ (upZ (upZ (upZ v_st ((6 * (v_st 30)) + 0).toNat x1) ((6 * (v_st 30)) + 1).toNat x2) ((6 * (v_st 30)) + 2).toNat x3) ((6 * (v_st 30)) + 3).toNat 1) ((6 * (v_st 30)) + 4).toNat 8) ((6 * (v_st 30)) + 5).toNat 0) 30)) 30 (((upZ (upZ (upZ (upZ (upZ (upZ (upZ v_st ((6 * (v_st 30)) + 0).toNat x1) ((6 * (v_st 30)) + 1).toNat x2) ((6 * (v_st 30)) + 2).toNat x3) ((6 * (v_st 30)) + 3).toNat 1) ((6 * (v_st 30)) + 4).toNat 8) ((6 * (v_st 30)) + 5).toNat 0) (31 + ((upZ (upZ (upZ (upZ (upZ (upZ v_st ((6 * (v_st 30)) + 0).toNat x1) ((6 * (v_st 30)) + 1).toNat x2) ((6 * (v_st 30)) + 2).toNat x3) ((6 * (v_st 30)) + 3).toNat 1) ((6 * (v_st 30)) + 4).toNat 8) ((6 * (v_st 30)) + 5).toNat 0) 30)).toNat ((upZ (upZ (upZ (upZ (upZ (upZ v_st ((6 * (v_st 30)) + 0).toNat x1) ((6 * (v_st 30)) + 1).toNat x2) ((6 * (v_st 30)) + 2).toNat x3) ((6 * (v_st 30)) + 3).toNat 1) ((6 * (v_st 30)) + 4).toNat 8) ((6 * (v_st 30)) + 5).toNat 0) 30)) 30) + 1)))) hx hb hE hP hDD rfl hS 1 rfl (by decide) (by decide) dX10_sew_145 rfl (fun H locs hP hS => ?_)
          refine lv_aload_n hx hb dX10_sew_146 rfl (lv_at hl 1 rfl) ?_
          refine wi_get (v := .ref a_v_st) hx hb hts iX10 hown hE hP 0 rfl rfl 0 (by decide) q0 rfl dX10_sew_147 ?_
          refine wi_bi hx hb dX10_sew_150 (by decide) ?_
          refine wi_iald hx hb hE hP 1 rfl (by decide) (by decide) dX10_sew_152 ?_
          obtain rfl := Option.some.inj h
          exact KR _ _ _ _ hP hS dX10_sew_153
        · have h := ite_t c18 h
          refine wi_bi hx hb dX10_sew_37 (by decide) ?_
          obtain rfl := Option.some.inj h
          exact KR _ _ _ _ hP hS dX10_sew_39
      · have h := ite_t c15 h
        refine wi_ic hx hb dX10_sew_24 ?_
        obtain rfl := Option.some.inj h
        exact KR _ _ _ _ hP hS dX10_sew_25
abbrev wd_X10_clock (cy : Nat → ClassId) (a_v : Nat) (a_v_by : Nat) (a_v_now : Nat) (a_v_st : Nat) (a_v_told : Nat) (a_v_isKept : Nat) (a_v_draft : Nat) (a_v_placedRow : Nat) (a_v_tape : Nat) (a_v_bestRow : Nat) (a_v_ways : Nat) (a_v_lanes : Nat) (a_v_sizes : Nat) (a_v_cells : Nat) (a_v_before : Nat) (v_hasOrder : Int) (v_hasStart : Int) (v_placed : Int) (v_placedMany : Int) (v_highest : Int) (v_taped : Int) (v_pos : Int) (v_begun : Int) (v_sort : Int) (v_value : Int) (v_fault : Int) (v_wrongAt : Int) (v_rightSum : Int) (v_wrongSum : Int) (v_allWays : Int) (v_torn : Int) (v_by : Nat → Int) (v_now : Nat → Int) (v_st : Nat → Int) (v_told : Nat → Int) : va_W := [(a_v, .inr (10, [.ref a_v_st, .ref a_v_now, .ref a_v_isKept, .ref a_v_draft, .int (zI v_hasOrder), .int (zI v_hasStart), .int (zI v_placed), .int (zI v_placedMany), .ref a_v_placedRow, .int (zI v_highest), .ref a_v_tape, .int (zI v_taped), .int (zI v_pos), .int (zI v_begun), .int (zI v_sort), .int (zI v_value), .int (zI v_fault), .int (zI v_wrongAt), .ref a_v_by, .ref a_v_told, .ref a_v_bestRow, .long (zL v_rightSum), .long (zL v_wrongSum), .long (zL v_allWays), .ref a_v_ways, .ref a_v_lanes, .ref a_v_sizes, .ref a_v_cells, .int (zI v_torn), .ref a_v_before])), (a_v_by, .inl (cy 0, 120, .inl (fun j => zI (v_by j)))), (a_v_now, .inl (cy 0, 56, .inl (fun j => zI (v_now j)))), (a_v_st, .inl (cy 0, 168, .inl (fun j => zI (v_st j)))), (a_v_told, .inl (cy 0, 120, .inl (fun j => zI (v_told j))))]
set_option maxHeartbeats 4000000 in
set_option maxRecDepth 100000 in
theorem c_X10_clock (l : Launch) (D : va_G) (cy : Nat → ClassId) (sa : Nat → Nat) (a_v : Nat) (a_v_by : Nat) (a_v_now : Nat) (a_v_st : Nat) (a_v_told : Nat) (a_v_isKept : Nat) (a_v_draft : Nat) (a_v_placedRow : Nat) (a_v_tape : Nat) (a_v_bestRow : Nat) (a_v_ways : Nat) (a_v_lanes : Nat) (a_v_sizes : Nat) (a_v_cells : Nat) (a_v_before : Nat) (v_hasOrder : Int) (v_hasStart : Int) (v_placed : Int) (v_placedMany : Int) (v_highest : Int) (v_taped : Int) (v_pos : Int) (v_begun : Int) (v_sort : Int) (v_value : Int) (v_fault : Int) (v_wrongAt : Int) (v_rightSum : Int) (v_wrongSum : Int) (v_allWays : Int) (v_torn : Int) (v_by : Nat → Int) (v_now : Nat → Int) (v_st : Nat → Int) (v_told : Nat → Int) (x1 : Int) (x2 : Int) (x3 : Int) (o : Int × (Nat → Int) × (Nat → Int) × (Nat → Int)) (h : f_M_clock v_by v_now v_st v_told x1 x2 x3 = some o) : CtI l yX10_clock wsX10_clock ({ frames := 5, cells := 0, slots := 0, locals := 111 }) D cy sa [.ref a_v, .int (zI x1), .int (zI x2), .int (zI x3)] (wd_X10_clock cy a_v a_v_by a_v_now a_v_st a_v_told a_v_isKept a_v_draft a_v_placedRow a_v_tape a_v_bestRow a_v_ways a_v_lanes a_v_sizes a_v_cells a_v_before v_hasOrder v_hasStart v_placed v_placedMany v_highest v_taped v_pos v_begun v_sort v_value v_fault v_wrongAt v_rightSum v_wrongSum v_allWays v_torn v_by v_now v_st v_told) (wd_X10_clock cy a_v a_v_by a_v_now a_v_st a_v_told a_v_isKept a_v_draft a_v_placedRow a_v_tape a_v_bestRow a_v_ways a_v_lanes a_v_sizes a_v_cells a_v_before v_hasOrder v_hasStart v_placed v_placedMany v_highest v_taped v_pos v_begun v_sort v_value v_fault v_wrongAt v_rightSum v_wrongSum v_allWays v_torn o.2.1 o.2.2.1 v_st o.2.2.2) o.1 := by
  refine ct_I (cc := cX10_clock) (maxL := 4) (plainFor_of_name (by decide)) rfl (Nat.le_of_ble_eq_true rfl) ?_
  intro p e s m below meth c A args QQ hx hb hml hown hts hE hDD hP KR ls hl
  have hl : lv_has ls 4 [(0, .ref a_v), (1, .int (zI x1)), (2, .int (zI x2)), (3, .int (zI x3))] := hl
  have hDD : DD A [a_v, a_v_by, a_v_now, a_v_st, a_v_told] := hDD
  have hS : va_S A s.heap s.heap [] := va_S.rf
  have q0 := hts (.fieldLink RX10 29 "HatHoursModel" "by" "[I") (List.mem_of_getElem? (i := 2) rfl)
  have q1 := hts (.fieldLink RX10 32 "HatHoursModel" "told" "[I") (List.mem_of_getElem? (i := 1) rfl)
  have iX10 : ∀ w ∈ u_ws RX10 TX10 30, w ∈ wsX10_clock := in_slice 55 30 rfl
  refine lv_iload_n hx hb dX10_clock_0 rfl (lv_at hl 1 rfl) ?_
  obtain ⟨o1, hc2, h⟩ := bnd_some h
  refine cS_i (rest := []) (w2 := (wd_X10_clock cy a_v a_v_by a_v_now a_v_st a_v_told a_v_isKept a_v_draft a_v_placedRow a_v_tape a_v_bestRow a_v_ways a_v_lanes a_v_sizes a_v_cells a_v_before v_hasOrder v_hasStart v_placed v_placedMany v_highest v_taped v_pos v_begun v_sort v_value v_fault v_wrongAt v_rightSum v_wrongSum v_allWays v_torn v_by v_now v_st v_told)) ⟨hx, hb, hml, hown, hts⟩ (c_X10_isRoom l D cy sa x1 o1 hc2) (va_cwS 1 hts gX10_clock_X10_isRoom rfl rfl rfl (by decide +kernel) ⟨Nat.le_of_ble_eq_true rfl, Nat.le_of_ble_eq_true rfl⟩) hE hP hDD rfl hS [] rfl rfl rfl rfl hl.1 (Nat.le_of_ble_eq_true rfl) ⟨Nat.zero_le _, Nat.zero_le _⟩ rfl dX10_clock_1 rfl (fun H locs hP hS => ?_)
  obtain ⟨hr3, h⟩ := chk_some h
  refine wi_if_eq (tgt := 21) hx hb dX10_clock_4 (by decide) hr3 (fun c5 => ?_) (fun c5 => ?_)
  · have h := ite_t c5 h
    refine wi_ic hx hb dX10_clock_21 ?_
    obtain rfl := Option.some.inj h
    exact KR _ _ _ _ hP hS dX10_clock_22
  · have h := ite_f c5 h
    refine lv_iload_n hx hb dX10_clock_7 rfl (lv_at hl 2 rfl) ?_
    obtain ⟨o6, hc7, h⟩ := bnd_some h
    refine cS_i (rest := []) (w2 := (wd_X10_clock cy a_v a_v_by a_v_now a_v_st a_v_told a_v_isKept a_v_draft a_v_placedRow a_v_tape a_v_bestRow a_v_ways a_v_lanes a_v_sizes a_v_cells a_v_before v_hasOrder v_hasStart v_placed v_placedMany v_highest v_taped v_pos v_begun v_sort v_value v_fault v_wrongAt v_rightSum v_wrongSum v_allWays v_torn v_by v_now v_st v_told)) ⟨hx, hb, hml, hown, hts⟩ (c_X10_isHour l D cy sa x2 o6 hc7) (va_cwS 1 hts gX10_clock_X10_isHour rfl rfl rfl (by decide +kernel) ⟨Nat.le_of_ble_eq_true rfl, Nat.le_of_ble_eq_true rfl⟩) hE hP hDD rfl hS [] rfl rfl rfl rfl hl.1 (Nat.le_of_ble_eq_true rfl) ⟨Nat.zero_le _, Nat.zero_le _⟩ rfl dX10_clock_8 rfl (fun H locs hP hS => ?_)
    obtain ⟨hr8, h⟩ := chk_some h
    refine wi_if_eq (tgt := 21) hx hb dX10_clock_11 (by decide) hr8 (fun c10 => ?_) (fun c10 => ?_)
    · have h := ite_t c10 h
      refine wi_ic hx hb dX10_clock_21 ?_
      obtain rfl := Option.some.inj h
      exact KR _ _ _ _ hP hS dX10_clock_22
    · have h := ite_f c10 h
      refine lv_iload_n hx hb dX10_clock_14 rfl (lv_at hl 3 rfl) ?_
      obtain ⟨o11, hc12, h⟩ := bnd_some h
      refine cS_i (rest := []) (w2 := (wd_X10_clock cy a_v a_v_by a_v_now a_v_st a_v_told a_v_isKept a_v_draft a_v_placedRow a_v_tape a_v_bestRow a_v_ways a_v_lanes a_v_sizes a_v_cells a_v_before v_hasOrder v_hasStart v_placed v_placedMany v_highest v_taped v_pos v_begun v_sort v_value v_fault v_wrongAt v_rightSum v_wrongSum v_allWays v_torn v_by v_now v_st v_told)) ⟨hx, hb, hml, hown, hts⟩ (c_X10_isPart l D cy sa x3 o11 hc12) (va_cwS 1 hts gX10_clock_X10_isPart rfl rfl rfl (by decide +kernel) ⟨Nat.le_of_ble_eq_true rfl, Nat.le_of_ble_eq_true rfl⟩) hE hP hDD rfl hS [] rfl rfl rfl rfl hl.1 (Nat.le_of_ble_eq_true rfl) ⟨Nat.zero_le _, Nat.zero_le _⟩ rfl dX10_clock_15 rfl (fun H locs hP hS => ?_)
      obtain ⟨hr13, h⟩ := chk_some h
      refine wi_if_ne (tgt := 23) hx hb dX10_clock_18 (by decide) hr13 (fun c15 => ?_) (fun c15 => ?_)
      · have h := ite_f c15 h
        refine lv_aload_n hx hb dX10_clock_23 rfl (lv_at hl 0 rfl) ?_
        obtain ⟨o16, hc17, h⟩ := bnd_some h
        refine cV_v (rest := []) (w2 := (wd_X10_clock cy a_v a_v_by a_v_now a_v_st a_v_told a_v_isKept a_v_draft a_v_placedRow a_v_tape a_v_bestRow a_v_ways a_v_lanes a_v_sizes a_v_cells a_v_before v_hasOrder v_hasStart v_placed v_placedMany v_highest v_taped v_pos v_begun v_sort v_value v_fault v_wrongAt v_rightSum v_wrongSum v_allWays v_torn o16.1 o16.2.1 v_st o16.2.2)) ⟨hx, hb, hml, hown, hts⟩ (c_X10_looksAtDay l D cy sa a_v a_v_by a_v_now a_v_st a_v_told a_v_isKept a_v_draft a_v_placedRow a_v_tape a_v_bestRow a_v_ways a_v_lanes a_v_sizes a_v_cells a_v_before v_hasOrder v_hasStart v_placed v_placedMany v_highest v_taped v_pos v_begun v_sort v_value v_fault v_wrongAt v_rightSum v_wrongSum v_allWays v_torn v_by v_now v_st v_told o16 hc17) (cwV 0 hts gX10_clock_X10_looksAtDay rfl rfl rfl (by decide +kernel) ⟨Nat.le_of_ble_eq_true rfl, Nat.le_of_ble_eq_true rfl⟩) rfl rfl rfl hE hP hDD rfl hS [0, 1, 2, 3, 4] rfl rfl rfl rfl hl.1 (Nat.le_of_ble_eq_true rfl) ⟨Nat.zero_le _, Nat.zero_le _⟩ rfl dX10_clock_24 rfl (fun H locs hP hS => ?_)
        refine lv_iload_n hx hb dX10_clock_27 rfl (lv_at hl 3 rfl) ?_
        obtain ⟨hr18, h⟩ := chk_some h
        refine wi_if_ne (tgt := 45) hx hb dX10_clock_28 (by decide) hr18 (fun c20 => ?_) (fun c20 => ?_)
        · have h := ite_f c20 h
          refine lv_aload_n hx hb dX10_clock_45 rfl (lv_at hl 0 rfl) ?_
          refine wi_get (v := .ref a_v_by) hx hb hts iX10 hown hE hP 0 rfl rfl 18 (by decide) q0 rfl dX10_clock_46 ?_
          refine wi_bi hx hb dX10_clock_49 (by decide) ?_
          refine lv_iload_n hx hb dX10_clock_51 rfl (lv_at hl 1 rfl) ?_
          refine wi_imul hx hb dX10_clock_52 ?_
          refine lv_iload_n hx hb dX10_clock_53 rfl (lv_at hl 2 rfl) ?_
          refine wi_iadd hx hb dX10_clock_54 ?_
          obtain ⟨hk21, h⟩ := chk_some h
          refine wi_iald hx hb hE hP 1 rfl (by decide) hk21 dX10_clock_55 ?_
          obtain rfl := Option.some.inj h
          exact KR _ _ _ _ hP hS dX10_clock_56
        · have h := ite_t c20 h
          refine lv_aload_n hx hb dX10_clock_31 rfl (lv_at hl 0 rfl) ?_
          refine wi_get (v := .ref a_v_told) hx hb hts iX10 hown hE hP 0 rfl rfl 19 (by decide) q1 rfl dX10_clock_32 ?_
          refine wi_bi hx hb dX10_clock_35 (by decide) ?_
          refine lv_iload_n hx hb dX10_clock_37 rfl (lv_at hl 1 rfl) ?_
          refine wi_imul hx hb dX10_clock_38 ?_
          refine lv_iload_n hx hb dX10_clock_39 rfl (lv_at hl 2 rfl) ?_
          refine wi_iadd hx hb dX10_clock_40 ?_
          obtain ⟨hk22, h⟩ := chk_some h
          refine wi_iald hx hb hE hP 4 rfl (by decide) hk22 dX10_clock_41 ?_
          refine lv_goto (tgt := 56) hx hb dX10_clock_42 (by decide) ?_
          obtain rfl := Option.some.inj h
          exact KR _ _ _ _ hP hS dX10_clock_56
      · have h := ite_t c15 h
        refine wi_ic hx hb dX10_clock_21 ?_
        obtain rfl := Option.some.inj h
        exact KR _ _ _ _ hP hS dX10_clock_22
abbrev wd_X10_room (cy : Nat → ClassId) (a_v : Nat) (a_v_by : Nat) (a_v_now : Nat) (a_v_st : Nat) (a_v_told : Nat) (a_v_isKept : Nat) (a_v_draft : Nat) (a_v_placedRow : Nat) (a_v_tape : Nat) (a_v_bestRow : Nat) (a_v_ways : Nat) (a_v_lanes : Nat) (a_v_sizes : Nat) (a_v_cells : Nat) (a_v_before : Nat) (v_hasOrder : Int) (v_hasStart : Int) (v_placed : Int) (v_placedMany : Int) (v_highest : Int) (v_taped : Int) (v_pos : Int) (v_begun : Int) (v_sort : Int) (v_value : Int) (v_fault : Int) (v_wrongAt : Int) (v_rightSum : Int) (v_wrongSum : Int) (v_allWays : Int) (v_torn : Int) (v_by : Nat → Int) (v_now : Nat → Int) (v_st : Nat → Int) (v_told : Nat → Int) : va_W := [(a_v, .inr (10, [.ref a_v_st, .ref a_v_now, .ref a_v_isKept, .ref a_v_draft, .int (zI v_hasOrder), .int (zI v_hasStart), .int (zI v_placed), .int (zI v_placedMany), .ref a_v_placedRow, .int (zI v_highest), .ref a_v_tape, .int (zI v_taped), .int (zI v_pos), .int (zI v_begun), .int (zI v_sort), .int (zI v_value), .int (zI v_fault), .int (zI v_wrongAt), .ref a_v_by, .ref a_v_told, .ref a_v_bestRow, .long (zL v_rightSum), .long (zL v_wrongSum), .long (zL v_allWays), .ref a_v_ways, .ref a_v_lanes, .ref a_v_sizes, .ref a_v_cells, .int (zI v_torn), .ref a_v_before])), (a_v_by, .inl (cy 0, 120, .inl (fun j => zI (v_by j)))), (a_v_now, .inl (cy 0, 56, .inl (fun j => zI (v_now j)))), (a_v_st, .inl (cy 0, 168, .inl (fun j => zI (v_st j)))), (a_v_told, .inl (cy 0, 120, .inl (fun j => zI (v_told j))))]
set_option maxHeartbeats 4000000 in
set_option maxRecDepth 100000 in
theorem c_X10_room (l : Launch) (D : va_G) (cy : Nat → ClassId) (sa : Nat → Nat) (a_v : Nat) (a_v_by : Nat) (a_v_now : Nat) (a_v_st : Nat) (a_v_told : Nat) (a_v_isKept : Nat) (a_v_draft : Nat) (a_v_placedRow : Nat) (a_v_tape : Nat) (a_v_bestRow : Nat) (a_v_ways : Nat) (a_v_lanes : Nat) (a_v_sizes : Nat) (a_v_cells : Nat) (a_v_before : Nat) (v_hasOrder : Int) (v_hasStart : Int) (v_placed : Int) (v_placedMany : Int) (v_highest : Int) (v_taped : Int) (v_pos : Int) (v_begun : Int) (v_sort : Int) (v_value : Int) (v_fault : Int) (v_wrongAt : Int) (v_rightSum : Int) (v_wrongSum : Int) (v_allWays : Int) (v_torn : Int) (v_by : Nat → Int) (v_now : Nat → Int) (v_st : Nat → Int) (v_told : Nat → Int) (x1 : Int) (x2 : Int) (o : Int × (Nat → Int) × (Nat → Int) × (Nat → Int)) (h : f_M_room v_by v_now v_st v_told x1 x2 = some o) : CtI l yX10_room wsX10_room ({ frames := 5, cells := 0, slots := 0, locals := 111 }) D cy sa [.ref a_v, .int (zI x1), .int (zI x2)] (wd_X10_room cy a_v a_v_by a_v_now a_v_st a_v_told a_v_isKept a_v_draft a_v_placedRow a_v_tape a_v_bestRow a_v_ways a_v_lanes a_v_sizes a_v_cells a_v_before v_hasOrder v_hasStart v_placed v_placedMany v_highest v_taped v_pos v_begun v_sort v_value v_fault v_wrongAt v_rightSum v_wrongSum v_allWays v_torn v_by v_now v_st v_told) (wd_X10_room cy a_v a_v_by a_v_now a_v_st a_v_told a_v_isKept a_v_draft a_v_placedRow a_v_tape a_v_bestRow a_v_ways a_v_lanes a_v_sizes a_v_cells a_v_before v_hasOrder v_hasStart v_placed v_placedMany v_highest v_taped v_pos v_begun v_sort v_value v_fault v_wrongAt v_rightSum v_wrongSum v_allWays v_torn o.2.1 o.2.2.1 v_st o.2.2.2) o.1 := by
  refine ct_I (cc := cX10_room) (maxL := 3) (plainFor_of_name (by decide)) rfl (Nat.le_of_ble_eq_true rfl) ?_
  intro p e s m below meth c A args QQ hx hb hml hown hts hE hDD hP KR ls hl
  have hl : lv_has ls 3 [(0, .ref a_v), (1, .int (zI x1)), (2, .int (zI x2))] := hl
  have hDD : DD A [a_v, a_v_by, a_v_now, a_v_st, a_v_told] := hDD
  have hS : va_S A s.heap s.heap [] := va_S.rf
  refine lv_iload_n hx hb dX10_room_0 rfl (lv_at hl 1 rfl) ?_
  obtain ⟨o1, hc2, h⟩ := bnd_some h
  refine cS_i (rest := []) (w2 := (wd_X10_room cy a_v a_v_by a_v_now a_v_st a_v_told a_v_isKept a_v_draft a_v_placedRow a_v_tape a_v_bestRow a_v_ways a_v_lanes a_v_sizes a_v_cells a_v_before v_hasOrder v_hasStart v_placed v_placedMany v_highest v_taped v_pos v_begun v_sort v_value v_fault v_wrongAt v_rightSum v_wrongSum v_allWays v_torn v_by v_now v_st v_told)) ⟨hx, hb, hml, hown, hts⟩ (c_X10_isRoom l D cy sa x1 o1 hc2) (va_cwS 1 hts gX10_room_X10_isRoom rfl rfl rfl (by decide +kernel) ⟨Nat.le_of_ble_eq_true rfl, Nat.le_of_ble_eq_true rfl⟩) hE hP hDD rfl hS [] rfl rfl rfl rfl hl.1 (Nat.le_of_ble_eq_true rfl) ⟨Nat.zero_le _, Nat.zero_le _⟩ rfl dX10_room_1 rfl (fun H locs hP hS => ?_)
  obtain ⟨hr3, h⟩ := chk_some h
  refine wi_if_eq (tgt := 14) hx hb dX10_room_4 (by decide) hr3 (fun c5 => ?_) (fun c5 => ?_)
  · have h := ite_t c5 h
    refine wi_ic hx hb dX10_room_14 ?_
    obtain rfl := Option.some.inj h
    exact KR _ _ _ _ hP hS dX10_room_15
  · have h := ite_f c5 h
    refine lv_iload_n hx hb dX10_room_7 rfl (lv_at hl 2 rfl) ?_
    obtain ⟨o6, hc7, h⟩ := bnd_some h
    refine cS_i (rest := []) (w2 := (wd_X10_room cy a_v a_v_by a_v_now a_v_st a_v_told a_v_isKept a_v_draft a_v_placedRow a_v_tape a_v_bestRow a_v_ways a_v_lanes a_v_sizes a_v_cells a_v_before v_hasOrder v_hasStart v_placed v_placedMany v_highest v_taped v_pos v_begun v_sort v_value v_fault v_wrongAt v_rightSum v_wrongSum v_allWays v_torn v_by v_now v_st v_told)) ⟨hx, hb, hml, hown, hts⟩ (c_X10_isPart l D cy sa x2 o6 hc7) (va_cwS 1 hts gX10_room_X10_isPart rfl rfl rfl (by decide +kernel) ⟨Nat.le_of_ble_eq_true rfl, Nat.le_of_ble_eq_true rfl⟩) hE hP hDD rfl hS [] rfl rfl rfl rfl hl.1 (Nat.le_of_ble_eq_true rfl) ⟨Nat.zero_le _, Nat.zero_le _⟩ rfl dX10_room_8 rfl (fun H locs hP hS => ?_)
    obtain ⟨hr8, h⟩ := chk_some h
    refine wi_if_ne (tgt := 16) hx hb dX10_room_11 (by decide) hr8 (fun c10 => ?_) (fun c10 => ?_)
    · have h := ite_f c10 h
      refine lv_aload_n hx hb dX10_room_16 rfl (lv_at hl 0 rfl) ?_
      obtain ⟨o11, hc12, h⟩ := bnd_some h
      refine cV_v (rest := []) (w2 := (wd_X10_room cy a_v a_v_by a_v_now a_v_st a_v_told a_v_isKept a_v_draft a_v_placedRow a_v_tape a_v_bestRow a_v_ways a_v_lanes a_v_sizes a_v_cells a_v_before v_hasOrder v_hasStart v_placed v_placedMany v_highest v_taped v_pos v_begun v_sort v_value v_fault v_wrongAt v_rightSum v_wrongSum v_allWays v_torn o11.1 o11.2.1 v_st o11.2.2)) ⟨hx, hb, hml, hown, hts⟩ (c_X10_looksAtDay l D cy sa a_v a_v_by a_v_now a_v_st a_v_told a_v_isKept a_v_draft a_v_placedRow a_v_tape a_v_bestRow a_v_ways a_v_lanes a_v_sizes a_v_cells a_v_before v_hasOrder v_hasStart v_placed v_placedMany v_highest v_taped v_pos v_begun v_sort v_value v_fault v_wrongAt v_rightSum v_wrongSum v_allWays v_torn v_by v_now v_st v_told o11 hc12) (cwV 0 hts gX10_room_X10_looksAtDay rfl rfl rfl (by decide +kernel) ⟨Nat.le_of_ble_eq_true rfl, Nat.le_of_ble_eq_true rfl⟩) rfl rfl rfl hE hP hDD rfl hS [0, 1, 2, 3, 4] rfl rfl rfl rfl hl.1 (Nat.le_of_ble_eq_true rfl) ⟨Nat.zero_le _, Nat.zero_le _⟩ rfl dX10_room_17 rfl (fun H locs hP hS => ?_)
      refine lv_iload_n hx hb dX10_room_20 rfl (lv_at hl 2 rfl) ?_
      obtain ⟨hr13, h⟩ := chk_some h
      refine wi_if_ne (tgt := 32) hx hb dX10_room_21 (by decide) hr13 (fun c15 => ?_) (fun c15 => ?_)
      · have h := ite_f c15 h
        refine lv_aload_n hx hb dX10_room_32 rfl (lv_at hl 0 rfl) ?_
        refine lv_iload_n hx hb dX10_room_33 rfl (lv_at hl 1 rfl) ?_
        obtain ⟨o16, hc17, h⟩ := bnd_some h
        refine cV_i (rest := []) (w2 := (wd_X10_room cy a_v a_v_by a_v_now a_v_st a_v_told a_v_isKept a_v_draft a_v_placedRow a_v_tape a_v_bestRow a_v_ways a_v_lanes a_v_sizes a_v_cells a_v_before v_hasOrder v_hasStart v_placed v_placedMany v_highest v_taped v_pos v_begun v_sort v_value v_fault v_wrongAt v_rightSum v_wrongSum v_allWays v_torn o11.1 o11.2.1 v_st o11.2.2)) ⟨hx, hb, hml, hown, hts⟩ (c_X10_otherwise l D cy sa a_v a_v_told a_v_st a_v_now a_v_isKept a_v_draft a_v_placedRow a_v_tape a_v_by a_v_bestRow a_v_ways a_v_lanes a_v_sizes a_v_cells a_v_before v_hasOrder v_hasStart v_placed v_placedMany v_highest v_taped v_pos v_begun v_sort v_value v_fault v_wrongAt v_rightSum v_wrongSum v_allWays v_torn o11.2.2 x1 o16 hc17) (cwV 1 hts gX10_room_X10_otherwise rfl rfl rfl (by decide +kernel) ⟨Nat.le_of_ble_eq_true rfl, Nat.le_of_ble_eq_true rfl⟩) rfl rfl rfl hE hP hDD rfl hS [0, 4] rfl rfl rfl rfl hl.1 (Nat.le_of_ble_eq_true rfl) ⟨Nat.zero_le _, Nat.zero_le _⟩ rfl dX10_room_34 rfl (fun H locs hP hS => ?_)
        obtain rfl := Option.some.inj h
        exact KR _ _ _ _ hP hS dX10_room_37
      · have h := ite_t c15 h
        refine lv_aload_n hx hb dX10_room_24 rfl (lv_at hl 0 rfl) ?_
        refine lv_iload_n hx hb dX10_room_25 rfl (lv_at hl 1 rfl) ?_
        obtain ⟨o18, hc19, h⟩ := bnd_some h
        refine cV_i (rest := []) (w2 := (wd_X10_room cy a_v a_v_by a_v_now a_v_st a_v_told a_v_isKept a_v_draft a_v_placedRow a_v_tape a_v_bestRow a_v_ways a_v_lanes a_v_sizes a_v_cells a_v_before v_hasOrder v_hasStart v_placed v_placedMany v_highest v_taped v_pos v_begun v_sort v_value v_fault v_wrongAt v_rightSum v_wrongSum v_allWays v_torn o11.1 o11.2.1 v_st o11.2.2)) ⟨hx, hb, hml, hown, hts⟩ (c_X10_yawnsOf l D cy sa a_v a_v_told a_v_st a_v_now a_v_isKept a_v_draft a_v_placedRow a_v_tape a_v_by a_v_bestRow a_v_ways a_v_lanes a_v_sizes a_v_cells a_v_before v_hasOrder v_hasStart v_placed v_placedMany v_highest v_taped v_pos v_begun v_sort v_value v_fault v_wrongAt v_rightSum v_wrongSum v_allWays v_torn o11.2.2 x1 o18 hc19) (cwV 1 hts gX10_room_X10_yawnsOf rfl rfl rfl (by decide +kernel) ⟨Nat.le_of_ble_eq_true rfl, Nat.le_of_ble_eq_true rfl⟩) rfl rfl rfl hE hP hDD rfl hS [0, 4] rfl rfl rfl rfl hl.1 (Nat.le_of_ble_eq_true rfl) ⟨Nat.zero_le _, Nat.zero_le _⟩ rfl dX10_room_26 rfl (fun H locs hP hS => ?_)
        refine lv_goto (tgt := 37) hx hb dX10_room_29 (by decide) ?_
        obtain rfl := Option.some.inj h
        exact KR _ _ _ _ hP hS dX10_room_37
    · have h := ite_t c10 h
      refine wi_ic hx hb dX10_room_14 ?_
      obtain rfl := Option.some.inj h
      exact KR _ _ _ _ hP hS dX10_room_15
abbrev wd_X10_out (cy : Nat → ClassId) (a_v : Nat) (a_v_by : Nat) (a_v_now : Nat) (a_v_st : Nat) (a_v_told : Nat) (a_v_isKept : Nat) (a_v_draft : Nat) (a_v_placedRow : Nat) (a_v_tape : Nat) (a_v_bestRow : Nat) (a_v_ways : Nat) (a_v_lanes : Nat) (a_v_sizes : Nat) (a_v_cells : Nat) (a_v_before : Nat) (v_hasOrder : Int) (v_hasStart : Int) (v_placed : Int) (v_placedMany : Int) (v_highest : Int) (v_taped : Int) (v_pos : Int) (v_begun : Int) (v_sort : Int) (v_value : Int) (v_fault : Int) (v_wrongAt : Int) (v_rightSum : Int) (v_wrongSum : Int) (v_allWays : Int) (v_torn : Int) (v_by : Nat → Int) (v_now : Nat → Int) (v_st : Nat → Int) (v_told : Nat → Int) : va_W := [(a_v, .inr (10, [.ref a_v_st, .ref a_v_now, .ref a_v_isKept, .ref a_v_draft, .int (zI v_hasOrder), .int (zI v_hasStart), .int (zI v_placed), .int (zI v_placedMany), .ref a_v_placedRow, .int (zI v_highest), .ref a_v_tape, .int (zI v_taped), .int (zI v_pos), .int (zI v_begun), .int (zI v_sort), .int (zI v_value), .int (zI v_fault), .int (zI v_wrongAt), .ref a_v_by, .ref a_v_told, .ref a_v_bestRow, .long (zL v_rightSum), .long (zL v_wrongSum), .long (zL v_allWays), .ref a_v_ways, .ref a_v_lanes, .ref a_v_sizes, .ref a_v_cells, .int (zI v_torn), .ref a_v_before])), (a_v_by, .inl (cy 0, 120, .inl (fun j => zI (v_by j)))), (a_v_now, .inl (cy 0, 56, .inl (fun j => zI (v_now j)))), (a_v_st, .inl (cy 0, 168, .inl (fun j => zI (v_st j)))), (a_v_told, .inl (cy 0, 120, .inl (fun j => zI (v_told j))))]
set_option maxHeartbeats 4000000 in
set_option maxRecDepth 100000 in
theorem c_X10_out (l : Launch) (D : va_G) (cy : Nat → ClassId) (sa : Nat → Nat) (a_v : Nat) (a_v_by : Nat) (a_v_now : Nat) (a_v_st : Nat) (a_v_told : Nat) (a_v_isKept : Nat) (a_v_draft : Nat) (a_v_placedRow : Nat) (a_v_tape : Nat) (a_v_bestRow : Nat) (a_v_ways : Nat) (a_v_lanes : Nat) (a_v_sizes : Nat) (a_v_cells : Nat) (a_v_before : Nat) (v_hasOrder : Int) (v_hasStart : Int) (v_placed : Int) (v_placedMany : Int) (v_highest : Int) (v_taped : Int) (v_pos : Int) (v_begun : Int) (v_sort : Int) (v_value : Int) (v_fault : Int) (v_wrongAt : Int) (v_rightSum : Int) (v_wrongSum : Int) (v_allWays : Int) (v_torn : Int) (v_by : Nat → Int) (v_now : Nat → Int) (v_st : Nat → Int) (v_told : Nat → Int) (x1 : Int) (o : Int × (Nat → Int) × (Nat → Int) × (Nat → Int)) (h : f_M_out v_by v_now v_st v_told x1 = some o) : CtI l yX10_out wsX10_out ({ frames := 5, cells := 0, slots := 0, locals := 111 }) D cy sa [.ref a_v, .int (zI x1)] (wd_X10_out cy a_v a_v_by a_v_now a_v_st a_v_told a_v_isKept a_v_draft a_v_placedRow a_v_tape a_v_bestRow a_v_ways a_v_lanes a_v_sizes a_v_cells a_v_before v_hasOrder v_hasStart v_placed v_placedMany v_highest v_taped v_pos v_begun v_sort v_value v_fault v_wrongAt v_rightSum v_wrongSum v_allWays v_torn v_by v_now v_st v_told) (wd_X10_out cy a_v a_v_by a_v_now a_v_st a_v_told a_v_isKept a_v_draft a_v_placedRow a_v_tape a_v_bestRow a_v_ways a_v_lanes a_v_sizes a_v_cells a_v_before v_hasOrder v_hasStart v_placed v_placedMany v_highest v_taped v_pos v_begun v_sort v_value v_fault v_wrongAt v_rightSum v_wrongSum v_allWays v_torn o.2.1 o.2.2.1 v_st o.2.2.2) o.1 := by
  refine ct_I (cc := cX10_out) (maxL := 4) (plainFor_of_name (by decide)) rfl (Nat.le_of_ble_eq_true rfl) ?_
  intro p e s m below meth c A args QQ hx hb hml hown hts hE hDD hP KR ls hl
  have hl : lv_has ls 4 [(0, .ref a_v), (1, .int (zI x1))] := hl
  have hDD : DD A [a_v, a_v_by, a_v_now, a_v_st, a_v_told] := hDD
  have hS : va_S A s.heap s.heap [] := va_S.rf
  have q0 := hts (.fieldLink RX10 29 "HatHoursModel" "by" "[I") (List.mem_of_getElem? (i := 1) rfl)
  have iX10 : ∀ w ∈ u_ws RX10 TX10 30, w ∈ wsX10_out := in_slice 51 30 rfl
  have L18 : ∀ (fuel : Nat) (v_by : Nat → Int) (v_now : Nat → Int) (v_told : Nat → Int) (x1 : Int) (x2 : Int) (x3 : Int) (H : Heap) (locs : List Loc) (ls : Array Slot) (ex : Int), va_P D vwCl (wd_X10_out cy a_v a_v_by a_v_now a_v_st a_v_told a_v_isKept a_v_draft a_v_placedRow a_v_tape a_v_bestRow a_v_ways a_v_lanes a_v_sizes a_v_cells a_v_before v_hasOrder v_hasStart v_placed v_placedMany v_highest v_taped v_pos v_begun v_sort v_value v_fault v_wrongAt v_rightSum v_wrongSum v_allWays v_torn v_by v_now v_st v_told) H → va_S A s.heap H locs → lv_has ls 4 [(0, .ref a_v), (1, .int (zI x1)), (2, .int (zI x2)), (3, .int (zI x3))] → f_M_out_L18 fuel v_by x1 x2 x3 = some ex → (∀ (H : Heap) (locs : List Loc) (ls : Array Slot), va_P D vwCl (wd_X10_out cy a_v a_v_by a_v_now a_v_st a_v_told a_v_isKept a_v_draft a_v_placedRow a_v_tape a_v_bestRow a_v_ways a_v_lanes a_v_sizes a_v_cells a_v_before v_hasOrder v_hasStart v_placed v_placedMany v_highest v_taped v_pos v_begun v_sort v_value v_fault v_wrongAt v_rightSum v_wrongSum v_allWays v_torn v_by v_now v_st v_told) H → va_S A s.heap H locs → lv_has ls 4 [(2, .int (zI ex))] → W p l e { frames := 5, cells := 0, slots := 0, locals := 111 } s m args below meth c H locs 0 0 QQ (F0 m 56 ls [])) → W p l e { frames := 5, cells := 0, slots := 0, locals := 111 } s m args below meth c H locs 0 0 QQ (F0 m 18 ls []) := by
    intro fuel
    induction fuel with
    | zero => intro _ _ _ _ _ _ H locs ls ex hP hS hl h K; cases h
    | succ fuel ih =>
      intro v_by v_now v_told x1 x2 x3 H locs ls ex hP hS hl h K
      refine lv_iload_n hx hb dX10_out_18 rfl (lv_at hl 3 rfl) ?_
      refine wi_bi hx hb dX10_out_19 (by decide) ?_
      obtain ⟨hr8, h⟩ := chk_some h
      refine wi_ic_ge (tgt := 56) hx hb dX10_out_21 (by decide) hr8 (by decide) (fun c10 => ?_) (fun c10 => ?_)
      · have h := ite_t c10 h
        obtain rfl := Option.some.inj h
        exact K _ _ _ hP hS (lv_sub hl [2] rfl)
      · have h := ite_f c10 h
        refine lv_iload_n hx hb dX10_out_24 rfl (lv_at hl 2 rfl) ?_
        refine lv_aload_n hx hb dX10_out_25 rfl (lv_at hl 0 rfl) ?_
        refine wi_get (v := .ref a_v_by) hx hb hts iX10 hown hE hP 0 rfl rfl 18 (by decide) q0 rfl dX10_out_26 ?_
        refine lv_iload_n hx hb dX10_out_29 rfl (lv_at hl 3 rfl) ?_
        obtain ⟨hk11, h⟩ := chk_some h
        refine wi_iald hx hb hE hP 1 rfl (by decide) hk11 dX10_out_30 ?_
        refine lv_iload_n hx hb dX10_out_31 rfl (lv_at hl 1 rfl) ?_
        obtain ⟨hr12, h⟩ := chk_some h
        obtain ⟨hr13, h⟩ := chk_some h
        obtain ⟨o14, hx15, h⟩ := bnd_some h
        have J16 : ∀ (H : Heap) (locs : List Loc) (ls : Array Slot), va_P D vwCl (wd_X10_out cy a_v a_v_by a_v_now a_v_st a_v_told a_v_isKept a_v_draft a_v_placedRow a_v_tape a_v_bestRow a_v_ways a_v_lanes a_v_sizes a_v_cells a_v_before v_hasOrder v_hasStart v_placed v_placedMany v_highest v_taped v_pos v_begun v_sort v_value v_fault v_wrongAt v_rightSum v_wrongSum v_allWays v_torn v_by v_now v_st v_told) H → va_S A s.heap H locs → lv_has ls 4 [(0, .ref a_v), (1, .int (zI x1)), (3, .int (zI x3))] → W p l e { frames := 5, cells := 0, slots := 0, locals := 111 } s m args below meth c H locs 0 0 QQ (F0 m 40 ls [.int (zI o14), .int (zI x2)]) := by
          intro H locs ls hP hS hl
          obtain ⟨o17, hc18, h⟩ := bnd_some h
          refine cS_i (rest := [.int (zI x2)]) (w2 := (wd_X10_out cy a_v a_v_by a_v_now a_v_st a_v_told a_v_isKept a_v_draft a_v_placedRow a_v_tape a_v_bestRow a_v_ways a_v_lanes a_v_sizes a_v_cells a_v_before v_hasOrder v_hasStart v_placed v_placedMany v_highest v_taped v_pos v_begun v_sort v_value v_fault v_wrongAt v_rightSum v_wrongSum v_allWays v_torn v_by v_now v_st v_told)) ⟨hx, hb, hml, hown, hts⟩ (c_X10_flag l D cy sa o14 o17 hc18) (va_cwS 1 hts gX10_out_X10_flag rfl rfl rfl (by decide +kernel) ⟨Nat.le_of_ble_eq_true rfl, Nat.le_of_ble_eq_true rfl⟩) hE hP hDD rfl hS [] rfl rfl rfl rfl hl.1 (Nat.le_of_ble_eq_true rfl) ⟨Nat.zero_le _, Nat.zero_le _⟩ rfl dX10_out_40 rfl (fun H locs hP hS => ?_)
          refine lv_iload_n hx hb dX10_out_43 rfl (lv_at hl 2 rfl) ?_
          refine wi_bi hx hb dX10_out_44 (by decide) ?_
          obtain ⟨hk19, h⟩ := chk_some h
          refine wi_irem hx hb dX10_out_46 ⟨hk19, by decide⟩ ?_
          refine wi_ishl hx hb dX10_out_47 ?_
          refine wi_ior hx hb dX10_out_48 ?_
          refine lv_istore_n (lv' := [(2, .int (zI (zor x2 (zshl o17 (x3 % 24))))), (0, .ref a_v), (1, .int (zI x1)), (3, .int (zI x3))]) hx hb dX10_out_49 rfl hl (by decide) rfl (fun ls hl => ?_)
          refine wi_iinc (k := 3) (lv' := [(3, .int (zI (x3 + 1))), (2, .int (zI (zor x2 (zshl o17 (x3 % 24))))), (0, .ref a_v), (1, .int (zI x1))]) hx hb dX10_out_50 hl rfl (by decide) rfl (fun ls hl => ?_)
          refine lv_goto (tgt := 18) hx hb dX10_out_53 (by decide) ?_
          exact ih v_by v_now v_told x1 (zor x2 (zshl o17 (x3 % 24))) (x3 + 1) _ _ _ _ hP hS (lv_sub hl [2, 3, 1, 0] rfl) h K
        clear h
        have h := hx15
        clear hx15
        refine wi_ic_ne (tgt := 39) hx hb dX10_out_32 (by decide) hr12 hr13 (fun c20 => ?_) (fun c20 => ?_)
        · have h := ite_f c20 h
          refine wi_ic hx hb dX10_out_39 ?_
          obtain rfl := Option.some.inj h
          exact J16 _ _ _ hP hS (lv_sub hl [0, 1, 3] rfl)
        · have h := ite_t c20 h
          refine wi_ic hx hb dX10_out_35 ?_
          refine lv_goto (tgt := 40) hx hb dX10_out_36 (by decide) ?_
          obtain rfl := Option.some.inj h
          exact J16 _ _ _ hP hS (lv_sub hl [0, 1, 3] rfl)
  refine lv_aload_n hx hb dX10_out_0 rfl (lv_at hl 0 rfl) ?_
  refine lv_iload_n hx hb dX10_out_1 rfl (lv_at hl 1 rfl) ?_
  obtain ⟨o1, hc2, h⟩ := bnd_some h
  refine cV_i (rest := []) (w2 := (wd_X10_out cy a_v a_v_by a_v_now a_v_st a_v_told a_v_isKept a_v_draft a_v_placedRow a_v_tape a_v_bestRow a_v_ways a_v_lanes a_v_sizes a_v_cells a_v_before v_hasOrder v_hasStart v_placed v_placedMany v_highest v_taped v_pos v_begun v_sort v_value v_fault v_wrongAt v_rightSum v_wrongSum v_allWays v_torn v_by v_now v_st v_told)) ⟨hx, hb, hml, hown, hts⟩ (c_X10_isBox l D cy sa a_v a_v_st a_v_now a_v_isKept a_v_draft a_v_placedRow a_v_tape a_v_by a_v_told a_v_bestRow a_v_ways a_v_lanes a_v_sizes a_v_cells a_v_before v_hasOrder v_hasStart v_placed v_placedMany v_highest v_taped v_pos v_begun v_sort v_value v_fault v_wrongAt v_rightSum v_wrongSum v_allWays v_torn v_st x1 o1 hc2) (cwV 1 hts gX10_out_X10_isBox rfl rfl rfl (by decide +kernel) ⟨Nat.le_of_ble_eq_true rfl, Nat.le_of_ble_eq_true rfl⟩) rfl rfl rfl hE hP hDD rfl hS [0, 3] rfl rfl rfl rfl hl.1 (Nat.le_of_ble_eq_true rfl) ⟨Nat.zero_le _, Nat.zero_le _⟩ rfl dX10_out_2 rfl (fun H locs hP hS => ?_)
  obtain ⟨hr3, h⟩ := chk_some h
  refine wi_if_ne (tgt := 10) hx hb dX10_out_5 (by decide) hr3 (fun c5 => ?_) (fun c5 => ?_)
  · have h := ite_f c5 h
    refine lv_aload_n hx hb dX10_out_10 rfl (lv_at hl 0 rfl) ?_
    obtain ⟨o6, hc7, h⟩ := bnd_some h
    refine cV_v (rest := []) (w2 := (wd_X10_out cy a_v a_v_by a_v_now a_v_st a_v_told a_v_isKept a_v_draft a_v_placedRow a_v_tape a_v_bestRow a_v_ways a_v_lanes a_v_sizes a_v_cells a_v_before v_hasOrder v_hasStart v_placed v_placedMany v_highest v_taped v_pos v_begun v_sort v_value v_fault v_wrongAt v_rightSum v_wrongSum v_allWays v_torn o6.1 o6.2.1 v_st o6.2.2)) ⟨hx, hb, hml, hown, hts⟩ (c_X10_looksAtDay l D cy sa a_v a_v_by a_v_now a_v_st a_v_told a_v_isKept a_v_draft a_v_placedRow a_v_tape a_v_bestRow a_v_ways a_v_lanes a_v_sizes a_v_cells a_v_before v_hasOrder v_hasStart v_placed v_placedMany v_highest v_taped v_pos v_begun v_sort v_value v_fault v_wrongAt v_rightSum v_wrongSum v_allWays v_torn v_by v_now v_st v_told o6 hc7) (cwV 0 hts gX10_out_X10_looksAtDay rfl rfl rfl (by decide +kernel) ⟨Nat.le_of_ble_eq_true rfl, Nat.le_of_ble_eq_true rfl⟩) rfl rfl rfl hE hP hDD rfl hS [0, 1, 2, 3, 4] rfl rfl rfl rfl hl.1 (Nat.le_of_ble_eq_true rfl) ⟨Nat.zero_le _, Nat.zero_le _⟩ rfl dX10_out_11 rfl (fun H locs hP hS => ?_)
    refine wi_ic hx hb dX10_out_14 ?_
    refine lv_istore_n (lv' := [(2, .int (zI 0)), (0, .ref a_v), (1, .int (zI x1))]) hx hb dX10_out_15 rfl hl (by decide) rfl (fun ls hl => ?_)
    refine wi_ic hx hb dX10_out_16 ?_
    refine lv_istore_n (lv' := [(3, .int (zI 0)), (2, .int (zI 0)), (0, .ref a_v), (1, .int (zI x1))]) hx hb dX10_out_17 rfl hl (by decide) rfl (fun ls hl => ?_)
    obtain ⟨o21, hx22, h⟩ := bnd_some h
    refine L18 5000 o6.1 o6.2.1 o6.2.2 x1 0 0 _ _ _ _ hP hS (lv_sub hl [2, 3, 1, 0] rfl) hx22 ?_
    clear hx22
    intro H locs ls hP hS hl
    refine lv_iload_n hx hb dX10_out_56 rfl (lv_at hl 0 rfl) ?_
    obtain rfl := Option.some.inj h
    exact KR _ _ _ _ hP hS dX10_out_57
  · have h := ite_t c5 h
    refine wi_ic hx hb dX10_out_8 ?_
    obtain rfl := Option.some.inj h
    exact KR _ _ _ _ hP hS dX10_out_9
abbrev wd_X10_meet (cy : Nat → ClassId) (a_v : Nat) (a_v_by : Nat) (a_v_now : Nat) (a_v_st : Nat) (a_v_told : Nat) (a_v_isKept : Nat) (a_v_draft : Nat) (a_v_placedRow : Nat) (a_v_tape : Nat) (a_v_bestRow : Nat) (a_v_ways : Nat) (a_v_lanes : Nat) (a_v_sizes : Nat) (a_v_cells : Nat) (a_v_before : Nat) (v_hasOrder : Int) (v_hasStart : Int) (v_placed : Int) (v_placedMany : Int) (v_highest : Int) (v_taped : Int) (v_pos : Int) (v_begun : Int) (v_sort : Int) (v_value : Int) (v_fault : Int) (v_wrongAt : Int) (v_rightSum : Int) (v_wrongSum : Int) (v_allWays : Int) (v_torn : Int) (v_by : Nat → Int) (v_now : Nat → Int) (v_st : Nat → Int) (v_told : Nat → Int) : va_W := [(a_v, .inr (10, [.ref a_v_st, .ref a_v_now, .ref a_v_isKept, .ref a_v_draft, .int (zI v_hasOrder), .int (zI v_hasStart), .int (zI v_placed), .int (zI v_placedMany), .ref a_v_placedRow, .int (zI v_highest), .ref a_v_tape, .int (zI v_taped), .int (zI v_pos), .int (zI v_begun), .int (zI v_sort), .int (zI v_value), .int (zI v_fault), .int (zI v_wrongAt), .ref a_v_by, .ref a_v_told, .ref a_v_bestRow, .long (zL v_rightSum), .long (zL v_wrongSum), .long (zL v_allWays), .ref a_v_ways, .ref a_v_lanes, .ref a_v_sizes, .ref a_v_cells, .int (zI v_torn), .ref a_v_before])), (a_v_by, .inl (cy 0, 120, .inl (fun j => zI (v_by j)))), (a_v_now, .inl (cy 0, 56, .inl (fun j => zI (v_now j)))), (a_v_st, .inl (cy 0, 168, .inl (fun j => zI (v_st j)))), (a_v_told, .inl (cy 0, 120, .inl (fun j => zI (v_told j))))]
set_option maxHeartbeats 4000000 in
set_option maxRecDepth 100000 in
theorem c_X10_meet (l : Launch) (D : va_G) (cy : Nat → ClassId) (sa : Nat → Nat) (a_v : Nat) (a_v_by : Nat) (a_v_now : Nat) (a_v_st : Nat) (a_v_told : Nat) (a_v_isKept : Nat) (a_v_draft : Nat) (a_v_placedRow : Nat) (a_v_tape : Nat) (a_v_bestRow : Nat) (a_v_ways : Nat) (a_v_lanes : Nat) (a_v_sizes : Nat) (a_v_cells : Nat) (a_v_before : Nat) (v_hasOrder : Int) (v_hasStart : Int) (v_placed : Int) (v_placedMany : Int) (v_highest : Int) (v_taped : Int) (v_pos : Int) (v_begun : Int) (v_sort : Int) (v_value : Int) (v_fault : Int) (v_wrongAt : Int) (v_rightSum : Int) (v_wrongSum : Int) (v_allWays : Int) (v_torn : Int) (v_by : Nat → Int) (v_now : Nat → Int) (v_st : Nat → Int) (v_told : Nat → Int) (x1 : Int) (x2 : Int) (o : Int × (Nat → Int) × (Nat → Int) × (Nat → Int)) (h : f_M_meet v_by v_now v_st v_told x1 x2 = some o) : CtI l yX10_meet wsX10_meet ({ frames := 5, cells := 0, slots := 0, locals := 111 }) D cy sa [.ref a_v, .int (zI x1), .int (zI x2)] (wd_X10_meet cy a_v a_v_by a_v_now a_v_st a_v_told a_v_isKept a_v_draft a_v_placedRow a_v_tape a_v_bestRow a_v_ways a_v_lanes a_v_sizes a_v_cells a_v_before v_hasOrder v_hasStart v_placed v_placedMany v_highest v_taped v_pos v_begun v_sort v_value v_fault v_wrongAt v_rightSum v_wrongSum v_allWays v_torn v_by v_now v_st v_told) (wd_X10_meet cy a_v a_v_by a_v_now a_v_st a_v_told a_v_isKept a_v_draft a_v_placedRow a_v_tape a_v_bestRow a_v_ways a_v_lanes a_v_sizes a_v_cells a_v_before v_hasOrder v_hasStart v_placed v_placedMany v_highest v_taped v_pos v_begun v_sort v_value v_fault v_wrongAt v_rightSum v_wrongSum v_allWays v_torn o.2.1 o.2.2.1 v_st o.2.2.2) o.1 := by
  refine ct_I (cc := cX10_meet) (maxL := 6) (plainFor_of_name (by decide)) rfl (Nat.le_of_ble_eq_true rfl) ?_
  intro p e s m below meth c A args QQ hx hb hml hown hts hE hDD hP KR ls hl
  have hl : lv_has ls 6 [(0, .ref a_v), (1, .int (zI x1)), (2, .int (zI x2))] := hl
  have hDD : DD A [a_v, a_v_by, a_v_now, a_v_st, a_v_told] := hDD
  have hS : va_S A s.heap s.heap [] := va_S.rf
  have q0 := hts (.fieldLink RX10 29 "HatHoursModel" "by" "[I") (List.mem_of_getElem? (i := 1) rfl)
  have q1 := hts (.fieldLink RX10 32 "HatHoursModel" "told" "[I") (List.mem_of_getElem? (i := 2) rfl)
  have iX10 : ∀ w ∈ u_ws RX10 TX10 30, w ∈ wsX10_meet := in_slice 48 30 rfl
  have L27 : ∀ (fuel : Nat) (v_by : Nat → Int) (v_now : Nat → Int) (v_told : Nat → Int) (x1 : Int) (x2 : Int) (x3 : Int) (H : Heap) (locs : List Loc) (ls : Array Slot), va_P D vwCl (wd_X10_meet cy a_v a_v_by a_v_now a_v_st a_v_told a_v_isKept a_v_draft a_v_placedRow a_v_tape a_v_bestRow a_v_ways a_v_lanes a_v_sizes a_v_cells a_v_before v_hasOrder v_hasStart v_placed v_placedMany v_highest v_taped v_pos v_begun v_sort v_value v_fault v_wrongAt v_rightSum v_wrongSum v_allWays v_torn v_by v_now v_st v_told) H → va_S A s.heap H locs → lv_has ls 6 [(0, .ref a_v), (1, .int (zI x1)), (2, .int (zI x2)), (3, .int (zI x3))] → f_M_meet_L27 fuel v_by v_now v_st v_told x1 x2 x3 = some o → W p l e { frames := 5, cells := 0, slots := 0, locals := 111 } s m args below meth c H locs 0 0 QQ (F0 m 27 ls []) := by
    intro fuel
    induction fuel with
    | zero => intro _ _ _ _ _ _ H locs ls hP hS hl h; cases h
    | succ fuel ih =>
      intro v_by v_now v_told x1 x2 x3 H locs ls hP hS hl h
      refine lv_iload_n hx hb dX10_meet_27 rfl (lv_at hl 3 rfl) ?_
      refine wi_bi hx hb dX10_meet_28 (by decide) ?_
      obtain ⟨hr17, h⟩ := chk_some h
      refine wi_ic_ge (tgt := 98) hx hb dX10_meet_30 (by decide) hr17 (by decide) (fun c19 => ?_) (fun c19 => ?_)
      · have h := ite_t c19 h
        refine wi_bi hx hb dX10_meet_98 (by decide) ?_
        obtain rfl := Option.some.inj h
        exact KR _ _ _ _ hP hS dX10_meet_100
      · have h := ite_f c19 h
        refine wi_bi hx hb dX10_meet_33 (by decide) ?_
        refine lv_iload_n hx hb dX10_meet_35 rfl (lv_at hl 1 rfl) ?_
        refine wi_imul hx hb dX10_meet_36 ?_
        refine lv_iload_n hx hb dX10_meet_37 rfl (lv_at hl 3 rfl) ?_
        refine wi_iadd hx hb dX10_meet_38 ?_
        refine lv_istore (lv' := [(4, .int (zI ((24 * x1) + x3))), (0, .ref a_v), (1, .int (zI x1)), (2, .int (zI x2)), (3, .int (zI x3))]) hx hb dX10_meet_39 hl (by decide) rfl (fun ls hl => ?_)
        refine wi_bi hx hb dX10_meet_41 (by decide) ?_
        refine lv_iload_n hx hb dX10_meet_43 rfl (lv_at hl 3 rfl) ?_
        refine wi_imul hx hb dX10_meet_44 ?_
        refine lv_iload_n hx hb dX10_meet_45 rfl (lv_at hl 4 rfl) ?_
        refine wi_iadd hx hb dX10_meet_46 ?_
        refine lv_istore (lv' := [(5, .int (zI ((24 * x2) + x3))), (4, .int (zI ((24 * x1) + x3))), (0, .ref a_v), (1, .int (zI x1)), (2, .int (zI x2)), (3, .int (zI x3))]) hx hb dX10_meet_47 hl (by decide) rfl (fun ls hl => ?_)
        refine lv_aload_n hx hb dX10_meet_49 rfl (lv_at hl 2 rfl) ?_
        refine wi_get (v := .ref a_v_by) hx hb hts iX10 hown hE hP 0 rfl rfl 18 (by decide) q0 rfl dX10_meet_50 ?_
        refine lv_iload hx hb dX10_meet_53 (lv_at hl 1 rfl) ?_
        obtain ⟨hk20, h⟩ := chk_some h
        refine wi_iald hx hb hE hP 1 rfl (by decide) hk20 dX10_meet_55 ?_
        refine wi_bi hx hb dX10_meet_56 (by decide) ?_
        obtain ⟨hr21, h⟩ := chk_some h
        refine wi_ic_eq (tgt := 92) hx hb dX10_meet_58 (by decide) hr21 (by decide) (fun c23 => ?_) (fun c23 => ?_)
        · have h := ite_t c23 h
          refine wi_iinc (k := 5) (lv' := [(3, .int (zI (x3 + 1))), (5, .int (zI ((24 * x2) + x3))), (4, .int (zI ((24 * x1) + x3))), (0, .ref a_v), (1, .int (zI x1)), (2, .int (zI x2))]) hx hb dX10_meet_92 hl rfl (by decide) rfl (fun ls hl => ?_)
          refine lv_goto (tgt := 27) hx hb dX10_meet_95 (by decide) ?_
          exact ih v_by v_now v_told x1 x2 (x3 + 1) _ _ _ hP hS (lv_sub hl [3, 4, 5, 0] rfl) h
        · have h := ite_f c23 h
          refine lv_aload_n hx hb dX10_meet_61 rfl (lv_at hl 2 rfl) ?_
          refine wi_get (v := .ref a_v_by) hx hb hts iX10 hown hE hP 0 rfl rfl 18 (by decide) q0 rfl dX10_meet_62 ?_
          refine lv_iload hx hb dX10_meet_65 (lv_at hl 0 rfl) ?_
          obtain ⟨hk24, h⟩ := chk_some h
          refine wi_iald hx hb hE hP 1 rfl (by decide) hk24 dX10_meet_67 ?_
          refine wi_bi hx hb dX10_meet_68 (by decide) ?_
          obtain ⟨hr25, h⟩ := chk_some h
          refine wi_ic_eq (tgt := 92) hx hb dX10_meet_70 (by decide) hr25 (by decide) (fun c27 => ?_) (fun c27 => ?_)
          · have h := ite_t c27 h
            refine wi_iinc (k := 5) (lv' := [(3, .int (zI (x3 + 1))), (5, .int (zI ((24 * x2) + x3))), (4, .int (zI ((24 * x1) + x3))), (0, .ref a_v), (1, .int (zI x1)), (2, .int (zI x2))]) hx hb dX10_meet_92 hl rfl (by decide) rfl (fun ls hl => ?_)
            refine lv_goto (tgt := 27) hx hb dX10_meet_95 (by decide) ?_
            exact ih v_by v_now v_told x1 x2 (x3 + 1) _ _ _ hP hS (lv_sub hl [3, 4, 5, 0] rfl) h
          · have h := ite_f c27 h
            refine lv_aload_n hx hb dX10_meet_73 rfl (lv_at hl 2 rfl) ?_
            refine wi_get (v := .ref a_v_told) hx hb hts iX10 hown hE hP 0 rfl rfl 19 (by decide) q1 rfl dX10_meet_74 ?_
            refine lv_iload hx hb dX10_meet_77 (lv_at hl 1 rfl) ?_
            refine wi_iald hx hb hE hP 4 rfl (by decide) hk20 dX10_meet_79 ?_
            refine lv_aload_n hx hb dX10_meet_80 rfl (lv_at hl 2 rfl) ?_
            refine wi_get (v := .ref a_v_told) hx hb hts iX10 hown hE hP 0 rfl rfl 19 (by decide) q1 rfl dX10_meet_81 ?_
            refine lv_iload hx hb dX10_meet_84 (lv_at hl 0 rfl) ?_
            refine wi_iald hx hb hE hP 4 rfl (by decide) hk24 dX10_meet_86 ?_
            obtain ⟨hr28, h⟩ := chk_some h
            obtain ⟨hr29, h⟩ := chk_some h
            refine wi_ic_ne (tgt := 92) hx hb dX10_meet_87 (by decide) hr28 hr29 (fun c31 => ?_) (fun c31 => ?_)
            · have h := ite_f c31 h
              refine wi_iinc (k := 5) (lv' := [(3, .int (zI (x3 + 1))), (5, .int (zI ((24 * x2) + x3))), (4, .int (zI ((24 * x1) + x3))), (0, .ref a_v), (1, .int (zI x1)), (2, .int (zI x2))]) hx hb dX10_meet_92 hl rfl (by decide) rfl (fun ls hl => ?_)
              refine lv_goto (tgt := 27) hx hb dX10_meet_95 (by decide) ?_
              exact ih v_by v_now v_told x1 x2 (x3 + 1) _ _ _ hP hS (lv_sub hl [3, 4, 5, 0] rfl) h
            · have h := ite_t c31 h
              refine lv_iload_n hx hb dX10_meet_90 rfl (lv_at hl 5 rfl) ?_
              obtain rfl := Option.some.inj h
              exact KR _ _ _ _ hP hS dX10_meet_91
  refine lv_iload_n hx hb dX10_meet_0 rfl (lv_at hl 1 rfl) ?_
  obtain ⟨o1, hc2, h⟩ := bnd_some h
  refine cS_i (rest := []) (w2 := (wd_X10_meet cy a_v a_v_by a_v_now a_v_st a_v_told a_v_isKept a_v_draft a_v_placedRow a_v_tape a_v_bestRow a_v_ways a_v_lanes a_v_sizes a_v_cells a_v_before v_hasOrder v_hasStart v_placed v_placedMany v_highest v_taped v_pos v_begun v_sort v_value v_fault v_wrongAt v_rightSum v_wrongSum v_allWays v_torn v_by v_now v_st v_told)) ⟨hx, hb, hml, hown, hts⟩ (c_X10_isRoom l D cy sa x1 o1 hc2) (va_cwS 1 hts gX10_meet_X10_isRoom rfl rfl rfl (by decide +kernel) ⟨Nat.le_of_ble_eq_true rfl, Nat.le_of_ble_eq_true rfl⟩) hE hP hDD rfl hS [] rfl rfl rfl rfl hl.1 (Nat.le_of_ble_eq_true rfl) ⟨Nat.zero_le _, Nat.zero_le _⟩ rfl dX10_meet_1 rfl (fun H locs hP hS => ?_)
  obtain ⟨hr3, h⟩ := chk_some h
  refine wi_if_eq (tgt := 19) hx hb dX10_meet_4 (by decide) hr3 (fun c5 => ?_) (fun c5 => ?_)
  · have h := ite_t c5 h
    refine wi_ic hx hb dX10_meet_19 ?_
    obtain rfl := Option.some.inj h
    exact KR _ _ _ _ hP hS dX10_meet_20
  · have h := ite_f c5 h
    refine lv_iload_n hx hb dX10_meet_7 rfl (lv_at hl 2 rfl) ?_
    obtain ⟨o6, hc7, h⟩ := bnd_some h
    refine cS_i (rest := []) (w2 := (wd_X10_meet cy a_v a_v_by a_v_now a_v_st a_v_told a_v_isKept a_v_draft a_v_placedRow a_v_tape a_v_bestRow a_v_ways a_v_lanes a_v_sizes a_v_cells a_v_before v_hasOrder v_hasStart v_placed v_placedMany v_highest v_taped v_pos v_begun v_sort v_value v_fault v_wrongAt v_rightSum v_wrongSum v_allWays v_torn v_by v_now v_st v_told)) ⟨hx, hb, hml, hown, hts⟩ (c_X10_isRoom l D cy sa x2 o6 hc7) (va_cwS 1 hts gX10_meet_X10_isRoom rfl rfl rfl (by decide +kernel) ⟨Nat.le_of_ble_eq_true rfl, Nat.le_of_ble_eq_true rfl⟩) hE hP hDD rfl hS [] rfl rfl rfl rfl hl.1 (Nat.le_of_ble_eq_true rfl) ⟨Nat.zero_le _, Nat.zero_le _⟩ rfl dX10_meet_8 rfl (fun H locs hP hS => ?_)
    obtain ⟨hr8, h⟩ := chk_some h
    refine wi_if_eq (tgt := 19) hx hb dX10_meet_11 (by decide) hr8 (fun c10 => ?_) (fun c10 => ?_)
    · have h := ite_t c10 h
      refine wi_ic hx hb dX10_meet_19 ?_
      obtain rfl := Option.some.inj h
      exact KR _ _ _ _ hP hS dX10_meet_20
    · have h := ite_f c10 h
      refine lv_iload_n hx hb dX10_meet_14 rfl (lv_at hl 1 rfl) ?_
      refine lv_iload_n hx hb dX10_meet_15 rfl (lv_at hl 2 rfl) ?_
      obtain ⟨hr11, h⟩ := chk_some h
      obtain ⟨hr12, h⟩ := chk_some h
      refine wi_ic_ne (tgt := 21) hx hb dX10_meet_16 (by decide) hr11 hr12 (fun c14 => ?_) (fun c14 => ?_)
      · have h := ite_f c14 h
        refine lv_aload_n hx hb dX10_meet_21 rfl (lv_at hl 0 rfl) ?_
        obtain ⟨o15, hc16, h⟩ := bnd_some h
        refine cV_v (rest := []) (w2 := (wd_X10_meet cy a_v a_v_by a_v_now a_v_st a_v_told a_v_isKept a_v_draft a_v_placedRow a_v_tape a_v_bestRow a_v_ways a_v_lanes a_v_sizes a_v_cells a_v_before v_hasOrder v_hasStart v_placed v_placedMany v_highest v_taped v_pos v_begun v_sort v_value v_fault v_wrongAt v_rightSum v_wrongSum v_allWays v_torn o15.1 o15.2.1 v_st o15.2.2)) ⟨hx, hb, hml, hown, hts⟩ (c_X10_looksAtDay l D cy sa a_v a_v_by a_v_now a_v_st a_v_told a_v_isKept a_v_draft a_v_placedRow a_v_tape a_v_bestRow a_v_ways a_v_lanes a_v_sizes a_v_cells a_v_before v_hasOrder v_hasStart v_placed v_placedMany v_highest v_taped v_pos v_begun v_sort v_value v_fault v_wrongAt v_rightSum v_wrongSum v_allWays v_torn v_by v_now v_st v_told o15 hc16) (cwV 0 hts gX10_meet_X10_looksAtDay rfl rfl rfl (by decide +kernel) ⟨Nat.le_of_ble_eq_true rfl, Nat.le_of_ble_eq_true rfl⟩) rfl rfl rfl hE hP hDD rfl hS [0, 1, 2, 3, 4] rfl rfl rfl rfl hl.1 (Nat.le_of_ble_eq_true rfl) ⟨Nat.zero_le _, Nat.zero_le _⟩ rfl dX10_meet_22 rfl (fun H locs hP hS => ?_)
        refine wi_ic hx hb dX10_meet_25 ?_
        refine lv_istore_n (lv' := [(3, .int (zI 0)), (0, .ref a_v), (1, .int (zI x1)), (2, .int (zI x2))]) hx hb dX10_meet_26 rfl hl (by decide) rfl (fun ls hl => ?_)
        exact L27 5000 o15.1 o15.2.1 o15.2.2 x1 x2 0 _ _ _ hP hS (lv_sub hl [1, 2, 3, 0] rfl) h
      · have h := ite_t c14 h
        refine wi_ic hx hb dX10_meet_19 ?_
        obtain rfl := Option.some.inj h
        exact KR _ _ _ _ hP hS dX10_meet_20
