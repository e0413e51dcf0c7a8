abbrev wd_X10_which (cy : Nat → ClassId) (a_v : Nat) (a_v_by : Nat) (a_v_now : Nat) (a_v_st : Nat) (a_v_told : Nat) (a_v_isKept : Nat) (a_v_draft : Nat) (a_v_placedRow : Nat) (a_v_tape : Nat) (a_v_bestRow : Nat) (a_v_ways : Nat) (a_v_lanes : Nat) (a_v_sizes : Nat) (a_v_cells : Nat) (a_v_before : Nat) (v_hasOrder : Int) (v_hasStart : Int) (v_placed : Int) (v_placedMany : Int) (v_highest : Int) (v_taped : Int) (v_pos : Int) (v_begun : Int) (v_sort : Int) (v_value : Int) (v_fault : Int) (v_wrongAt : Int) (v_rightSum : Int) (v_wrongSum : Int) (v_allWays : Int) (v_torn : Int) (v_by : Nat → Int) (v_now : Nat → Int) (v_st : Nat → Int) (v_told : Nat → Int) : va_W := [(a_v, .inr (10, [.ref a_v_st, .ref a_v_now, .ref a_v_isKept, .ref a_v_draft, .int (zI v_hasOrder), .int (zI v_hasStart), .int (zI v_placed), .int (zI v_placedMany), .ref a_v_placedRow, .int (zI v_highest), .ref a_v_tape, .int (zI v_taped), .int (zI v_pos), .int (zI v_begun), .int (zI v_sort), .int (zI v_value), .int (zI v_fault), .int (zI v_wrongAt), .ref a_v_by, .ref a_v_told, .ref a_v_bestRow, .long (zL v_rightSum), .long (zL v_wrongSum), .long (zL v_allWays), .ref a_v_ways, .ref a_v_lanes, .ref a_v_sizes, .ref a_v_cells, .int (zI v_torn), .ref a_v_before])), (a_v_by, .inl (cy 0, 120, .inl (fun j => zI (v_by j)))), (a_v_now, .inl (cy 0, 56, .inl (fun j => zI (v_now j)))), (a_v_st, .inl (cy 0, 168, .inl (fun j => zI (v_st j)))), (a_v_told, .inl (cy 0, 120, .inl (fun j => zI (v_told j))))]
set_option maxHeartbeats 4000000 in
set_option maxRecDepth 100000 in
theorem c_X10_which (l : Launch) (D : va_G) (cy : Nat → ClassId) (sa : Nat → Nat) (a_v : Nat) (a_v_by : Nat) (a_v_now : Nat) (a_v_st : Nat) (a_v_told : Nat) (a_v_isKept : Nat) (a_v_draft : Nat) (a_v_placedRow : Nat) (a_v_tape : Nat) (a_v_bestRow : Nat) (a_v_ways : Nat) (a_v_lanes : Nat) (a_v_sizes : Nat) (a_v_cells : Nat) (a_v_before : Nat) (v_hasOrder : Int) (v_hasStart : Int) (v_placed : Int) (v_placedMany : Int) (v_highest : Int) (v_taped : Int) (v_pos : Int) (v_begun : Int) (v_sort : Int) (v_value : Int) (v_fault : Int) (v_wrongAt : Int) (v_rightSum : Int) (v_wrongSum : Int) (v_allWays : Int) (v_torn : Int) (v_by : Nat → Int) (v_now : Nat → Int) (v_st : Nat → Int) (v_told : Nat → Int) (x1 : Int) (x2 : Int) (x3 : Int) (o : Int × (Nat → Int) × (Nat → Int) × (Nat → Int)) (h : f_M_which v_by v_now v_st v_told x1 x2 x3 = some o) : CtI l yX10_which wsX10_which ({ frames := 5, cells := 0, slots := 0, locals := 114 }) D cy sa [.ref a_v, .int (zI x1), .int (zI x2), .int (zI x3)] (wd_X10_which cy a_v a_v_by a_v_now a_v_st a_v_told a_v_isKept a_v_draft a_v_placedRow a_v_tape a_v_bestRow a_v_ways a_v_lanes a_v_sizes a_v_cells a_v_before v_hasOrder v_hasStart v_placed v_placedMany v_highest v_taped v_pos v_begun v_sort v_value v_fault v_wrongAt v_rightSum v_wrongSum v_allWays v_torn v_by v_now v_st v_told) (wd_X10_which cy a_v a_v_by a_v_now a_v_st a_v_told a_v_isKept a_v_draft a_v_placedRow a_v_tape a_v_bestRow a_v_ways a_v_lanes a_v_sizes a_v_cells a_v_before v_hasOrder v_hasStart v_placed v_placedMany v_highest v_taped v_pos v_begun v_sort v_value v_fault v_wrongAt v_rightSum v_wrongSum v_allWays v_torn o.2.1 o.2.2.1 v_st o.2.2.2) o.1 := by
  refine ct_I (cc := cX10_which) (maxL := 6) (plainFor_of_name (by decide)) rfl (Nat.le_of_ble_eq_true rfl) ?_
  intro p e s m below meth c A args QQ hx hb hml hown hts hE hDD hP KR ls hl
  have hl : lv_has ls 6 [(0, .ref a_v), (1, .int (zI x1)), (2, .int (zI x2)), (3, .int (zI x3))] := hl
  have hDD : DD A [a_v, a_v_by, a_v_now, a_v_st, a_v_told] := hDD
  have hS : va_S A s.heap s.heap [] := va_S.rf
  have q0 := hts (.fieldLink RX10 13 "HatHoursModel" "now" "[I") (List.mem_of_getElem? (i := 1) rfl)
  have iX10 : ∀ w ∈ u_ws RX10 TX10 30, w ∈ wsX10_which := in_slice 44 30 rfl
  have L10 : ∀ (fuel : Nat) (v_by : Nat → Int) (v_now : Nat → Int) (v_told : Nat → Int) (x1 : Int) (x3 : Int) (x4 : Int) (x5 : Int) (H : Heap) (locs : List Loc) (ls : Array Slot) (ex : Int × (Nat → Int) × (Nat → Int) × (Nat → Int)), va_P D vwCl (wd_X10_which cy a_v a_v_by a_v_now a_v_st a_v_told a_v_isKept a_v_draft a_v_placedRow a_v_tape a_v_bestRow a_v_ways a_v_lanes a_v_sizes a_v_cells a_v_before v_hasOrder v_hasStart v_placed v_placedMany v_highest v_taped v_pos v_begun v_sort v_value v_fault v_wrongAt v_rightSum v_wrongSum v_allWays v_torn v_by v_now v_st v_told) H → va_S A s.heap H locs → lv_has ls 6 [(0, .ref a_v), (1, .int (zI x1)), (3, .int (zI x3)), (4, .int (zI x4)), (5, .int (zI x5))] → f_M_which_L10 fuel v_by v_now v_st v_told x1 x3 x4 x5 = some ex → (∀ (H : Heap) (locs : List Loc) (ls : Array Slot), va_P D vwCl (wd_X10_which cy a_v a_v_by a_v_now a_v_st a_v_told a_v_isKept a_v_draft a_v_placedRow a_v_tape a_v_bestRow a_v_ways a_v_lanes a_v_sizes a_v_cells a_v_before v_hasOrder v_hasStart v_placed v_placedMany v_highest v_taped v_pos v_begun v_sort v_value v_fault v_wrongAt v_rightSum v_wrongSum v_allWays v_torn ex.2.1 ex.2.2.1 v_st ex.2.2.2) H → va_S A s.heap H locs → lv_has ls 6 [(4, .int (zI ex.1))] → W p l e { frames := 5, cells := 0, slots := 0, locals := 114 } s m args below meth c H locs 0 0 QQ (F0 m 45 ls [])) → W p l e { frames := 5, cells := 0, slots := 0, locals := 114 } s m args below meth c H locs 0 0 QQ (F0 m 10 ls []) := by
    intro fuel
    induction fuel with
    | zero => intro _ _ _ _ _ _ _ H locs ls ex hP hS hl h K; cases h
    | succ fuel ih =>
      intro v_by v_now v_told x1 x3 x4 x5 H locs ls ex hP hS hl h K
      refine lv_iload hx hb dX10_which_10 (lv_at hl 4 rfl) ?_
      refine lv_iload_n hx hb dX10_which_12 rfl (lv_at hl 2 rfl) ?_
      obtain ⟨hr3, h⟩ := chk_some h
      obtain ⟨hr4, h⟩ := chk_some h
      refine wi_ic_gt (tgt := 45) hx hb dX10_which_13 (by decide) hr3 hr4 (fun c6 => ?_) (fun c6 => ?_)
      · have h := ite_t c6 h
        obtain rfl := Option.some.inj h
        exact K _ _ _ hP hS (lv_sub hl [3] rfl)
      · have h := ite_f c6 h
        refine lv_aload_n hx hb dX10_which_16 rfl (lv_at hl 0 rfl) ?_
        refine wi_get (v := .ref a_v_now) hx hb hts iX10 hown hE hP 0 rfl rfl 1 (by decide) q0 rfl dX10_which_17 ?_
        refine lv_iload_n hx hb dX10_which_20 rfl (lv_at hl 1 rfl) ?_
        refine lv_iload hx hb dX10_which_21 (lv_at hl 4 rfl) ?_
        obtain ⟨hk7, h⟩ := chk_some h
        refine wi_iast (w2 := (wd_X10_which cy a_v a_v_by a_v_now a_v_st a_v_told a_v_isKept a_v_draft a_v_placedRow a_v_tape a_v_bestRow a_v_ways a_v_lanes a_v_sizes a_v_cells a_v_before v_hasOrder v_hasStart v_placed v_placedMany v_highest v_taped v_pos v_begun v_sort v_value v_fault v_wrongAt v_rightSum v_wrongSum v_allWays v_torn v_by (upZ v_now (x1).toNat x5) v_st v_told)) hx hb hE hP hDD rfl hS 2 rfl (by decide) hk7 dX10_which_23 rfl (fun H locs hP hS => ?_)
        refine lv_iload hx hb dX10_which_24 (lv_at hl 3 rfl) ?_
        refine lv_aload_n hx hb dX10_which_26 rfl (lv_at hl 0 rfl) ?_
        obtain ⟨o8, hc9, h⟩ := bnd_some h
        refine cV_i (rest := [.int (zI x4)]) (w2 := (wd_X10_which cy a_v a_v_by a_v_now a_v_st a_v_told a_v_isKept a_v_draft a_v_placedRow a_v_tape a_v_bestRow a_v_ways a_v_lanes a_v_sizes a_v_cells a_v_before v_hasOrder v_hasStart v_placed v_placedMany v_highest v_taped v_pos v_begun v_sort v_value v_fault v_wrongAt v_rightSum v_wrongSum v_allWays v_torn o8.2.1 (upZ v_now (x1).toNat x5) v_st o8.2.2)) ⟨hx, hb, hml, hown, hts⟩ (c_X10_isSo l D cy sa a_v a_v_by a_v_now a_v_st a_v_told a_v_isKept a_v_draft a_v_placedRow a_v_tape a_v_bestRow a_v_ways a_v_lanes a_v_sizes a_v_cells a_v_before v_hasOrder v_hasStart v_placed v_placedMany v_highest v_taped v_pos v_begun v_sort v_value v_fault v_wrongAt v_rightSum v_wrongSum v_allWays v_torn v_by (upZ v_now (x1).toNat x5) v_st v_told o8 hc9) (cwV 0 hts gX10_which_X10_isSo rfl rfl rfl (by decide +kernel) ⟨Nat.le_of_ble_eq_true rfl, Nat.le_of_ble_eq_true rfl⟩) rfl rfl rfl hE hP hDD rfl hS [0, 1, 2, 3, 4] rfl rfl rfl rfl hl.1 (Nat.le_of_ble_eq_true rfl) ⟨Nat.zero_le _, Nat.zero_le _⟩ rfl dX10_which_27 rfl (fun H locs hP hS => ?_)
        obtain ⟨o10, hc11, h⟩ := bnd_some h
        refine cS_i (rest := [.int (zI x4)]) (w2 := (wd_X10_which cy a_v a_v_by a_v_now a_v_st a_v_told a_v_isKept a_v_draft a_v_placedRow a_v_tape a_v_bestRow a_v_ways a_v_lanes a_v_sizes a_v_cells a_v_before v_hasOrder v_hasStart v_placed v_placedMany v_highest v_taped v_pos v_begun v_sort v_value v_fault v_wrongAt v_rightSum v_wrongSum v_allWays v_torn o8.2.1 (upZ v_now (x1).toNat x5) v_st o8.2.2)) ⟨hx, hb, hml, hown, hts⟩ (c_X10_flag l D cy sa o8.1 o10 hc11) (va_cwS 1 hts gX10_which_X10_flag rfl rfl rfl (by decide +kernel) ⟨Nat.le_of_ble_eq_true rfl, Nat.le_of_ble_eq_true rfl⟩) hE hP hDD rfl hS [] rfl rfl rfl rfl hl.1 (Nat.le_of_ble_eq_true rfl) ⟨Nat.zero_le _, Nat.zero_le _⟩ rfl dX10_which_30 rfl (fun H locs hP hS => ?_)
        refine lv_iload hx hb dX10_which_33 (lv_at hl 4 rfl) ?_
        refine wi_ishl hx hb dX10_which_35 ?_
        refine wi_ior hx hb dX10_which_36 ?_
        refine lv_istore (lv' := [(4, .int (zI (zor x4 (zshl o10 x5)))), (0, .ref a_v), (1, .int (zI x1)), (3, .int (zI x3)), (5, .int (zI x5))]) hx hb dX10_which_37 hl (by decide) rfl (fun ls hl => ?_)
        refine wi_iinc (k := 4) (lv' := [(5, .int (zI (x5 + 1))), (4, .int (zI (zor x4 (zshl o10 x5)))), (0, .ref a_v), (1, .int (zI x1)), (3, .int (zI x3))]) hx hb dX10_which_39 hl rfl (by decide) rfl (fun ls hl => ?_)
        refine lv_goto (tgt := 10) hx hb dX10_which_42 (by decide) ?_
        exact ih o8.2.1 (upZ v_now (x1).toNat x5) o8.2.2 x1 x3 (zor x4 (zshl o10 x5)) (x5 + 1) _ _ _ _ hP hS (lv_sub hl [2, 3, 4, 1, 0] rfl) h K
  refine wi_ic hx hb dX10_which_0 ?_
  refine lv_istore (lv' := [(4, .int (zI 0)), (0, .ref a_v), (1, .int (zI x1)), (2, .int (zI x2)), (3, .int (zI x3))]) hx hb dX10_which_1 hl (by decide) rfl (fun ls hl => ?_)
  refine lv_aload_n hx hb dX10_which_3 rfl (lv_at hl 1 rfl) ?_
  obtain ⟨o1, hc2, h⟩ := bnd_some h
  refine cV_v (rest := []) (w2 := (wd_X10_which cy a_v a_v_by a_v_now a_v_st a_v_told a_v_isKept a_v_draft a_v_placedRow a_v_tape a_v_bestRow a_v_ways a_v_lanes a_v_sizes a_v_cells a_v_before v_hasOrder v_hasStart v_placed v_placedMany v_highest v_taped v_pos v_begun v_sort v_value v_fault v_wrongAt v_rightSum v_wrongSum v_allWays v_torn v_by o1 v_st v_told)) ⟨hx, hb, hml, hown, hts⟩ (c_X10_fetches l D cy sa a_v a_v_now a_v_st a_v_isKept a_v_draft a_v_placedRow a_v_tape a_v_by a_v_told a_v_bestRow a_v_ways a_v_lanes a_v_sizes a_v_cells a_v_before v_hasOrder v_hasStart v_placed v_placedMany v_highest v_taped v_pos v_begun v_sort v_value v_fault v_wrongAt v_rightSum v_wrongSum v_allWays v_torn v_now v_st o1 hc2) (cwV 0 hts gX10_which_X10_fetches rfl rfl rfl (by decide +kernel) ⟨Nat.le_of_ble_eq_true rfl, Nat.le_of_ble_eq_true rfl⟩) rfl rfl rfl hE hP hDD rfl hS [0, 2, 3] rfl rfl rfl rfl hl.1 (Nat.le_of_ble_eq_true rfl) ⟨Nat.zero_le _, Nat.zero_le _⟩ rfl dX10_which_4 rfl (fun H locs hP hS => ?_)
  refine lv_iload_n hx hb dX10_which_7 rfl (lv_at hl 3 rfl) ?_
  refine lv_istore (lv' := [(5, .int (zI x2)), (4, .int (zI 0)), (0, .ref a_v), (1, .int (zI x1)), (2, .int (zI x2)), (3, .int (zI x3))]) hx hb dX10_which_8 hl (by decide) rfl (fun ls hl => ?_)
  obtain ⟨o12, hx13, h⟩ := bnd_some h
  refine L10 5000 v_by o1 v_told x1 x3 0 x2 _ _ _ _ hP hS (lv_sub hl [2, 3, 5, 1, 0] rfl) hx13 ?_
  clear hx13
  intro H locs ls hP hS hl
  refine lv_iload hx hb dX10_which_45 (lv_at hl 0 rfl) ?_
  obtain rfl := Option.some.inj h
  exact KR _ _ _ _ hP hS dX10_which_47
abbrev wd_X10_starts (cy : Nat → ClassId) (a_v : Nat) (a_v_by : Nat) (a_v_now : Nat) (a_v_st : Nat) (a_v_told : Nat) (a_v_isKept : Nat) (a_v_draft : Nat) (a_v_placedRow : Nat) (a_v_tape : Nat) (a_v_bestRow : Nat) (a_v_ways : Nat) (a_v_lanes : Nat) (a_v_sizes : Nat) (a_v_cells : Nat) (a_v_before : Nat) (v_hasOrder : Int) (v_hasStart : Int) (v_placed : Int) (v_placedMany : Int) (v_highest : Int) (v_taped : Int) (v_pos : Int) (v_begun : Int) (v_sort : Int) (v_value : Int) (v_fault : Int) (v_wrongAt : Int) (v_rightSum : Int) (v_wrongSum : Int) (v_allWays : Int) (v_torn : Int) (v_by : Nat → Int) (v_now : Nat → Int) (v_st : Nat → Int) (v_told : Nat → Int) : va_W := [(a_v, .inr (10, [.ref a_v_st, .ref a_v_now, .ref a_v_isKept, .ref a_v_draft, .int (zI v_hasOrder), .int (zI v_hasStart), .int (zI v_placed), .int (zI v_placedMany), .ref a_v_placedRow, .int (zI v_highest), .ref a_v_tape, .int (zI v_taped), .int (zI v_pos), .int (zI v_begun), .int (zI v_sort), .int (zI v_value), .int (zI v_fault), .int (zI v_wrongAt), .ref a_v_by, .ref a_v_told, .ref a_v_bestRow, .long (zL v_rightSum), .long (zL v_wrongSum), .long (zL v_allWays), .ref a_v_ways, .ref a_v_lanes, .ref a_v_sizes, .ref a_v_cells, .int (zI v_torn), .ref a_v_before])), (a_v_by, .inl (cy 0, 120, .inl (fun j => zI (v_by j)))), (a_v_now, .inl (cy 0, 56, .inl (fun j => zI (v_now j)))), (a_v_st, .inl (cy 0, 168, .inl (fun j => zI (v_st j)))), (a_v_told, .inl (cy 0, 120, .inl (fun j => zI (v_told j))))]
set_option maxHeartbeats 4000000 in
set_option maxRecDepth 100000 in
theorem c_X10_starts (l : Launch) (D : va_G) (cy : Nat → ClassId) (sa : Nat → Nat) (a_v : Nat) (a_v_by : Nat) (a_v_now : Nat) (a_v_st : Nat) (a_v_told : Nat) (a_v_isKept : Nat) (a_v_draft : Nat) (a_v_placedRow : Nat) (a_v_tape : Nat) (a_v_bestRow : Nat) (a_v_ways : Nat) (a_v_lanes : Nat) (a_v_sizes : Nat) (a_v_cells : Nat) (a_v_before : Nat) (v_hasOrder : Int) (v_hasStart : Int) (v_placed : Int) (v_placedMany : Int) (v_highest : Int) (v_taped : Int) (v_pos : Int) (v_begun : Int) (v_sort : Int) (v_value : Int) (v_fault : Int) (v_wrongAt : Int) (v_rightSum : Int) (v_wrongSum : Int) (v_allWays : Int) (v_torn : Int) (v_by : Nat → Int) (v_now : Nat → Int) (v_st : Nat → Int) (v_told : Nat → Int) (o : Int × (Nat → Int) × (Nat → Int) × (Nat → Int)) (h : f_M_starts v_by v_now v_st v_told = some o) : CtI l yX10_starts wsX10_starts ({ frames := 6, cells := 0, slots := 0, locals := 139 }) D cy sa [.ref a_v] (wd_X10_starts cy a_v a_v_by a_v_now a_v_st a_v_told a_v_isKept a_v_draft a_v_placedRow a_v_tape a_v_bestRow a_v_ways a_v_lanes a_v_sizes a_v_cells a_v_before v_hasOrder v_hasStart v_placed v_placedMany v_highest v_taped v_pos v_begun v_sort v_value v_fault v_wrongAt v_rightSum v_wrongSum v_allWays v_torn v_by v_now v_st v_told) (wd_X10_starts cy a_v a_v_by a_v_now a_v_st a_v_told a_v_isKept a_v_draft a_v_placedRow a_v_tape a_v_bestRow a_v_ways a_v_lanes a_v_sizes a_v_cells a_v_before v_hasOrder v_hasStart v_placed v_placedMany v_highest v_taped v_pos v_begun v_sort v_value v_fault v_wrongAt v_rightSum v_wrongSum v_allWays v_torn o.2.1 o.2.2.1 v_st o.2.2.2) o.1 := by
  refine ct_I (cc := cX10_starts) (maxL := 1) (plainFor_of_name (by decide)) rfl (Nat.le_of_ble_eq_true rfl) ?_
  intro p e s m below meth c A args QQ hx hb hml hown hts hE hDD hP KR ls hl
  have hl : lv_has ls 1 [(0, .ref a_v)] := hl
  have hDD : DD A [a_v, a_v_by, a_v_now, a_v_st, a_v_told] := hDD
  have hS : va_S A s.heap s.heap [] := va_S.rf
  refine lv_aload_n hx hb dX10_starts_0 rfl (lv_at hl 0 rfl) ?_
  refine wi_bi hx hb dX10_starts_1 (by decide) ?_
  refine wi_ic hx hb dX10_starts_3 ?_
  refine wi_bi hx hb dX10_starts_4 (by decide) ?_
  obtain ⟨o1, hc2, h⟩ := bnd_some h
  refine cV_i (rest := []) (w2 := (wd_X10_starts cy a_v a_v_by a_v_now a_v_st a_v_told a_v_isKept a_v_draft a_v_placedRow a_v_tape a_v_bestRow a_v_ways a_v_lanes a_v_sizes a_v_cells a_v_before v_hasOrder v_hasStart v_placed v_placedMany v_highest v_taped v_pos v_begun v_sort v_value v_fault v_wrongAt v_rightSum v_wrongSum v_allWays v_torn o1.2.1 o1.2.2.1 v_st o1.2.2.2)) ⟨hx, hb, hml, hown, hts⟩ (c_X10_which l D cy sa a_v a_v_by a_v_now a_v_st a_v_told a_v_isKept a_v_draft a_v_placedRow a_v_tape a_v_bestRow a_v_ways a_v_lanes a_v_sizes a_v_cells a_v_before v_hasOrder v_hasStart v_placed v_placedMany v_highest v_taped v_pos v_begun v_sort v_value v_fault v_wrongAt v_rightSum v_wrongSum v_allWays v_torn v_by v_now v_st v_told 36 0 23 o1 hc2) (cwV 3 hts gX10_starts_X10_which rfl rfl rfl (by decide +kernel) ⟨Nat.le_of_ble_eq_true rfl, Nat.le_of_ble_eq_true rfl⟩) rfl rfl rfl hE hP hDD rfl hS [0, 1, 2, 3, 4] rfl rfl rfl rfl hl.1 (Nat.le_of_ble_eq_true rfl) ⟨Nat.zero_le _, Nat.zero_le _⟩ rfl dX10_starts_6 rfl (fun H locs hP hS => ?_)
  obtain rfl := Option.some.inj h
  exact KR _ _ _ _ hP hS dX10_starts_9
abbrev wd_X10_kinds (cy : Nat → ClassId) (a_v : Nat) (a_v_by : Nat) (a_v_now : Nat) (a_v_st : Nat) (a_v_told : Nat) (a_v_isKept : Nat) (a_v_draft : Nat) (a_v_placedRow : Nat) (a_v_tape : Nat) (a_v_bestRow : Nat) (a_v_ways : Nat) (a_v_lanes : Nat) (a_v_sizes : Nat) (a_v_cells : Nat) (a_v_before : Nat) (v_hasOrder : Int) (v_hasStart : Int) (v_placed : Int) (v_placedMany : Int) (v_highest : Int) (v_taped : Int) (v_pos : Int) (v_begun : Int) (v_sort : Int) (v_value : Int) (v_fault : Int) (v_wrongAt : Int) (v_rightSum : Int) (v_wrongSum : Int) (v_allWays : Int) (v_torn : Int) (v_by : Nat → Int) (v_now : Nat → Int) (v_st : Nat → Int) (v_told : Nat → Int) : va_W := [(a_v, .inr (10, [.ref a_v_st, .ref a_v_now, .ref a_v_isKept, .ref a_v_draft, .int (zI v_hasOrder), .int (zI v_hasStart), .int (zI v_placed), .int (zI v_placedMany), .ref a_v_placedRow, .int (zI v_highest), .ref a_v_tape, .int (zI v_taped), .int (zI v_pos), .int (zI v_begun), .int (zI v_sort), .int (zI v_value), .int (zI v_fault), .int (zI v_wrongAt), .ref a_v_by, .ref a_v_told, .ref a_v_bestRow, .long (zL v_rightSum), .long (zL v_wrongSum), .long (zL v_allWays), .ref a_v_ways, .ref a_v_lanes, .ref a_v_sizes, .ref a_v_cells, .int (zI v_torn), .ref a_v_before])), (a_v_by, .inl (cy 0, 120, .inl (fun j => zI (v_by j)))), (a_v_now, .inl (cy 0, 56, .inl (fun j => zI (v_now j)))), (a_v_st, .inl (cy 0, 168, .inl (fun j => zI (v_st j)))), (a_v_told, .inl (cy 0, 120, .inl (fun j => zI (v_told j))))]
set_option maxHeartbeats 4000000 in
set_option maxRecDepth 100000 in
theorem c_X10_kinds (l : Launch) (D : va_G) (cy : Nat → ClassId) (sa : Nat → Nat) (a_v : Nat) (a_v_by : Nat) (a_v_now : Nat) (a_v_st : Nat) (a_v_told : Nat) (a_v_isKept : Nat) (a_v_draft : Nat) (a_v_placedRow : Nat) (a_v_tape : Nat) (a_v_bestRow : Nat) (a_v_ways : Nat) (a_v_lanes : Nat) (a_v_sizes : Nat) (a_v_cells : Nat) (a_v_before : Nat) (v_hasOrder : Int) (v_hasStart : Int) (v_placed : Int) (v_placedMany : Int) (v_highest : Int) (v_taped : Int) (v_pos : Int) (v_begun : Int) (v_sort : Int) (v_value : Int) (v_fault : Int) (v_wrongAt : Int) (v_rightSum : Int) (v_wrongSum : Int) (v_allWays : Int) (v_torn : Int) (v_by : Nat → Int) (v_now : Nat → Int) (v_st : Nat → Int) (v_told : Nat → Int) (x1 : Int) (o : Int × (Nat → Int) × (Nat → Int) × (Nat → Int)) (h : f_M_kinds v_by v_now v_st v_told x1 = some o) : CtI l yX10_kinds wsX10_kinds ({ frames := 6, cells := 0, slots := 0, locals := 139 }) D cy sa [.ref a_v, .int (zI x1)] (wd_X10_kinds cy a_v a_v_by a_v_now a_v_st a_v_told a_v_isKept a_v_draft a_v_placedRow a_v_tape a_v_bestRow a_v_ways a_v_lanes a_v_sizes a_v_cells a_v_before v_hasOrder v_hasStart v_placed v_placedMany v_highest v_taped v_pos v_begun v_sort v_value v_fault v_wrongAt v_rightSum v_wrongSum v_allWays v_torn v_by v_now v_st v_told) (wd_X10_kinds cy a_v a_v_by a_v_now a_v_st a_v_told a_v_isKept a_v_draft a_v_placedRow a_v_tape a_v_bestRow a_v_ways a_v_lanes a_v_sizes a_v_cells a_v_before v_hasOrder v_hasStart v_placed v_placedMany v_highest v_taped v_pos v_begun v_sort v_value v_fault v_wrongAt v_rightSum v_wrongSum v_allWays v_torn o.2.1 o.2.2.1 v_st o.2.2.2) o.1 := by
  refine ct_I (cc := cX10_kinds) (maxL := 2) (plainFor_of_name (by decide)) rfl (Nat.le_of_ble_eq_true rfl) ?_
  intro p e s m below meth c A args QQ hx hb hml hown hts hE hDD hP KR ls hl
  have hl : lv_has ls 2 [(0, .ref a_v), (1, .int (zI x1))] := hl
  have hDD : DD A [a_v, a_v_by, a_v_now, a_v_st, a_v_told] := hDD
  have hS : va_S A s.heap s.heap [] := va_S.rf
  refine lv_aload_n hx hb dX10_kinds_0 rfl (lv_at hl 0 rfl) ?_
  refine lv_iload_n hx hb dX10_kinds_1 rfl (lv_at hl 1 rfl) ?_
  obtain ⟨o1, hc2, h⟩ := bnd_some h
  refine cV_i (rest := []) (w2 := (wd_X10_kinds cy a_v a_v_by a_v_now a_v_st a_v_told a_v_isKept a_v_draft a_v_placedRow a_v_tape a_v_bestRow a_v_ways a_v_lanes a_v_sizes a_v_cells a_v_before v_hasOrder v_hasStart v_placed v_placedMany v_highest v_taped v_pos v_begun v_sort v_value v_fault v_wrongAt v_rightSum v_wrongSum v_allWays v_torn v_by v_now v_st v_told)) ⟨hx, hb, hml, hown, hts⟩ (c_X10_isBox l D cy sa a_v a_v_st a_v_now a_v_isKept a_v_draft a_v_placedRow a_v_tape a_v_by a_v_told a_v_bestRow a_v_ways a_v_lanes a_v_sizes a_v_cells a_v_before v_hasOrder v_hasStart v_placed v_placedMany v_highest v_taped v_pos v_begun v_sort v_value v_fault v_wrongAt v_rightSum v_wrongSum v_allWays v_torn v_st x1 o1 hc2) (cwV 1 hts gX10_kinds_X10_isBox rfl rfl rfl (by decide +kernel) ⟨Nat.le_of_ble_eq_true rfl, Nat.le_of_ble_eq_true rfl⟩) rfl rfl rfl hE hP hDD rfl hS [0, 3] rfl rfl rfl rfl hl.1 (Nat.le_of_ble_eq_true rfl) ⟨Nat.zero_le _, Nat.zero_le _⟩ rfl dX10_kinds_2 rfl (fun H locs hP hS => ?_)
  obtain ⟨hr3, h⟩ := chk_some h
  refine wi_if_eq (tgt := 23) hx hb dX10_kinds_5 (by decide) hr3 (fun c5 => ?_) (fun c5 => ?_)
  · have h := ite_t c5 h
    refine wi_ic hx hb dX10_kinds_23 ?_
    obtain rfl := Option.some.inj h
    exact KR _ _ _ _ hP hS dX10_kinds_24
  · have h := ite_f c5 h
    refine lv_aload_n hx hb dX10_kinds_8 rfl (lv_at hl 0 rfl) ?_
    refine wi_bi hx hb dX10_kinds_9 (by decide) ?_
    refine lv_iload_n hx hb dX10_kinds_11 rfl (lv_at hl 1 rfl) ?_
    refine wi_imul hx hb dX10_kinds_12 ?_
    refine wi_ic hx hb dX10_kinds_13 ?_
    refine wi_iadd hx hb dX10_kinds_14 ?_
    refine wi_ic hx hb dX10_kinds_15 ?_
    refine wi_ic hx hb dX10_kinds_16 ?_
    obtain ⟨o6, hc7, h⟩ := bnd_some h
    refine cV_i (rest := []) (w2 := (wd_X10_kinds cy a_v a_v_by a_v_now a_v_st a_v_told a_v_isKept a_v_draft a_v_placedRow a_v_tape a_v_bestRow a_v_ways a_v_lanes a_v_sizes a_v_cells a_v_before v_hasOrder v_hasStart v_placed v_placedMany v_highest v_taped v_pos v_begun v_sort v_value v_fault v_wrongAt v_rightSum v_wrongSum v_allWays v_torn o6.2.1 o6.2.2.1 v_st o6.2.2.2)) ⟨hx, hb, hml, hown, hts⟩ (c_X10_which l D cy sa a_v a_v_by a_v_now a_v_st a_v_told a_v_isKept a_v_draft a_v_placedRow a_v_tape a_v_bestRow a_v_ways a_v_lanes a_v_sizes a_v_cells a_v_before v_hasOrder v_hasStart v_placed v_placedMany v_highest v_taped v_pos v_begun v_sort v_value v_fault v_wrongAt v_rightSum v_wrongSum v_allWays v_torn v_by v_now v_st v_told ((6 * x1) + 0) 0 3 o6 hc7) (cwV 3 hts gX10_kinds_X10_which rfl rfl rfl (by decide +kernel) ⟨Nat.le_of_ble_eq_true rfl, Nat.le_of_ble_eq_true rfl⟩) rfl rfl rfl hE hP hDD rfl hS [0, 1, 2, 3, 4] rfl rfl rfl rfl hl.1 (Nat.le_of_ble_eq_true rfl) ⟨Nat.zero_le _, Nat.zero_le _⟩ rfl dX10_kinds_17 rfl (fun H locs hP hS => ?_)
    refine lv_goto (tgt := 24) hx hb dX10_kinds_20 (by decide) ?_
    obtain rfl := Option.some.inj h
    exact KR _ _ _ _ hP hS dX10_kinds_24
abbrev wd_X10_works (cy : Nat → ClassId) (a_v : Nat) (a_v_by : Nat) (a_v_now : Nat) (a_v_st : Nat) (a_v_told : Nat) (a_v_isKept : Nat) (a_v_draft : Nat) (a_v_placedRow : Nat) (a_v_tape : Nat) (a_v_bestRow : Nat) (a_v_ways : Nat) (a_v_lanes : Nat) (a_v_sizes : Nat) (a_v_cells : Nat) (a_v_before : Nat) (v_hasOrder : Int) (v_hasStart : Int) (v_placed : Int) (v_placedMany : Int) (v_highest : Int) (v_taped : Int) (v_pos : Int) (v_begun : Int) (v_sort : Int) (v_value : Int) (v_fault : Int) (v_wrongAt : Int) (v_rightSum : Int) (v_wrongSum : Int) (v_allWays : Int) (v_torn : Int) (v_by : Nat → Int) (v_now : Nat → Int) (v_st : Nat → Int) (v_told : Nat → Int) : va_W := [(a_v, .inr (10, [.ref a_v_st, .ref a_v_now, .ref a_v_isKept, .ref a_v_draft, .int (zI v_hasOrder), .int (zI v_hasStart), .int (zI v_placed), .int (zI v_placedMany), .ref a_v_placedRow, .int (zI v_highest), .ref a_v_tape, .int (zI v_taped), .int (zI v_pos), .int (zI v_begun), .int (zI v_sort), .int (zI v_value), .int (zI v_fault), .int (zI v_wrongAt), .ref a_v_by, .ref a_v_told, .ref a_v_bestRow, .long (zL v_rightSum), .long (zL v_wrongSum), .long (zL v_allWays), .ref a_v_ways, .ref a_v_lanes, .ref a_v_sizes, .ref a_v_cells, .int (zI v_torn), .ref a_v_before])), (a_v_by, .inl (cy 0, 120, .inl (fun j => zI (v_by j)))), (a_v_now, .inl (cy 0, 56, .inl (fun j => zI (v_now j)))), (a_v_st, .inl (cy 0, 168, .inl (fun j => zI (v_st j)))), (a_v_told, .inl (cy 0, 120, .inl (fun j => zI (v_told j))))]
set_option maxHeartbeats 4000000 in
set_option maxRecDepth 100000 in
theorem c_X10_works (l : Launch) (D : va_G) (cy : Nat → ClassId) (sa : Nat → Nat) (a_v : Nat) (a_v_by : Nat) (a_v_now : Nat) (a_v_st : Nat) (a_v_told : Nat) (a_v_isKept : Nat) (a_v_draft : Nat) (a_v_placedRow : Nat) (a_v_tape : Nat) (a_v_bestRow : Nat) (a_v_ways : Nat) (a_v_lanes : Nat) (a_v_sizes : Nat) (a_v_cells : Nat) (a_v_before : Nat) (v_hasOrder : Int) (v_hasStart : Int) (v_placed : Int) (v_placedMany : Int) (v_highest : Int) (v_taped : Int) (v_pos : Int) (v_begun : Int) (v_sort : Int) (v_value : Int) (v_fault : Int) (v_wrongAt : Int) (v_rightSum : Int) (v_wrongSum : Int) (v_allWays : Int) (v_torn : Int) (v_by : Nat → Int) (v_now : Nat → Int) (v_st : Nat → Int) (v_told : Nat → Int) (x1 : Int) (o : Int × (Nat → Int) × (Nat → Int) × (Nat → Int)) (h : f_M_works v_by v_now v_st v_told x1 = some o) : CtI l yX10_works wsX10_works ({ frames := 6, cells := 0, slots := 0, locals := 139 }) D cy sa [.ref a_v, .int (zI x1)] (wd_X10_works cy a_v a_v_by a_v_now a_v_st a_v_told a_v_isKept a_v_draft a_v_placedRow a_v_tape a_v_bestRow a_v_ways a_v_lanes a_v_sizes a_v_cells a_v_before v_hasOrder v_hasStart v_placed v_placedMany v_highest v_taped v_pos v_begun v_sort v_value v_fault v_wrongAt v_rightSum v_wrongSum v_allWays v_torn v_by v_now v_st v_told) (wd_X10_works cy a_v a_v_by a_v_now a_v_st a_v_told a_v_isKept a_v_draft a_v_placedRow a_v_tape a_v_bestRow a_v_ways a_v_lanes a_v_sizes a_v_cells a_v_before v_hasOrder v_hasStart v_placed v_placedMany v_highest v_taped v_pos v_begun v_sort v_value v_fault v_wrongAt v_rightSum v_wrongSum v_allWays v_torn o.2.1 o.2.2.1 v_st o.2.2.2) o.1 := by
  refine ct_I (cc := cX10_works) (maxL := 2) (plainFor_of_name (by decide)) rfl (Nat.le_of_ble_eq_true rfl) ?_
  intro p e s m below meth c A args QQ hx hb hml hown hts hE hDD hP KR ls hl
  have hl : lv_has ls 2 [(0, .ref a_v), (1, .int (zI x1))] := hl
  have hDD : DD A [a_v, a_v_by, a_v_now, a_v_st, a_v_told] := hDD
  have hS : va_S A s.heap s.heap [] := va_S.rf
  refine lv_aload_n hx hb dX10_works_0 rfl (lv_at hl 0 rfl) ?_
  refine lv_iload_n hx hb dX10_works_1 rfl (lv_at hl 1 rfl) ?_
  obtain ⟨o1, hc2, h⟩ := bnd_some h
  refine cV_i (rest := []) (w2 := (wd_X10_works cy a_v a_v_by a_v_now a_v_st a_v_told a_v_isKept a_v_draft a_v_placedRow a_v_tape a_v_bestRow a_v_ways a_v_lanes a_v_sizes a_v_cells a_v_before v_hasOrder v_hasStart v_placed v_placedMany v_highest v_taped v_pos v_begun v_sort v_value v_fault v_wrongAt v_rightSum v_wrongSum v_allWays v_torn v_by v_now v_st v_told)) ⟨hx, hb, hml, hown, hts⟩ (c_X10_isBox l D cy sa a_v a_v_st a_v_now a_v_isKept a_v_draft a_v_placedRow a_v_tape a_v_by a_v_told a_v_bestRow a_v_ways a_v_lanes a_v_sizes a_v_cells a_v_before v_hasOrder v_hasStart v_placed v_placedMany v_highest v_taped v_pos v_begun v_sort v_value v_fault v_wrongAt v_rightSum v_wrongSum v_allWays v_torn v_st x1 o1 hc2) (cwV 1 hts gX10_works_X10_isBox rfl rfl rfl (by decide +kernel) ⟨Nat.le_of_ble_eq_true rfl, Nat.le_of_ble_eq_true rfl⟩) rfl rfl rfl hE hP hDD rfl hS [0, 3] rfl rfl rfl rfl hl.1 (Nat.le_of_ble_eq_true rfl) ⟨Nat.zero_le _, Nat.zero_le _⟩ rfl dX10_works_2 rfl (fun H locs hP hS => ?_)
  obtain ⟨hr3, h⟩ := chk_some h
  refine wi_if_eq (tgt := 24) hx hb dX10_works_5 (by decide) hr3 (fun c5 => ?_) (fun c5 => ?_)
  · have h := ite_t c5 h
    refine wi_ic hx hb dX10_works_24 ?_
    obtain rfl := Option.some.inj h
    exact KR _ _ _ _ hP hS dX10_works_25
  · have h := ite_f c5 h
    refine lv_aload_n hx hb dX10_works_8 rfl (lv_at hl 0 rfl) ?_
    refine wi_bi hx hb dX10_works_9 (by decide) ?_
    refine lv_iload_n hx hb dX10_works_11 rfl (lv_at hl 1 rfl) ?_
    refine wi_imul hx hb dX10_works_12 ?_
    refine wi_ic hx hb dX10_works_13 ?_
    refine wi_iadd hx hb dX10_works_14 ?_
    refine wi_ic hx hb dX10_works_15 ?_
    refine wi_bi hx hb dX10_works_16 (by decide) ?_
    obtain ⟨o6, hc7, h⟩ := bnd_some h
    refine cV_i (rest := []) (w2 := (wd_X10_works cy a_v a_v_by a_v_now a_v_st a_v_told a_v_isKept a_v_draft a_v_placedRow a_v_tape a_v_bestRow a_v_ways a_v_lanes a_v_sizes a_v_cells a_v_before v_hasOrder v_hasStart v_placed v_placedMany v_highest v_taped v_pos v_begun v_sort v_value v_fault v_wrongAt v_rightSum v_wrongSum v_allWays v_torn o6.2.1 o6.2.2.1 v_st o6.2.2.2)) ⟨hx, hb, hml, hown, hts⟩ (c_X10_which l D cy sa a_v a_v_by a_v_now a_v_st a_v_told a_v_isKept a_v_draft a_v_placedRow a_v_tape a_v_bestRow a_v_ways a_v_lanes a_v_sizes a_v_cells a_v_before v_hasOrder v_hasStart v_placed v_placedMany v_highest v_taped v_pos v_begun v_sort v_value v_fault v_wrongAt v_rightSum v_wrongSum v_allWays v_torn v_by v_now v_st v_told ((6 * x1) + 1) 1 12 o6 hc7) (cwV 3 hts gX10_works_X10_which rfl rfl rfl (by decide +kernel) ⟨Nat.le_of_ble_eq_true rfl, Nat.le_of_ble_eq_true rfl⟩) rfl rfl rfl hE hP hDD rfl hS [0, 1, 2, 3, 4] rfl rfl rfl rfl hl.1 (Nat.le_of_ble_eq_true rfl) ⟨Nat.zero_le _, Nat.zero_le _⟩ rfl dX10_works_18 rfl (fun H locs hP hS => ?_)
    refine lv_goto (tgt := 25) hx hb dX10_works_21 (by decide) ?_
    obtain rfl := Option.some.inj h
    exact KR _ _ _ _ hP hS dX10_works_25
abbrev wd_X10_ask (cy : Nat → ClassId) (a_v : Nat) (a_v_by : Nat) (a_v_now : Nat) (a_v_st : Nat) (a_v_told : Nat) (a_v_ways : Nat) (a_v_isKept : Nat) (a_v_draft : Nat) (a_v_placedRow : Nat) (a_v_tape : Nat) (a_v_bestRow : Nat) (a_v_lanes : Nat) (a_v_sizes : Nat) (a_v_cells : Nat) (a_v_before : Nat) (v_hasOrder : Int) (v_hasStart : Int) (v_placed : Int) (v_placedMany : Int) (v_highest : Int) (v_taped : Int) (v_pos : Int) (v_begun : Int) (v_sort : Int) (v_value : Int) (v_fault : Int) (v_wrongAt : Int) (v_rightSum : Int) (v_wrongSum : Int) (v_allWays : Int) (v_torn : Int) (v_by : Nat → Int) (v_now : Nat → Int) (v_st : Nat → Int) (v_told : Nat → Int) (v_ways : Nat → Int) : va_W := [(a_v, .inr (10, [.ref a_v_st, .ref a_v_now, .ref a_v_isKept, .ref a_v_draft, .int (zI v_hasOrder), .int (zI v_hasStart), .int (zI v_placed), .int (zI v_placedMany), .ref a_v_placedRow, .int (zI v_highest), .ref a_v_tape, .int (zI v_taped), .int (zI v_pos), .int (zI v_begun), .int (zI v_sort), .int (zI v_value), .int (zI v_fault), .int (zI v_wrongAt), .ref a_v_by, .ref a_v_told, .ref a_v_bestRow, .long (zL v_rightSum), .long (zL v_wrongSum), .long (zL v_allWays), .ref a_v_ways, .ref a_v_lanes, .ref a_v_sizes, .ref a_v_cells, .int (zI v_torn), .ref a_v_before])), (a_v_by, .inl (cy 0, 120, .inl (fun j => zI (v_by j)))), (a_v_now, .inl (cy 0, 56, .inl (fun j => zI (v_now j)))), (a_v_st, .inl (cy 0, 168, .inl (fun j => zI (v_st j)))), (a_v_told, .inl (cy 0, 120, .inl (fun j => zI (v_told j)))), (a_v_ways, .inl (cy 0, 2880, .inl (fun j => zI (v_ways j))))]
set_option maxHeartbeats 4000000 in
set_option maxRecDepth 100000 in
theorem c_X10_ask (l : Launch) (D : va_G) (cy : Nat → ClassId) (sa : Nat → Nat) (a_v : Nat) (a_v_by : Nat) (a_v_now : Nat) (a_v_st : Nat) (a_v_told : Nat) (a_v_ways : Nat) (a_v_isKept : Nat) (a_v_draft : Nat) (a_v_placedRow : Nat) (a_v_tape : Nat) (a_v_bestRow : Nat) (a_v_lanes : Nat) (a_v_sizes : Nat) (a_v_cells : Nat) (a_v_before : Nat) (v_hasOrder : Int) (v_hasStart : Int) (v_placed : Int) (v_placedMany : Int) (v_highest : Int) (v_taped : Int) (v_pos : Int) (v_begun : Int) (v_sort : Int) (v_value : Int) (v_fault : Int) (v_wrongAt : Int) (v_rightSum : Int) (v_wrongSum : Int) (v_allWays : Int) (v_torn : Int) (v_by : Nat → Int) (v_now : Nat → Int) (v_st : Nat → Int) (v_told : Nat → Int) (v_ways : Nat → Int) (x1 : Int) (o : Int × (Nat → Int) × (Nat → Int) × (Nat → Int) × (Nat → Int)) (h : f_M_ask v_by v_now v_st v_told v_ways x1 = some o) : CtI l yX10_ask wsX10_ask ({ frames := 5, cells := 0, slots := 0, locals := 114 }) D cy sa [.ref a_v, .int (zI x1)] (wd_X10_ask cy a_v a_v_by a_v_now a_v_st a_v_told a_v_ways a_v_isKept a_v_draft a_v_placedRow a_v_tape a_v_bestRow a_v_lanes a_v_sizes a_v_cells a_v_before v_hasOrder v_hasStart v_placed v_placedMany v_highest v_taped v_pos v_begun v_sort v_value v_fault v_wrongAt v_rightSum v_wrongSum v_allWays v_torn v_by v_now v_st v_told v_ways) (wd_X10_ask cy a_v a_v_by a_v_now a_v_st a_v_told a_v_ways a_v_isKept a_v_draft a_v_placedRow a_v_tape a_v_bestRow a_v_lanes a_v_sizes a_v_cells a_v_before v_hasOrder v_hasStart v_placed v_placedMany v_highest v_taped v_pos v_begun v_sort v_value v_fault v_wrongAt v_rightSum v_wrongSum v_allWays v_torn o.2.1 o.2.2.1 v_st o.2.2.2.1 o.2.2.2.2) o.1 := by
  refine ct_I (cc := cX10_ask) (maxL := 7) (plainFor_of_name (by decide)) rfl (Nat.le_of_ble_eq_true rfl) ?_
  intro p e s m below meth c A args QQ hx hb hml hown hts hE hDD hP KR ls hl
  have hl : lv_has ls 7 [(0, .ref a_v), (1, .int (zI x1))] := hl
  have hDD : DD A [a_v, a_v_by, a_v_now, a_v_st, a_v_told, a_v_ways] := hDD
  have hS : va_S A s.heap s.heap [] := va_S.rf
  have q0 := hts (.fieldLink RX10 38 "HatHoursModel" "ways" "[I") (List.mem_of_getElem? (i := 1) rfl)
  have q1 := hts (.fieldLink RX10 13 "HatHoursModel" "now" "[I") (List.mem_of_getElem? (i := 2) rfl)
  have q2 := hts (.fieldLink RX10 32 "HatHoursModel" "told" "[I") (List.mem_of_getElem? (i := 3) rfl)
  have iX10 : ∀ w ∈ u_ws RX10 TX10 30, w ∈ wsX10_ask := in_slice 48 30 rfl
  have L17 : ∀ (fuel : Nat) (v_by : Nat → Int) (v_now : Nat → Int) (v_told : Nat → Int) (v_ways : Nat → Int) (x1 : Int) (x2 : Int) (x3 : Int) (x4 : Int) (H : Heap) (locs : List Loc) (ls : Array Slot) (ex : (Nat → Int)), va_P D vwCl (wd_X10_ask cy a_v a_v_by a_v_now a_v_st a_v_told a_v_ways a_v_isKept a_v_draft a_v_placedRow a_v_tape a_v_bestRow a_v_lanes a_v_sizes a_v_cells a_v_before v_hasOrder v_hasStart v_placed v_placedMany v_highest v_taped v_pos v_begun v_sort v_value v_fault v_wrongAt v_rightSum v_wrongSum v_allWays v_torn v_by v_now v_st v_told v_ways) H → va_S A s.heap H locs → lv_has ls 7 [(0, .ref a_v), (1, .int (zI x1)), (2, .int (zI x2)), (3, .int (zI x3)), (4, .int (zI x4))] → f_M_ask_L17 fuel v_ways x4 = some ex → (∀ (H : Heap) (locs : List Loc) (ls : Array Slot), va_P D vwCl (wd_X10_ask cy a_v a_v_by a_v_now a_v_st a_v_told a_v_ways a_v_isKept a_v_draft a_v_placedRow a_v_tape a_v_bestRow a_v_lanes a_v_sizes a_v_cells a_v_before v_hasOrder v_hasStart v_placed v_placedMany v_highest v_taped v_pos v_begun v_sort v_value v_fault v_wrongAt v_rightSum v_wrongSum v_allWays v_torn v_by v_now v_st v_told ex) H → va_S A s.heap H locs → lv_has ls 7 [(0, .ref a_v), (1, .int (zI x1)), (2, .int (zI x2)), (3, .int (zI x3))] → W p l e { frames := 5, cells := 0, slots := 0, locals := 114 } s m args below meth c H locs 0 0 QQ (F0 m 39 ls [])) → W p l e { frames := 5, cells := 0, slots := 0, locals := 114 } s m args below meth c H locs 0 0 QQ (F0 m 17 ls []) := by
    intro fuel
    induction fuel with
    | zero => intro _ _ _ _ _ _ _ _ H locs ls ex hP hS hl h K; cases h
    | succ fuel ih =>
      intro v_by v_now v_told v_ways x1 x2 x3 x4 H locs ls ex hP hS hl h K
      refine lv_iload hx hb dX10_ask_17 (lv_at hl 4 rfl) ?_
      refine wi_si hx hb dX10_ask_19 (by decide) ?_
      obtain ⟨hr6, h⟩ := chk_some h
      refine wi_ic_ge (tgt := 39) hx hb dX10_ask_22 (by decide) hr6 (by decide) (fun c8 => ?_) (fun c8 => ?_)
      · have h := ite_t c8 h
        obtain rfl := Option.some.inj h
        exact K _ _ _ hP hS (lv_sub hl [0, 1, 2, 3] rfl)
      · have h := ite_f c8 h
        refine lv_aload_n hx hb dX10_ask_25 rfl (lv_at hl 0 rfl) ?_
        refine wi_get (v := .ref a_v_ways) hx hb hts iX10 hown hE hP 0 rfl rfl 24 (by decide) q0 rfl dX10_ask_26 ?_
        refine lv_iload hx hb dX10_ask_29 (lv_at hl 4 rfl) ?_
        refine wi_ic hx hb dX10_ask_31 ?_
        obtain ⟨hk9, h⟩ := chk_some h
        refine wi_iast (w2 := (wd_X10_ask cy a_v a_v_by a_v_now a_v_st a_v_told a_v_ways a_v_isKept a_v_draft a_v_placedRow a_v_tape a_v_bestRow a_v_lanes a_v_sizes a_v_cells a_v_before v_hasOrder v_hasStart v_placed v_placedMany v_highest v_taped v_pos v_begun v_sort v_value v_fault v_wrongAt v_rightSum v_wrongSum v_allWays v_torn v_by v_now v_st v_told (upZ v_ways (x4).toNat 0))) hx hb hE hP hDD rfl hS 5 rfl (by decide) hk9 dX10_ask_32 rfl (fun H locs hP hS => ?_)
        refine wi_iinc (k := 4) (lv' := [(4, .int (zI (x4 + 1))), (0, .ref a_v), (1, .int (zI x1)), (2, .int (zI x2)), (3, .int (zI x3))]) hx hb dX10_ask_33 hl rfl (by decide) rfl (fun ls hl => ?_)
        refine lv_goto (tgt := 17) hx hb dX10_ask_36 (by decide) ?_
        exact ih v_by v_now v_told (upZ v_ways (x4).toNat 0) x1 x2 x3 (x4 + 1) _ _ _ _ hP hS (lv_sub hl [1, 2, 3, 4, 0] rfl) h K
  have L75 : ∀ (fuel : Nat) (v_by : Nat → Int) (v_now : Nat → Int) (v_told : Nat → Int) (v_ways : Nat → Int) (x1 : Int) (x2 : Int) (x3 : Int) (x4 : Int) (x5 : Int) (H : Heap) (locs : List Loc) (ls : Array Slot) (ex : (Nat → Int)), va_P D vwCl (wd_X10_ask cy a_v a_v_by a_v_now a_v_st a_v_told a_v_ways a_v_isKept a_v_draft a_v_placedRow a_v_tape a_v_bestRow a_v_lanes a_v_sizes a_v_cells a_v_before v_hasOrder v_hasStart v_placed v_placedMany v_highest v_taped v_pos v_begun v_sort v_value v_fault v_wrongAt v_rightSum v_wrongSum v_allWays v_torn v_by v_now v_st v_told v_ways) H → va_S A s.heap H locs → lv_has ls 7 [(0, .ref a_v), (1, .int (zI x1)), (2, .int (zI x2)), (3, .int (zI x3)), (4, .int (zI x4)), (5, .int (zI x5))] → f_M_ask_L75 fuel v_told v_ways x5 = some ex → (∀ (H : Heap) (locs : List Loc) (ls : Array Slot), va_P D vwCl (wd_X10_ask cy a_v a_v_by a_v_now a_v_st a_v_told a_v_ways a_v_isKept a_v_draft a_v_placedRow a_v_tape a_v_bestRow a_v_lanes a_v_sizes a_v_cells a_v_before v_hasOrder v_hasStart v_placed v_placedMany v_highest v_taped v_pos v_begun v_sort v_value v_fault v_wrongAt v_rightSum v_wrongSum v_allWays v_torn v_by v_now v_st v_told ex) H → va_S A s.heap H locs → lv_has ls 7 [(0, .ref a_v), (1, .int (zI x1)), (2, .int (zI x2)), (3, .int (zI x3)), (4, .int (zI x4))] → W p l e { frames := 5, cells := 0, slots := 0, locals := 114 } s m args below meth c H locs 0 0 QQ (F0 m 110 ls [])) → W p l e { frames := 5, cells := 0, slots := 0, locals := 114 } s m args below meth c H locs 0 0 QQ (F0 m 75 ls []) := by
    intro fuel
    induction fuel with
    | zero => intro _ _ _ _ _ _ _ _ _ H locs ls ex hP hS hl h K; cases h
    | succ fuel ih =>
      intro v_by v_now v_told v_ways x1 x2 x3 x4 x5 H locs ls ex hP hS hl h K
      refine lv_iload hx hb dX10_ask_75 (lv_at hl 5 rfl) ?_
      refine wi_bi hx hb dX10_ask_77 (by decide) ?_
      obtain ⟨hr22, h⟩ := chk_some h
      refine wi_ic_ge (tgt := 110) hx hb dX10_ask_79 (by decide) hr22 (by decide) (fun c24 => ?_) (fun c24 => ?_)
      · have h := ite_t c24 h
        obtain rfl := Option.some.inj h
        exact K _ _ _ hP hS (lv_sub hl [0, 1, 2, 3, 4] rfl)
      · have h := ite_f c24 h
        refine lv_aload_n hx hb dX10_ask_82 rfl (lv_at hl 0 rfl) ?_
        refine wi_get (v := .ref a_v_ways) hx hb hts iX10 hown hE hP 0 rfl rfl 24 (by decide) q0 rfl dX10_ask_83 ?_
        refine wi_bi hx hb dX10_ask_86 (by decide) ?_
        refine lv_iload hx hb dX10_ask_88 (lv_at hl 5 rfl) ?_
        refine wi_imul hx hb dX10_ask_90 ?_
        refine lv_aload_n hx hb dX10_ask_91 rfl (lv_at hl 0 rfl) ?_
        refine wi_get (v := .ref a_v_told) hx hb hts iX10 hown hE hP 0 rfl rfl 19 (by decide) q2 rfl dX10_ask_92 ?_
        refine lv_iload hx hb dX10_ask_95 (lv_at hl 5 rfl) ?_
        obtain ⟨hk25, h⟩ := chk_some h
        refine wi_iald hx hb hE hP 4 rfl (by decide) hk25 dX10_ask_97 ?_
        refine wi_iadd hx hb dX10_ask_98 ?_
        refine lv_dup2_11 hx hb dX10_ask_99 rfl rfl ?_
        obtain ⟨hk26, h⟩ := chk_some h
        refine wi_iald hx hb hE hP 5 rfl (by decide) hk26 dX10_ask_100 ?_
        refine wi_ic hx hb dX10_ask_101 ?_
        refine wi_iadd hx hb dX10_ask_102 ?_
        refine wi_iast (w2 := (wd_X10_ask cy a_v a_v_by a_v_now a_v_st a_v_told a_v_ways a_v_isKept a_v_draft a_v_placedRow a_v_tape a_v_bestRow a_v_lanes a_v_sizes a_v_cells a_v_before v_hasOrder v_hasStart v_placed v_placedMany v_highest v_taped v_pos v_begun v_sort v_value v_fault v_wrongAt v_rightSum v_wrongSum v_allWays v_torn v_by v_now v_st v_told (upZ v_ways ((24 * x5) + (v_told (x5).toNat)).toNat ((v_ways ((24 * x5) + (v_told (x5).toNat)).toNat) + 1)))) hx hb hE hP hDD rfl hS 5 rfl (by decide) hk26 dX10_ask_103 rfl (fun H locs hP hS => ?_)
        refine wi_iinc (k := 5) (lv' := [(5, .int (zI (x5 + 1))), (0, .ref a_v), (1, .int (zI x1)), (2, .int (zI x2)), (3, .int (zI x3)), (4, .int (zI x4))]) hx hb dX10_ask_104 hl rfl (by decide) rfl (fun ls hl => ?_)
        refine lv_goto (tgt := 75) hx hb dX10_ask_107 (by decide) ?_
        exact ih v_by v_now v_told (upZ v_ways ((24 * x5) + (v_told (x5).toNat)).toNat ((v_ways ((24 * x5) + (v_told (x5).toNat)).toNat) + 1)) x1 x2 x3 x4 (x5 + 1) _ _ _ _ hP hS (lv_sub hl [1, 2, 3, 4, 5, 0] rfl) h K
  have L46 : ∀ (fuel : Nat) (v_by : Nat → Int) (v_now : Nat → Int) (v_told : Nat → Int) (v_ways : Nat → Int) (x1 : Int) (x2 : Int) (x3 : Int) (x4 : Int) (H : Heap) (locs : List Loc) (ls : Array Slot) (ex : Int × (Nat → Int) × (Nat → Int) × (Nat → Int) × (Nat → Int)), va_P D vwCl (wd_X10_ask cy a_v a_v_by a_v_now a_v_st a_v_told a_v_ways a_v_isKept a_v_draft a_v_placedRow a_v_tape a_v_bestRow a_v_lanes a_v_sizes a_v_cells a_v_before v_hasOrder v_hasStart v_placed v_placedMany v_highest v_taped v_pos v_begun v_sort v_value v_fault v_wrongAt v_rightSum v_wrongSum v_allWays v_torn v_by v_now v_st v_told v_ways) H → va_S A s.heap H locs → lv_has ls 7 [(0, .ref a_v), (1, .int (zI x1)), (2, .int (zI x2)), (3, .int (zI x3)), (4, .int (zI x4))] → f_M_ask_L46 fuel v_by v_now v_st v_told v_ways x2 x4 = some ex → (∀ (H : Heap) (locs : List Loc) (ls : Array Slot), va_P D vwCl (wd_X10_ask cy a_v a_v_by a_v_now a_v_st a_v_told a_v_ways a_v_isKept a_v_draft a_v_placedRow a_v_tape a_v_bestRow a_v_lanes a_v_sizes a_v_cells a_v_before v_hasOrder v_hasStart v_placed v_placedMany v_highest v_taped v_pos v_begun v_sort v_value v_fault v_wrongAt v_rightSum v_wrongSum v_allWays v_torn ex.2.1 ex.2.2.1 v_st ex.2.2.2.1 ex.2.2.2.2) H → va_S A s.heap H locs → lv_has ls 7 [(0, .ref a_v), (1, .int (zI x1)), (2, .int (zI ex.1)), (3, .int (zI x3))] → W p l e { frames := 5, cells := 0, slots := 0, locals := 114 } s m args below meth c H locs 0 0 QQ (F0 m 116 ls [])) → W p l e { frames := 5, cells := 0, slots := 0, locals := 114 } s m args below meth c H locs 0 0 QQ (F0 m 46 ls []) := by
    intro fuel
    induction fuel with
    | zero => intro _ _ _ _ _ _ _ _ H locs ls ex hP hS hl h K; cases h
    | succ fuel ih =>
      intro v_by v_now v_told v_ways x1 x2 x3 x4 H locs ls ex hP hS hl h K
      refine lv_iload hx hb dX10_ask_46 (lv_at hl 4 rfl) ?_
      refine wi_bi hx hb dX10_ask_48 (by decide) ?_
      obtain ⟨hr14, h⟩ := chk_some h
      refine wi_ic_ge (tgt := 116) hx hb dX10_ask_50 (by decide) hr14 (by decide) (fun c16 => ?_) (fun c16 => ?_)
      · have h := ite_t c16 h
        obtain rfl := Option.some.inj h
        exact K _ _ _ hP hS (lv_sub hl [0, 1, 2, 3] rfl)
      · have h := ite_f c16 h
        refine lv_aload_n hx hb dX10_ask_53 rfl (lv_at hl 0 rfl) ?_
        refine wi_get (v := .ref a_v_now) hx hb hts iX10 hown hE hP 0 rfl rfl 1 (by decide) q1 rfl dX10_ask_54 ?_
        refine wi_bi hx hb dX10_ask_57 (by decide) ?_
        refine lv_iload hx hb dX10_ask_59 (lv_at hl 4 rfl) ?_
        refine wi_iast (w2 := (wd_X10_ask cy a_v a_v_by a_v_now a_v_st a_v_told a_v_ways a_v_isKept a_v_draft a_v_placedRow a_v_tape a_v_bestRow a_v_lanes a_v_sizes a_v_cells a_v_before v_hasOrder v_hasStart v_placed v_placedMany v_highest v_taped v_pos v_begun v_sort v_value v_fault v_wrongAt v_rightSum v_wrongSum v_allWays v_torn v_by (upZ v_now 36 x4) v_st v_told v_ways)) hx hb hE hP hDD rfl hS 2 rfl (by decide) (by decide) dX10_ask_61 rfl (fun H locs hP hS => ?_)
        refine lv_aload_n hx hb dX10_ask_62 rfl (lv_at hl 0 rfl) ?_
        obtain ⟨o17, hc18, h⟩ := bnd_some h
        refine cV_i (rest := []) (w2 := (wd_X10_ask cy a_v a_v_by a_v_now a_v_st a_v_told a_v_ways a_v_isKept a_v_draft a_v_placedRow a_v_tape a_v_bestRow a_v_lanes a_v_sizes a_v_cells a_v_before v_hasOrder v_hasStart v_placed v_placedMany v_highest v_taped v_pos v_begun v_sort v_value v_fault v_wrongAt v_rightSum v_wrongSum v_allWays v_torn o17.2.1 (upZ v_now 36 x4) v_st o17.2.2 v_ways)) ⟨hx, hb, hml, hown, hts⟩ (c_X10_isSo l D cy sa a_v a_v_by a_v_now a_v_st a_v_told a_v_isKept a_v_draft a_v_placedRow a_v_tape a_v_bestRow a_v_ways a_v_lanes a_v_sizes a_v_cells a_v_before v_hasOrder v_hasStart v_placed v_placedMany v_highest v_taped v_pos v_begun v_sort v_value v_fault v_wrongAt v_rightSum v_wrongSum v_allWays v_torn v_by (upZ v_now 36 x4) v_st v_told o17 hc18) (cwV 0 hts gX10_ask_X10_isSo rfl rfl rfl (by decide +kernel) ⟨Nat.le_of_ble_eq_true rfl, Nat.le_of_ble_eq_true rfl⟩) rfl rfl rfl hE hP hDD rfl hS [0, 1, 2, 3, 4] rfl rfl rfl rfl hl.1 (Nat.le_of_ble_eq_true rfl) ⟨Nat.zero_le _, Nat.zero_le _⟩ rfl dX10_ask_63 rfl (fun H locs hP hS => ?_)
        obtain ⟨hr19, h⟩ := chk_some h
        refine wi_if_eq (tgt := 110) hx hb dX10_ask_66 (by decide) hr19 (fun c21 => ?_) (fun c21 => ?_)
        · have h := ite_t c21 h
          refine wi_iinc (k := 4) (lv' := [(4, .int (zI (x4 + 1))), (0, .ref a_v), (1, .int (zI x1)), (2, .int (zI x2)), (3, .int (zI x3))]) hx hb dX10_ask_110 hl rfl (by decide) rfl (fun ls hl => ?_)
          refine lv_goto (tgt := 46) hx hb dX10_ask_113 (by decide) ?_
          exact ih o17.2.1 (upZ v_now 36 x4) o17.2.2 v_ways x1 x2 x3 (x4 + 1) _ _ _ _ hP hS (lv_sub hl [1, 2, 3, 4, 0] rfl) h K
        · have h := ite_f c21 h
          refine wi_iinc (k := 2) (lv' := [(2, .int (zI (x2 + 1))), (0, .ref a_v), (1, .int (zI x1)), (3, .int (zI x3)), (4, .int (zI x4))]) hx hb dX10_ask_69 hl rfl (by decide) rfl (fun ls hl => ?_)
          refine wi_ic hx hb dX10_ask_72 ?_
          refine lv_istore (lv' := [(5, .int (zI 0)), (2, .int (zI (x2 + 1))), (0, .ref a_v), (1, .int (zI x1)), (3, .int (zI x3)), (4, .int (zI x4))]) hx hb dX10_ask_73 hl (by decide) rfl (fun ls hl => ?_)
          obtain ⟨o27, hx28, h⟩ := bnd_some h
          refine L75 5000 o17.2.1 (upZ v_now 36 x4) o17.2.2 v_ways x1 (x2 + 1) x3 x4 0 _ _ _ _ hP hS (lv_sub hl [2, 3, 1, 4, 5, 0] rfl) hx28 ?_
          clear hx28
          intro H locs ls hP hS hl
          refine wi_iinc (k := 4) (lv' := [(4, .int (zI (x4 + 1))), (0, .ref a_v), (1, .int (zI x1)), (2, .int (zI (x2 + 1))), (3, .int (zI x3))]) hx hb dX10_ask_110 hl rfl (by decide) rfl (fun ls hl => ?_)
          refine lv_goto (tgt := 46) hx hb dX10_ask_113 (by decide) ?_
          exact ih o17.2.1 (upZ v_now 36 x4) o17.2.2 o27 x1 (x2 + 1) x3 (x4 + 1) _ _ _ _ hP hS (lv_sub hl [1, 2, 3, 4, 0] rfl) h K
  have L132 : ∀ (fuel : Nat) (v_by : Nat → Int) (v_now : Nat → Int) (v_told : Nat → Int) (v_ways : Nat → Int) (x1 : Int) (x2 : Int) (x3 : Int) (x4 : Int) (x5 : Int) (x6 : Int) (H : Heap) (locs : List Loc) (ls : Array Slot) (ex : Int), va_P D vwCl (wd_X10_ask cy a_v a_v_by a_v_now a_v_st a_v_told a_v_ways a_v_isKept a_v_draft a_v_placedRow a_v_tape a_v_bestRow a_v_lanes a_v_sizes a_v_cells a_v_before v_hasOrder v_hasStart v_placed v_placedMany v_highest v_taped v_pos v_begun v_sort v_value v_fault v_wrongAt v_rightSum v_wrongSum v_allWays v_torn v_by v_now v_st v_told v_ways) H → va_S A s.heap H locs → lv_has ls 7 [(0, .ref a_v), (1, .int (zI x1)), (2, .int (zI x2)), (3, .int (zI x3)), (4, .int (zI x4)), (5, .int (zI x5)), (6, .int (zI x6))] → f_M_ask_L132 fuel v_ways x4 x5 x6 = some ex → (∀ (H : Heap) (locs : List Loc) (ls : Array Slot), va_P D vwCl (wd_X10_ask cy a_v a_v_by a_v_now a_v_st a_v_told a_v_ways a_v_isKept a_v_draft a_v_placedRow a_v_tape a_v_bestRow a_v_lanes a_v_sizes a_v_cells a_v_before v_hasOrder v_hasStart v_placed v_placedMany v_highest v_taped v_pos v_begun v_sort v_value v_fault v_wrongAt v_rightSum v_wrongSum v_allWays v_torn v_by v_now v_st v_told v_ways) H → va_S A s.heap H locs → lv_has ls 7 [(0, .ref a_v), (1, .int (zI x1)), (2, .int (zI x2)), (3, .int (zI x3)), (4, .int (zI x4)), (5, .int (zI ex))] → W p l e { frames := 5, cells := 0, slots := 0, locals := 114 } s m args below meth c H locs 0 0 QQ (F0 m 183 ls [])) → W p l e { frames := 5, cells := 0, slots := 0, locals := 114 } s m args below meth c H locs 0 0 QQ (F0 m 132 ls []) := by
    intro fuel
    induction fuel with
    | zero => intro _ _ _ _ _ _ _ _ _ _ H locs ls ex hP hS hl h K; cases h
    | succ fuel ih =>
      intro v_by v_now v_told v_ways x1 x2 x3 x4 x5 x6 H locs ls ex hP hS hl h K
      refine lv_iload hx hb dX10_ask_132 (lv_at hl 6 rfl) ?_
      refine wi_bi hx hb dX10_ask_134 (by decide) ?_
      obtain ⟨hr34, h⟩ := chk_some h
      refine wi_ic_ge (tgt := 183) hx hb dX10_ask_136 (by decide) hr34 (by decide) (fun c36 => ?_) (fun c36 => ?_)
      · have h := ite_t c36 h
        obtain rfl := Option.some.inj h
        exact K _ _ _ hP hS (lv_sub hl [0, 1, 2, 3, 4, 5] rfl)
      · have h := ite_f c36 h
        refine lv_aload_n hx hb dX10_ask_139 rfl (lv_at hl 0 rfl) ?_
        refine wi_get (v := .ref a_v_ways) hx hb hts iX10 hown hE hP 0 rfl rfl 24 (by decide) q0 rfl dX10_ask_140 ?_
        refine wi_bi hx hb dX10_ask_143 (by decide) ?_
        refine lv_iload hx hb dX10_ask_145 (lv_at hl 4 rfl) ?_
        refine wi_imul hx hb dX10_ask_147 ?_
        refine lv_iload hx hb dX10_ask_148 (lv_at hl 6 rfl) ?_
        refine wi_iadd hx hb dX10_ask_150 ?_
        obtain ⟨hk37, h⟩ := chk_some h
        refine wi_iald hx hb hE hP 5 rfl (by decide) hk37 dX10_ask_151 ?_
        refine lv_iload hx hb dX10_ask_152 (lv_at hl 5 rfl) ?_
        obtain ⟨hr38, h⟩ := chk_some h
        obtain ⟨hr39, h⟩ := chk_some h
        refine wi_ic_le (tgt := 173) hx hb dX10_ask_154 (by decide) hr38 hr39 (fun c41 => ?_) (fun c41 => ?_)
        · have h := ite_t c41 h
          refine lv_iload hx hb dX10_ask_173 (lv_at hl 5 rfl) ?_
          refine lv_istore (lv' := [(5, .int (zI x5)), (0, .ref a_v), (1, .int (zI x1)), (2, .int (zI x2)), (3, .int (zI x3)), (4, .int (zI x4)), (6, .int (zI x6))]) hx hb dX10_ask_175 hl (by decide) rfl (fun ls hl => ?_)
          refine wi_iinc (k := 6) (lv' := [(6, .int (zI (x6 + 1))), (5, .int (zI x5)), (0, .ref a_v), (1, .int (zI x1)), (2, .int (zI x2)), (3, .int (zI x3)), (4, .int (zI x4))]) hx hb dX10_ask_177 hl rfl (by decide) rfl (fun ls hl => ?_)
          refine lv_goto (tgt := 132) hx hb dX10_ask_180 (by decide) ?_
          exact ih v_by v_now v_told v_ways x1 x2 x3 x4 x5 (x6 + 1) _ _ _ _ hP hS (lv_sub hl [2, 3, 4, 5, 6, 1, 0] rfl) h K
        · have h := ite_f c41 h
          refine lv_aload_n hx hb dX10_ask_157 rfl (lv_at hl 0 rfl) ?_
          refine wi_get (v := .ref a_v_ways) hx hb hts iX10 hown hE hP 0 rfl rfl 24 (by decide) q0 rfl dX10_ask_158 ?_
          refine wi_bi hx hb dX10_ask_161 (by decide) ?_
          refine lv_iload hx hb dX10_ask_163 (lv_at hl 4 rfl) ?_
          refine wi_imul hx hb dX10_ask_165 ?_
          refine lv_iload hx hb dX10_ask_166 (lv_at hl 6 rfl) ?_
          refine wi_iadd hx hb dX10_ask_168 ?_
          refine wi_iald hx hb hE hP 5 rfl (by decide) hk37 dX10_ask_169 ?_
          refine lv_goto (tgt := 175) hx hb dX10_ask_170 (by decide) ?_
          refine lv_istore (lv' := [(5, .int (zI (v_ways ((24 * x4) + x6).toNat))), (0, .ref a_v), (1, .int (zI x1)), (2, .int (zI x2)), (3, .int (zI x3)), (4, .int (zI x4)), (6, .int (zI x6))]) hx hb dX10_ask_175 hl (by decide) rfl (fun ls hl => ?_)
          refine wi_iinc (k := 6) (lv' := [(6, .int (zI (x6 + 1))), (5, .int (zI (v_ways ((24 * x4) + x6).toNat))), (0, .ref a_v), (1, .int (zI x1)), (2, .int (zI x2)), (3, .int (zI x3)), (4, .int (zI x4))]) hx hb dX10_ask_177 hl rfl (by decide) rfl (fun ls hl => ?_)
          refine lv_goto (tgt := 132) hx hb dX10_ask_180 (by decide) ?_
          exact ih v_by v_now v_told v_ways x1 x2 x3 x4 (v_ways ((24 * x4) + x6).toNat) (x6 + 1) _ _ _ _ hP hS (lv_sub hl [2, 3, 4, 5, 6, 1, 0] rfl) h K
  have L119 : ∀ (fuel : Nat) (v_by : Nat → Int) (v_now : Nat → Int) (v_told : Nat → Int) (v_ways : Nat → Int) (x1 : Int) (x2 : Int) (x3 : Int) (x4 : Int) (H : Heap) (locs : List Loc) (ls : Array Slot) (ex : Int × Int), va_P D vwCl (wd_X10_ask cy a_v a_v_by a_v_now a_v_st a_v_told a_v_ways a_v_isKept a_v_draft a_v_placedRow a_v_tape a_v_bestRow a_v_lanes a_v_sizes a_v_cells a_v_before v_hasOrder v_hasStart v_placed v_placedMany v_highest v_taped v_pos v_begun v_sort v_value v_fault v_wrongAt v_rightSum v_wrongSum v_allWays v_torn v_by v_now v_st v_told v_ways) H → va_S A s.heap H locs → lv_has ls 7 [(0, .ref a_v), (1, .int (zI x1)), (2, .int (zI x2)), (3, .int (zI x3)), (4, .int (zI x4))] → f_M_ask_L119 fuel v_ways x2 x3 x4 = some ex → (∀ (H : Heap) (locs : List Loc) (ls : Array Slot), va_P D vwCl (wd_X10_ask cy a_v a_v_by a_v_now a_v_st a_v_told a_v_ways a_v_isKept a_v_draft a_v_placedRow a_v_tape a_v_bestRow a_v_lanes a_v_sizes a_v_cells a_v_before v_hasOrder v_hasStart v_placed v_placedMany v_highest v_taped v_pos v_begun v_sort v_value v_fault v_wrongAt v_rightSum v_wrongSum v_allWays v_torn v_by v_now v_st v_told v_ways) H → va_S A s.heap H locs → lv_has ls 7 [(1, .int (zI x1)), (2, .int (zI ex.1)), (3, .int (zI ex.2))] → W p l e { frames := 5, cells := 0, slots := 0, locals := 114 } s m args below meth c H locs 0 0 QQ (F0 m 209 ls [])) → W p l e { frames := 5, cells := 0, slots := 0, locals := 114 } s m args below meth c H locs 0 0 QQ (F0 m 119 ls []) := by
    intro fuel
    induction fuel with
    | zero => intro _ _ _ _ _ _ _ _ H locs ls ex hP hS hl h K; cases h
    | succ fuel ih =>
      intro v_by v_now v_told v_ways x1 x2 x3 x4 H locs ls ex hP hS hl h K
      refine lv_iload hx hb dX10_ask_119 (lv_at hl 4 rfl) ?_
      refine wi_bi hx hb dX10_ask_121 (by decide) ?_
      obtain ⟨hr31, h⟩ := chk_some h
      refine wi_ic_ge (tgt := 209) hx hb dX10_ask_123 (by decide) hr31 (by decide) (fun c33 => ?_) (fun c33 => ?_)
      · have h := ite_t c33 h
        obtain rfl := Option.some.inj h
        exact K _ _ _ hP hS (lv_sub hl [1, 2, 3] rfl)
      · have h := ite_f c33 h
        refine wi_ic hx hb dX10_ask_126 ?_
        refine lv_istore (lv' := [(5, .int (zI 0)), (0, .ref a_v), (1, .int (zI x1)), (2, .int (zI x2)), (3, .int (zI x3)), (4, .int (zI x4))]) hx hb dX10_ask_127 hl (by decide) rfl (fun ls hl => ?_)
        refine wi_ic hx hb dX10_ask_129 ?_
        refine lv_istore (lv' := [(6, .int (zI 0)), (5, .int (zI 0)), (0, .ref a_v), (1, .int (zI x1)), (2, .int (zI x2)), (3, .int (zI x3)), (4, .int (zI x4))]) hx hb dX10_ask_130 hl (by decide) rfl (fun ls hl => ?_)
        obtain ⟨o42, hx43, h⟩ := bnd_some h
        refine L132 5000 v_by v_now v_told v_ways x1 x2 x3 x4 0 0 _ _ _ _ hP hS (lv_sub hl [2, 3, 4, 5, 6, 1, 0] rfl) hx43 ?_
        clear hx43
        intro H locs ls hP hS hl
        refine lv_iload hx hb dX10_ask_183 (lv_at hl 5 rfl) ?_
        refine lv_iload_n hx hb dX10_ask_185 rfl (lv_at hl 2 rfl) ?_
        obtain ⟨hr44, h⟩ := chk_some h
        obtain ⟨hr45, h⟩ := chk_some h
        obtain ⟨o46, hx47, h⟩ := bnd_some h
        have J48 : ∀ (H : Heap) (locs : List Loc) (ls : Array Slot), va_P D vwCl (wd_X10_ask cy a_v a_v_by a_v_now a_v_st a_v_told a_v_ways a_v_isKept a_v_draft a_v_placedRow a_v_tape a_v_bestRow a_v_lanes a_v_sizes a_v_cells a_v_before v_hasOrder v_hasStart v_placed v_placedMany v_highest v_taped v_pos v_begun v_sort v_value v_fault v_wrongAt v_rightSum v_wrongSum v_allWays v_torn v_by v_now v_st v_told v_ways) H → va_S A s.heap H locs → lv_has ls 7 [(0, .ref a_v), (1, .int (zI x1)), (2, .int (zI x2)), (4, .int (zI x4)), (5, .int (zI o42))] → W p l e { frames := 5, cells := 0, slots := 0, locals := 114 } s m args below meth c H locs 0 0 QQ (F0 m 195 ls [.int (zI o46)]) := by
          intro H locs ls hP hS hl
          refine lv_istore_n (lv' := [(3, .int (zI o46)), (0, .ref a_v), (1, .int (zI x1)), (2, .int (zI x2)), (4, .int (zI x4)), (5, .int (zI o42))]) hx hb dX10_ask_195 rfl hl (by decide) rfl (fun ls hl => ?_)
          refine lv_iload hx hb dX10_ask_196 (lv_at hl 5 rfl) ?_
          refine lv_iload_n hx hb dX10_ask_198 rfl (lv_at hl 3 rfl) ?_
          obtain ⟨o49, hc50, h⟩ := bnd_some h
          refine cS_i (rest := []) (w2 := (wd_X10_ask cy a_v a_v_by a_v_now a_v_st a_v_told a_v_ways a_v_isKept a_v_draft a_v_placedRow a_v_tape a_v_bestRow a_v_lanes a_v_sizes a_v_cells a_v_before v_hasOrder v_hasStart v_placed v_placedMany v_highest v_taped v_pos v_begun v_sort v_value v_fault v_wrongAt v_rightSum v_wrongSum v_allWays v_torn v_by v_now v_st v_told v_ways)) ⟨hx, hb, hml, hown, hts⟩ (c_X10_lesser l D cy sa o42 x2 o49 hc50) (va_cwS 2 hts gX10_ask_X10_lesser rfl rfl rfl (by decide +kernel) ⟨Nat.le_of_ble_eq_true rfl, Nat.le_of_ble_eq_true rfl⟩) hE hP hDD rfl hS [] rfl rfl rfl rfl hl.1 (Nat.le_of_ble_eq_true rfl) ⟨Nat.zero_le _, Nat.zero_le _⟩ rfl dX10_ask_199 rfl (fun H locs hP hS => ?_)
          refine lv_istore_n (lv' := [(2, .int (zI o49)), (3, .int (zI o46)), (0, .ref a_v), (1, .int (zI x1)), (4, .int (zI x4)), (5, .int (zI o42))]) hx hb dX10_ask_202 rfl hl (by decide) rfl (fun ls hl => ?_)
          refine wi_iinc (k := 4) (lv' := [(4, .int (zI (x4 + 1))), (2, .int (zI o49)), (3, .int (zI o46)), (0, .ref a_v), (1, .int (zI x1)), (5, .int (zI o42))]) hx hb dX10_ask_203 hl rfl (by decide) rfl (fun ls hl => ?_)
          refine lv_goto (tgt := 119) hx hb dX10_ask_206 (by decide) ?_
          exact ih v_by v_now v_told v_ways x1 o49 o46 (x4 + 1) _ _ _ _ hP hS (lv_sub hl [3, 4, 1, 2, 0] rfl) h K
        clear h
        have h := hx47
        clear hx47
        refine wi_ic_ge (tgt := 194) hx hb dX10_ask_186 (by decide) hr44 hr45 (fun c51 => ?_) (fun c51 => ?_)
        · have h := ite_t c51 h
          refine lv_iload_n hx hb dX10_ask_194 rfl (lv_at hl 3 rfl) ?_
          obtain rfl := Option.some.inj h
          exact J48 _ _ _ hP hS (lv_sub hl [0, 1, 2, 4, 5] rfl)
        · have h := ite_f c51 h
          refine lv_iload hx hb dX10_ask_189 (lv_at hl 4 rfl) ?_
          refine lv_goto (tgt := 195) hx hb dX10_ask_191 (by decide) ?_
          obtain rfl := Option.some.inj h
          exact J48 _ _ _ hP hS (lv_sub hl [0, 1, 2, 4, 5] rfl)
  refine lv_iload_n hx hb dX10_ask_0 rfl (lv_at hl 1 rfl) ?_
  obtain ⟨o1, hc2, h⟩ := bnd_some h
  refine cS_i (rest := []) (w2 := (wd_X10_ask cy a_v a_v_by a_v_now a_v_st a_v_told a_v_ways a_v_isKept a_v_draft a_v_placedRow a_v_tape a_v_bestRow a_v_lanes a_v_sizes a_v_cells a_v_before v_hasOrder v_hasStart v_placed v_placedMany v_highest v_taped v_pos v_begun v_sort v_value v_fault v_wrongAt v_rightSum v_wrongSum v_allWays v_torn v_by v_now v_st v_told v_ways)) ⟨hx, hb, hml, hown, hts⟩ (c_X10_isPart l D cy sa x1 o1 hc2) (va_cwS 1 hts gX10_ask_X10_isPart rfl rfl rfl (by decide +kernel) ⟨Nat.le_of_ble_eq_true rfl, Nat.le_of_ble_eq_true rfl⟩) hE hP hDD rfl hS [] rfl rfl rfl rfl hl.1 (Nat.le_of_ble_eq_true rfl) ⟨Nat.zero_le _, Nat.zero_le _⟩ rfl dX10_ask_1 rfl (fun H locs hP hS => ?_)
  obtain ⟨hr3, h⟩ := chk_some h
  refine wi_if_ne (tgt := 9) hx hb dX10_ask_4 (by decide) hr3 (fun c5 => ?_) (fun c5 => ?_)
  · have h := ite_f c5 h
    refine wi_ic hx hb dX10_ask_9 ?_
    refine lv_istore_n (lv' := [(2, .int (zI 0)), (0, .ref a_v), (1, .int (zI x1))]) hx hb dX10_ask_10 rfl hl (by decide) rfl (fun ls hl => ?_)
    refine wi_bi hx hb dX10_ask_11 (by decide) ?_
    refine lv_istore_n (lv' := [(3, .int (zI (-4))), (2, .int (zI 0)), (0, .ref a_v), (1, .int (zI x1))]) hx hb dX10_ask_13 rfl hl (by decide) rfl (fun ls hl => ?_)
    refine wi_ic hx hb dX10_ask_14 ?_
    refine lv_istore (lv' := [(4, .int (zI 0)), (3, .int (zI (-4))), (2, .int (zI 0)), (0, .ref a_v), (1, .int (zI x1))]) hx hb dX10_ask_15 hl (by decide) rfl (fun ls hl => ?_)
    obtain ⟨o10, hx11, h⟩ := bnd_some h
    refine L17 5000 v_by v_now v_told v_ways x1 0 (-4) 0 _ _ _ _ hP hS (lv_sub hl [3, 4, 2, 1, 0] rfl) hx11 ?_
    clear hx11
    intro H locs ls hP hS hl
    refine lv_aload_n hx hb dX10_ask_39 rfl (lv_at hl 0 rfl) ?_
    obtain ⟨o12, hc13, h⟩ := bnd_some h
    refine cV_v (rest := []) (w2 := (wd_X10_ask cy a_v a_v_by a_v_now a_v_st a_v_told a_v_ways a_v_isKept a_v_draft a_v_placedRow a_v_tape a_v_bestRow a_v_lanes a_v_sizes a_v_cells a_v_before v_hasOrder v_hasStart v_placed v_placedMany v_highest v_taped v_pos v_begun v_sort v_value v_fault v_wrongAt v_rightSum v_wrongSum v_allWays v_torn v_by o12 v_st v_told o10)) ⟨hx, hb, hml, hown, hts⟩ (c_X10_fetches l D cy sa a_v a_v_now a_v_st a_v_isKept a_v_draft a_v_placedRow a_v_tape a_v_by a_v_told a_v_bestRow a_v_ways a_v_lanes a_v_sizes a_v_cells a_v_before v_hasOrder v_hasStart v_placed v_placedMany v_highest v_taped v_pos v_begun v_sort v_value v_fault v_wrongAt v_rightSum v_wrongSum v_allWays v_torn v_now v_st o12 hc13) (cwV 0 hts gX10_ask_X10_fetches rfl rfl rfl (by decide +kernel) ⟨Nat.le_of_ble_eq_true rfl, Nat.le_of_ble_eq_true rfl⟩) rfl rfl rfl hE hP hDD rfl hS [0, 2, 3] rfl rfl rfl rfl hl.1 (Nat.le_of_ble_eq_true rfl) ⟨Nat.zero_le _, Nat.zero_le _⟩ rfl dX10_ask_40 rfl (fun H locs hP hS => ?_)
    refine wi_ic hx hb dX10_ask_43 ?_
    refine lv_istore (lv' := [(4, .int (zI 0)), (0, .ref a_v), (1, .int (zI x1)), (2, .int (zI 0)), (3, .int (zI (-4)))]) hx hb dX10_ask_44 hl (by decide) rfl (fun ls hl => ?_)
    obtain ⟨o29, hx30, h⟩ := bnd_some h
    refine L46 5000 v_by o12 v_told o10 x1 0 (-4) 0 _ _ _ _ hP hS (lv_sub hl [1, 2, 3, 4, 0] rfl) hx30 ?_
    clear hx30
    intro H locs ls hP hS hl
    refine wi_ic hx hb dX10_ask_116 ?_
    refine lv_istore (lv' := [(4, .int (zI 0)), (0, .ref a_v), (1, .int (zI x1)), (2, .int (zI o29.1)), (3, .int (zI (-4)))]) hx hb dX10_ask_117 hl (by decide) rfl (fun ls hl => ?_)
    obtain ⟨o52, hx53, h⟩ := bnd_some h
    refine L119 5000 o29.2.1 o29.2.2.1 o29.2.2.2.1 o29.2.2.2.2 x1 o29.1 (-4) 0 _ _ _ _ hP hS (lv_sub hl [1, 2, 3, 4, 0] rfl) hx53 ?_
    clear hx53
    intro H locs ls hP hS hl
    refine lv_iload_n hx hb dX10_ask_209 rfl (lv_at hl 2 rfl) ?_
    refine wi_bi hx hb dX10_ask_210 (by decide) ?_
    obtain ⟨hr54, h⟩ := chk_some h
    refine wi_ic_ne (tgt := 220) hx hb dX10_ask_212 (by decide) hr54 (by decide) (fun c56 => ?_) (fun c56 => ?_)
    · have h := ite_f c56 h
      refine lv_iload_n hx hb dX10_ask_220 rfl (lv_at hl 0 rfl) ?_
      obtain ⟨hr57, h⟩ := chk_some h
      refine wi_if_ne (tgt := 239) hx hb dX10_ask_221 (by decide) hr57 (fun c59 => ?_) (fun c59 => ?_)
      · have h := ite_f c59 h
        refine lv_iload_n hx hb dX10_ask_239 rfl (lv_at hl 1 rfl) ?_
        obtain rfl := Option.some.inj h
        exact KR _ _ _ _ hP hS dX10_ask_240
      · have h := ite_t c59 h
        refine wi_bi hx hb dX10_ask_224 (by decide) ?_
        refine lv_iload_n hx hb dX10_ask_226 rfl (lv_at hl 2 rfl) ?_
        refine wi_bi hx hb dX10_ask_227 (by decide) ?_
        obtain ⟨hk60, h⟩ := chk_some h
        refine wi_idiv hx hb dX10_ask_229 ⟨hk60, by decide⟩ ?_
        refine wi_imul hx hb dX10_ask_230 ?_
        refine lv_iload_n hx hb dX10_ask_231 rfl (lv_at hl 2 rfl) ?_
        refine wi_bi hx hb dX10_ask_232 (by decide) ?_
        refine wi_irem hx hb dX10_ask_234 ⟨hk60, by decide⟩ ?_
        refine wi_iadd hx hb dX10_ask_235 ?_
        refine lv_goto (tgt := 240) hx hb dX10_ask_236 (by decide) ?_
        obtain rfl := Option.some.inj h
        exact KR _ _ _ _ hP hS dX10_ask_240
    · have h := ite_t c56 h
      refine wi_bi hx hb dX10_ask_215 (by decide) ?_
      refine lv_goto (tgt := 240) hx hb dX10_ask_217 (by decide) ?_
      obtain rfl := Option.some.inj h
      exact KR _ _ _ _ hP hS dX10_ask_240
  · have h := ite_t c5 h
    refine wi_ic hx hb dX10_ask_7 ?_
    obtain rfl := Option.some.inj h
    exact KR _ _ _ _ hP hS dX10_ask_8
