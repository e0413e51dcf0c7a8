abbrev wd_X10_lasts (cy : Nat → ClassId) (a_v : Nat) (a_v_now : Nat) (a_v_st : Nat) (a_v_isKept : Nat) (a_v_draft : Nat) (a_v_placedRow : Nat) (a_v_tape : Nat) (a_v_by : Nat) (a_v_told : Nat) (a_v_bestRow : Nat) (a_v_ways : Nat) (a_v_lanes : Nat) (a_v_sizes : Nat) (a_v_cells : Nat) (a_v_before : Nat) (v_hasOrder : Int) (v_hasStart : Int) (v_placed : Int) (v_placedMany : Int) (v_highest : Int) (v_taped : Int) (v_pos : Int) (v_begun : Int) (v_sort : Int) (v_value : Int) (v_fault : Int) (v_wrongAt : Int) (v_rightSum : Int) (v_wrongSum : Int) (v_allWays : Int) (v_torn : Int) (v_now : Nat → Int) : va_W := [(a_v, .inr (10, [.ref a_v_st, .ref a_v_now, .ref a_v_isKept, .ref a_v_draft, .int (zI v_hasOrder), .int (zI v_hasStart), .int (zI v_placed), .int (zI v_placedMany), .ref a_v_placedRow, .int (zI v_highest), .ref a_v_tape, .int (zI v_taped), .int (zI v_pos), .int (zI v_begun), .int (zI v_sort), .int (zI v_value), .int (zI v_fault), .int (zI v_wrongAt), .ref a_v_by, .ref a_v_told, .ref a_v_bestRow, .long (zL v_rightSum), .long (zL v_wrongSum), .long (zL v_allWays), .ref a_v_ways, .ref a_v_lanes, .ref a_v_sizes, .ref a_v_cells, .int (zI v_torn), .ref a_v_before])), (a_v_now, .inl (cy 0, 56, .inl (fun j => zI (v_now j))))]
set_option maxHeartbeats 4000000 in
set_option maxRecDepth 100000 in
theorem c_X10_lasts (l : Launch) (D : va_G) (cy : Nat → ClassId) (sa : Nat → Nat) (a_v : Nat) (a_v_now : Nat) (a_v_st : Nat) (a_v_isKept : Nat) (a_v_draft : Nat) (a_v_placedRow : Nat) (a_v_tape : Nat) (a_v_by : Nat) (a_v_told : Nat) (a_v_bestRow : Nat) (a_v_ways : Nat) (a_v_lanes : Nat) (a_v_sizes : Nat) (a_v_cells : Nat) (a_v_before : Nat) (v_hasOrder : Int) (v_hasStart : Int) (v_placed : Int) (v_placedMany : Int) (v_highest : Int) (v_taped : Int) (v_pos : Int) (v_begun : Int) (v_sort : Int) (v_value : Int) (v_fault : Int) (v_wrongAt : Int) (v_rightSum : Int) (v_wrongSum : Int) (v_allWays : Int) (v_torn : Int) (v_now : Nat → Int) (x1 : Int) (o : Int) (h : f_M_lasts v_now x1 = some o) : CtI l yX10_lasts wsX10_lasts ({ frames := 1, cells := 0, slots := 0, locals := 22 }) D cy sa [.ref a_v, .int (zI x1)] (wd_X10_lasts cy a_v a_v_now a_v_st a_v_isKept a_v_draft a_v_placedRow a_v_tape a_v_by a_v_told a_v_bestRow a_v_ways a_v_lanes a_v_sizes a_v_cells a_v_before v_hasOrder v_hasStart v_placed v_placedMany v_highest v_taped v_pos v_begun v_sort v_value v_fault v_wrongAt v_rightSum v_wrongSum v_allWays v_torn v_now) (wd_X10_lasts cy a_v a_v_now a_v_st a_v_isKept a_v_draft a_v_placedRow a_v_tape a_v_by a_v_told a_v_bestRow a_v_ways a_v_lanes a_v_sizes a_v_cells a_v_before v_hasOrder v_hasStart v_placed v_placedMany v_highest v_taped v_pos v_begun v_sort v_value v_fault v_wrongAt v_rightSum v_wrongSum v_allWays v_torn v_now) o := by
  refine ct_I (cc := cX10_lasts) (maxL := 3) (plainFor_of_name (by decide)) rfl (Nat.le_of_ble_eq_true rfl) ?_
  intro p e s m below meth c A args QQ hx hb hml hown hts hE hDD hP KR ls hl
  have hl : lv_has ls 3 [(0, .ref a_v), (1, .int (zI x1))] := hl
  have hDD : DD A [a_v, a_v_now] := hDD
  have hS : va_S A s.heap s.heap [] := va_S.rf
  refine lv_aload_n hx hb dX10_lasts_0 rfl (lv_at hl 0 rfl) ?_
  refine lv_iload_n hx hb dX10_lasts_1 rfl (lv_at hl 1 rfl) ?_
  refine wi_ic hx hb dX10_lasts_2 ?_
  obtain ⟨o1, hc2, h⟩ := bnd_some h
  refine cV_i (rest := []) (w2 := (wd_X10_lasts cy a_v a_v_now a_v_st a_v_isKept a_v_draft a_v_placedRow a_v_tape a_v_by a_v_told a_v_bestRow a_v_ways a_v_lanes a_v_sizes a_v_cells a_v_before v_hasOrder v_hasStart v_placed v_placedMany v_highest v_taped v_pos v_begun v_sort v_value v_fault v_wrongAt v_rightSum v_wrongSum v_allWays v_torn v_now)) ⟨hx, hb, hml, hown, hts⟩ (c_X10_of l D cy sa a_v a_v_now a_v_st a_v_isKept a_v_draft a_v_placedRow a_v_tape a_v_by a_v_told a_v_bestRow a_v_ways a_v_lanes a_v_sizes a_v_cells a_v_before v_hasOrder v_hasStart v_placed v_placedMany v_highest v_taped v_pos v_begun v_sort v_value v_fault v_wrongAt v_rightSum v_wrongSum v_allWays v_torn v_now x1 0 o1 hc2) (cwV 2 hts gX10_lasts_X10_of rfl rfl rfl (by decide +kernel) ⟨Nat.le_of_ble_eq_true rfl, Nat.le_of_ble_eq_true rfl⟩) rfl rfl rfl hE hP hDD rfl hS [0, 1] rfl rfl rfl rfl hl.1 (Nat.le_of_ble_eq_true rfl) ⟨Nat.zero_le _, Nat.zero_le _⟩ rfl dX10_lasts_3 rfl (fun H locs hP hS => ?_)
  refine lv_istore_n (lv' := [(2, .int (zI o1)), (0, .ref a_v), (1, .int (zI x1))]) hx hb dX10_lasts_6 rfl hl (by decide) rfl (fun ls hl => ?_)
  refine lv_iload_n hx hb dX10_lasts_7 rfl (lv_at hl 0 rfl) ?_
  refine wi_ic hx hb dX10_lasts_8 ?_
  obtain ⟨hr3, h⟩ := chk_some h
  refine wi_ic_ne (tgt := 16) hx hb dX10_lasts_9 (by decide) hr3 (by decide) (fun c5 => ?_) (fun c5 => ?_)
  · have h := ite_f c5 h
    refine lv_iload_n hx hb dX10_lasts_16 rfl (lv_at hl 0 rfl) ?_
    refine wi_ic hx hb dX10_lasts_17 ?_
    refine wi_ic_ne (tgt := 25) hx hb dX10_lasts_18 (by decide) hr3 (by decide) (fun c7 => ?_) (fun c7 => ?_)
    · have h := ite_f c7 h
      refine lv_iload_n hx hb dX10_lasts_25 rfl (lv_at hl 0 rfl) ?_
      refine wi_ic hx hb dX10_lasts_26 ?_
      refine wi_ic_ne (tgt := 35) hx hb dX10_lasts_27 (by decide) hr3 (by decide) (fun c9 => ?_) (fun c9 => ?_)
      · have h := ite_f c9 h
        refine wi_ic hx hb dX10_lasts_35 ?_
        obtain rfl := Option.some.inj h
        exact KR _ _ _ _ hP hS dX10_lasts_36
      · have h := ite_t c9 h
        refine wi_bi hx hb dX10_lasts_30 (by decide) ?_
        refine lv_goto (tgt := 36) hx hb dX10_lasts_32 (by decide) ?_
        obtain rfl := Option.some.inj h
        exact KR _ _ _ _ hP hS dX10_lasts_36
    · have h := ite_t c7 h
      refine wi_ic hx hb dX10_lasts_21 ?_
      refine lv_goto (tgt := 36) hx hb dX10_lasts_22 (by decide) ?_
      obtain rfl := Option.some.inj h
      exact KR _ _ _ _ hP hS dX10_lasts_36
  · have h := ite_t c5 h
    refine wi_ic hx hb dX10_lasts_12 ?_
    refine lv_goto (tgt := 36) hx hb dX10_lasts_13 (by decide) ?_
    obtain rfl := Option.some.inj h
    exact KR _ _ _ _ hP hS dX10_lasts_36
abbrev wd_X10_doneIn (cy : Nat → ClassId) (a_v : Nat) (a_v_now : Nat) (a_v_st : Nat) (a_v_isKept : Nat) (a_v_draft : Nat) (a_v_placedRow : Nat) (a_v_tape : Nat) (a_v_by : Nat) (a_v_told : Nat) (a_v_bestRow : Nat) (a_v_ways : Nat) (a_v_lanes : Nat) (a_v_sizes : Nat) (a_v_cells : Nat) (a_v_before : Nat) (v_hasOrder : Int) (v_hasStart : Int) (v_placed : Int) (v_placedMany : Int) (v_highest : Int) (v_taped : Int) (v_pos : Int) (v_begun : Int) (v_sort : Int) (v_value : Int) (v_fault : Int) (v_wrongAt : Int) (v_rightSum : Int) (v_wrongSum : Int) (v_allWays : Int) (v_torn : Int) (v_now : Nat → Int) : va_W := [(a_v, .inr (10, [.ref a_v_st, .ref a_v_now, .ref a_v_isKept, .ref a_v_draft, .int (zI v_hasOrder), .int (zI v_hasStart), .int (zI v_placed), .int (zI v_placedMany), .ref a_v_placedRow, .int (zI v_highest), .ref a_v_tape, .int (zI v_taped), .int (zI v_pos), .int (zI v_begun), .int (zI v_sort), .int (zI v_value), .int (zI v_fault), .int (zI v_wrongAt), .ref a_v_by, .ref a_v_told, .ref a_v_bestRow, .long (zL v_rightSum), .long (zL v_wrongSum), .long (zL v_allWays), .ref a_v_ways, .ref a_v_lanes, .ref a_v_sizes, .ref a_v_cells, .int (zI v_torn), .ref a_v_before])), (a_v_now, .inl (cy 0, 56, .inl (fun j => zI (v_now j))))]
set_option maxHeartbeats 4000000 in
set_option maxRecDepth 100000 in
theorem c_X10_doneIn (l : Launch) (D : va_G) (cy : Nat → ClassId) (sa : Nat → Nat) (a_v : Nat) (a_v_now : Nat) (a_v_st : Nat) (a_v_isKept : Nat) (a_v_draft : Nat) (a_v_placedRow : Nat) (a_v_tape : Nat) (a_v_by : Nat) (a_v_told : Nat) (a_v_bestRow : Nat) (a_v_ways : Nat) (a_v_lanes : Nat) (a_v_sizes : Nat) (a_v_cells : Nat) (a_v_before : Nat) (v_hasOrder : Int) (v_hasStart : Int) (v_placed : Int) (v_placedMany : Int) (v_highest : Int) (v_taped : Int) (v_pos : Int) (v_begun : Int) (v_sort : Int) (v_value : Int) (v_fault : Int) (v_wrongAt : Int) (v_rightSum : Int) (v_wrongSum : Int) (v_allWays : Int) (v_torn : Int) (v_now : Nat → Int) (x1 : Int) (o : Int) (h : f_M_doneIn v_now x1 = some o) : CtI l yX10_doneIn wsX10_doneIn ({ frames := 1, cells := 0, slots := 0, locals := 22 }) D cy sa [.ref a_v, .int (zI x1)] (wd_X10_doneIn cy a_v a_v_now a_v_st a_v_isKept a_v_draft a_v_placedRow a_v_tape a_v_by a_v_told a_v_bestRow a_v_ways a_v_lanes a_v_sizes a_v_cells a_v_before v_hasOrder v_hasStart v_placed v_placedMany v_highest v_taped v_pos v_begun v_sort v_value v_fault v_wrongAt v_rightSum v_wrongSum v_allWays v_torn v_now) (wd_X10_doneIn cy a_v a_v_now a_v_st a_v_isKept a_v_draft a_v_placedRow a_v_tape a_v_by a_v_told a_v_bestRow a_v_ways a_v_lanes a_v_sizes a_v_cells a_v_before v_hasOrder v_hasStart v_placed v_placedMany v_highest v_taped v_pos v_begun v_sort v_value v_fault v_wrongAt v_rightSum v_wrongSum v_allWays v_torn v_now) o := by
  refine ct_I (cc := cX10_doneIn) (maxL := 4) (plainFor_of_name (by decide)) rfl (Nat.le_of_ble_eq_true rfl) ?_
  intro p e s m below meth c A args QQ hx hb hml hown hts hE hDD hP KR ls hl
  have hl : lv_has ls 4 [(0, .ref a_v), (1, .int (zI x1))] := hl
  have hDD : DD A [a_v, a_v_now] := hDD
  have hS : va_S A s.heap s.heap [] := va_S.rf
  have q0 := hts (.fieldLink RX10 13 "HatHoursModel" "now" "[I") (List.mem_of_getElem? (i := 1) rfl)
  have iX10 : ∀ w ∈ u_ws RX10 TX10 30, w ∈ wsX10_doneIn := in_slice 7 30 rfl
  have L10 : ∀ (fuel : Nat) (x1 : Int) (x2 : Int) (x3 : Int) (H : Heap) (locs : List Loc) (ls : Array Slot) (ex : Int), va_P D vwCl (wd_X10_doneIn cy a_v a_v_now a_v_st a_v_isKept a_v_draft a_v_placedRow a_v_tape a_v_by a_v_told a_v_bestRow a_v_ways a_v_lanes a_v_sizes a_v_cells a_v_before v_hasOrder v_hasStart v_placed v_placedMany v_highest v_taped v_pos v_begun v_sort v_value v_fault v_wrongAt v_rightSum v_wrongSum v_allWays v_torn v_now) H → va_S A s.heap H locs → lv_has ls 4 [(0, .ref a_v), (1, .int (zI x1)), (2, .int (zI x2)), (3, .int (zI x3))] → f_M_doneIn_L10 fuel v_now x1 x2 x3 = some ex → (∀ (H : Heap) (locs : List Loc) (ls : Array Slot), va_P D vwCl (wd_X10_doneIn cy a_v a_v_now a_v_st a_v_isKept a_v_draft a_v_placedRow a_v_tape a_v_by a_v_told a_v_bestRow a_v_ways a_v_lanes a_v_sizes a_v_cells a_v_before v_hasOrder v_hasStart v_placed v_placedMany v_highest v_taped v_pos v_begun v_sort v_value v_fault v_wrongAt v_rightSum v_wrongSum v_allWays v_torn v_now) H → va_S A s.heap H locs → lv_has ls 4 [(2, .int (zI ex))] → W p l e { frames := 1, cells := 0, slots := 0, locals := 22 } s m args below meth c H locs 0 0 QQ (F0 m 38 ls [])) → W p l e { frames := 1, cells := 0, slots := 0, locals := 22 } s m args below meth c H locs 0 0 QQ (F0 m 10 ls []) := by
    intro fuel
    induction fuel with
    | zero => intro _ _ _ H locs ls ex hP hS hl h K; cases h
    | succ fuel ih =>
      intro x1 x2 x3 H locs ls ex hP hS hl h K
      refine lv_iload_n hx hb dX10_doneIn_10 rfl (lv_at hl 3 rfl) ?_
      refine lv_iload_n hx hb dX10_doneIn_11 rfl (lv_at hl 1 rfl) ?_
      obtain ⟨hr1, h⟩ := chk_some h
      obtain ⟨hr2, h⟩ := chk_some h
      refine wi_ic_gt (tgt := 38) hx hb dX10_doneIn_12 (by decide) hr1 hr2 (fun c4 => ?_) (fun c4 => ?_)
      · have h := ite_t c4 h
        obtain rfl := Option.some.inj h
        exact K _ _ _ hP hS (lv_sub hl [2] rfl)
      · have h := ite_f c4 h
        refine lv_iload_n hx hb dX10_doneIn_15 rfl (lv_at hl 2 rfl) ?_
        refine lv_aload_n hx hb dX10_doneIn_16 rfl (lv_at hl 0 rfl) ?_
        refine lv_aload_n hx hb dX10_doneIn_17 rfl (lv_at hl 0 rfl) ?_
        refine wi_get (v := .ref a_v_now) hx hb hts iX10 hown hE hP 0 rfl rfl 1 (by decide) q0 rfl dX10_doneIn_18 ?_
        refine wi_bi hx hb dX10_doneIn_21 (by decide) ?_
        refine lv_iload_n hx hb dX10_doneIn_23 rfl (lv_at hl 3 rfl) ?_
        refine wi_iadd hx hb dX10_doneIn_24 ?_
        obtain ⟨hk5, h⟩ := chk_some h
        refine wi_iald hx hb hE hP 1 rfl (by decide) hk5 dX10_doneIn_25 ?_
        refine wi_ic hx hb dX10_doneIn_26 ?_
        obtain ⟨o6, hc7, h⟩ := bnd_some h
        refine cV_i (rest := [.int (zI x2)]) (w2 := (wd_X10_doneIn cy a_v a_v_now a_v_st a_v_isKept a_v_draft a_v_placedRow a_v_tape a_v_by a_v_told a_v_bestRow a_v_ways a_v_lanes a_v_sizes a_v_cells a_v_before v_hasOrder v_hasStart v_placed v_placedMany v_highest v_taped v_pos v_begun v_sort v_value v_fault v_wrongAt v_rightSum v_wrongSum v_allWays v_torn v_now)) ⟨hx, hb, hml, hown, hts⟩ (c_X10_of l D cy sa a_v a_v_now a_v_st a_v_isKept a_v_draft a_v_placedRow a_v_tape a_v_by a_v_told a_v_bestRow a_v_ways a_v_lanes a_v_sizes a_v_cells a_v_before v_hasOrder v_hasStart v_placed v_placedMany v_highest v_taped v_pos v_begun v_sort v_value v_fault v_wrongAt v_rightSum v_wrongSum v_allWays v_torn v_now (v_now (31 + x3).toNat) 1 o6 hc7) (cwV 2 hts gX10_doneIn_X10_of rfl rfl rfl (by decide +kernel) ⟨Nat.le_of_ble_eq_true rfl, Nat.le_of_ble_eq_true rfl⟩) rfl rfl rfl hE hP hDD rfl hS [0, 1] rfl rfl rfl rfl hl.1 (Nat.le_of_ble_eq_true rfl) ⟨Nat.zero_le _, Nat.zero_le _⟩ rfl dX10_doneIn_27 rfl (fun H locs hP hS => ?_)
        refine wi_iadd hx hb dX10_doneIn_30 ?_
        refine lv_istore_n (lv' := [(2, .int (zI (x2 + o6))), (0, .ref a_v), (1, .int (zI x1)), (3, .int (zI x3))]) hx hb dX10_doneIn_31 rfl hl (by decide) rfl (fun ls hl => ?_)
        refine wi_iinc (k := 3) (lv' := [(3, .int (zI (x3 + 1))), (2, .int (zI (x2 + o6))), (0, .ref a_v), (1, .int (zI x1))]) hx hb dX10_doneIn_32 hl rfl (by decide) rfl (fun ls hl => ?_)
        refine lv_goto (tgt := 10) hx hb dX10_doneIn_35 (by decide) ?_
        exact ih x1 (x2 + o6) (x3 + 1) _ _ _ _ hP hS (lv_sub hl [2, 3, 1, 0] rfl) h K
  refine lv_aload_n hx hb dX10_doneIn_0 rfl (lv_at hl 0 rfl) ?_
  refine wi_get (v := .ref a_v_now) hx hb hts iX10 hown hE hP 0 rfl rfl 1 (by decide) q0 rfl dX10_doneIn_1 ?_
  refine wi_bi hx hb dX10_doneIn_4 (by decide) ?_
  refine wi_iald hx hb hE hP 1 rfl (by decide) (by decide) dX10_doneIn_6 ?_
  refine lv_istore_n (lv' := [(2, .int (zI (v_now 36))), (0, .ref a_v), (1, .int (zI x1))]) hx hb dX10_doneIn_7 rfl hl (by decide) rfl (fun ls hl => ?_)
  refine wi_ic hx hb dX10_doneIn_8 ?_
  refine lv_istore_n (lv' := [(3, .int (zI 0)), (2, .int (zI (v_now 36))), (0, .ref a_v), (1, .int (zI x1))]) hx hb dX10_doneIn_9 rfl hl (by decide) rfl (fun ls hl => ?_)
  obtain ⟨o8, hx9, h⟩ := bnd_some h
  refine L10 5000 x1 (v_now 36) 0 _ _ _ _ hP hS (lv_sub hl [2, 3, 1, 0] rfl) hx9 ?_
  clear hx9
  intro H locs ls hP hS hl
  refine lv_iload_n hx hb dX10_doneIn_38 rfl (lv_at hl 0 rfl) ?_
  obtain rfl := Option.some.inj h
  exact KR _ _ _ _ hP hS dX10_doneIn_39
abbrev wd_X10_placeOf (cy : Nat → ClassId) (a_v : Nat) (a_v_now : Nat) (a_v_st : Nat) (a_v_isKept : Nat) (a_v_draft : Nat) (a_v_placedRow : Nat) (a_v_tape : Nat) (a_v_by : Nat) (a_v_told : Nat) (a_v_bestRow : Nat) (a_v_ways : Nat) (a_v_lanes : Nat) (a_v_sizes : Nat) (a_v_cells : Nat) (a_v_before : Nat) (v_hasOrder : Int) (v_hasStart : Int) (v_placed : Int) (v_placedMany : Int) (v_highest : Int) (v_taped : Int) (v_pos : Int) (v_begun : Int) (v_sort : Int) (v_value : Int) (v_fault : Int) (v_wrongAt : Int) (v_rightSum : Int) (v_wrongSum : Int) (v_allWays : Int) (v_torn : Int) (v_now : Nat → Int) : va_W := [(a_v, .inr (10, [.ref a_v_st, .ref a_v_now, .ref a_v_isKept, .ref a_v_draft, .int (zI v_hasOrder), .int (zI v_hasStart), .int (zI v_placed), .int (zI v_placedMany), .ref a_v_placedRow, .int (zI v_highest), .ref a_v_tape, .int (zI v_taped), .int (zI v_pos), .int (zI v_begun), .int (zI v_sort), .int (zI v_value), .int (zI v_fault), .int (zI v_wrongAt), .ref a_v_by, .ref a_v_told, .ref a_v_bestRow, .long (zL v_rightSum), .long (zL v_wrongSum), .long (zL v_allWays), .ref a_v_ways, .ref a_v_lanes, .ref a_v_sizes, .ref a_v_cells, .int (zI v_torn), .ref a_v_before])), (a_v_now, .inl (cy 0, 56, .inl (fun j => zI (v_now j))))]
set_option maxHeartbeats 4000000 in
set_option maxRecDepth 100000 in
theorem c_X10_placeOf (l : Launch) (D : va_G) (cy : Nat → ClassId) (sa : Nat → Nat) (a_v : Nat) (a_v_now : Nat) (a_v_st : Nat) (a_v_isKept : Nat) (a_v_draft : Nat) (a_v_placedRow : Nat) (a_v_tape : Nat) (a_v_by : Nat) (a_v_told : Nat) (a_v_bestRow : Nat) (a_v_ways : Nat) (a_v_lanes : Nat) (a_v_sizes : Nat) (a_v_cells : Nat) (a_v_before : Nat) (v_hasOrder : Int) (v_hasStart : Int) (v_placed : Int) (v_placedMany : Int) (v_highest : Int) (v_taped : Int) (v_pos : Int) (v_begun : Int) (v_sort : Int) (v_value : Int) (v_fault : Int) (v_wrongAt : Int) (v_rightSum : Int) (v_wrongSum : Int) (v_allWays : Int) (v_torn : Int) (v_now : Nat → Int) (x1 : Int) (o : Int) (h : f_M_placeOf v_now x1 = some o) : CtI l yX10_placeOf wsX10_placeOf ({ frames := 0, cells := 0, slots := 0, locals := 0 }) D cy sa [.ref a_v, .int (zI x1)] (wd_X10_placeOf cy a_v a_v_now a_v_st a_v_isKept a_v_draft a_v_placedRow a_v_tape a_v_by a_v_told a_v_bestRow a_v_ways a_v_lanes a_v_sizes a_v_cells a_v_before v_hasOrder v_hasStart v_placed v_placedMany v_highest v_taped v_pos v_begun v_sort v_value v_fault v_wrongAt v_rightSum v_wrongSum v_allWays v_torn v_now) (wd_X10_placeOf cy a_v a_v_now a_v_st a_v_isKept a_v_draft a_v_placedRow a_v_tape a_v_by a_v_told a_v_bestRow a_v_ways a_v_lanes a_v_sizes a_v_cells a_v_before v_hasOrder v_hasStart v_placed v_placedMany v_highest v_taped v_pos v_begun v_sort v_value v_fault v_wrongAt v_rightSum v_wrongSum v_allWays v_torn v_now) o := by
  refine ct_I (cc := cX10_placeOf) (maxL := 4) (plainFor_of_name (by decide)) rfl (Nat.le_of_ble_eq_true rfl) ?_
  intro p e s m below meth c A args QQ hx hb hml hown hts hE hDD hP KR ls hl
  have hl : lv_has ls 4 [(0, .ref a_v), (1, .int (zI x1))] := hl
  have hDD : DD A [a_v, a_v_now] := hDD
  have hS : va_S A s.heap s.heap [] := va_S.rf
  have q0 := hts (.fieldLink RX10 13 "HatHoursModel" "now" "[I") (List.mem_of_getElem? (i := 1) rfl)
  have iX10 : ∀ w ∈ u_ws RX10 TX10 30, w ∈ wsX10_placeOf := in_slice 2 30 rfl
  have L4 : ∀ (fuel : Nat) (x1 : Int) (x2 : Int) (x3 : Int) (H : Heap) (locs : List Loc) (ls : Array Slot) (ex : Int), va_P D vwCl (wd_X10_placeOf cy a_v a_v_now a_v_st a_v_isKept a_v_draft a_v_placedRow a_v_tape a_v_by a_v_told a_v_bestRow a_v_ways a_v_lanes a_v_sizes a_v_cells a_v_before v_hasOrder v_hasStart v_placed v_placedMany v_highest v_taped v_pos v_begun v_sort v_value v_fault v_wrongAt v_rightSum v_wrongSum v_allWays v_torn v_now) H → va_S A s.heap H locs → lv_has ls 4 [(0, .ref a_v), (1, .int (zI x1)), (2, .int (zI x2)), (3, .int (zI x3))] → f_M_placeOf_L4 fuel v_now x1 x2 x3 = some ex → (∀ (H : Heap) (locs : List Loc) (ls : Array Slot), va_P D vwCl (wd_X10_placeOf cy a_v a_v_now a_v_st a_v_isKept a_v_draft a_v_placedRow a_v_tape a_v_by a_v_told a_v_bestRow a_v_ways a_v_lanes a_v_sizes a_v_cells a_v_before v_hasOrder v_hasStart v_placed v_placedMany v_highest v_taped v_pos v_begun v_sort v_value v_fault v_wrongAt v_rightSum v_wrongSum v_allWays v_torn v_now) H → va_S A s.heap H locs → lv_has ls 4 [(2, .int (zI ex))] → W p l e { frames := 0, cells := 0, slots := 0, locals := 0 } s m args below meth c H locs 0 0 QQ (F0 m 40 ls [])) → W p l e { frames := 0, cells := 0, slots := 0, locals := 0 } s m args below meth c H locs 0 0 QQ (F0 m 4 ls []) := by
    intro fuel
    induction fuel with
    | zero => intro _ _ _ H locs ls ex hP hS hl h K; cases h
    | succ fuel ih =>
      intro x1 x2 x3 H locs ls ex hP hS hl h K
      refine lv_iload_n hx hb dX10_placeOf_4 rfl (lv_at hl 3 rfl) ?_
      refine lv_aload_n hx hb dX10_placeOf_5 rfl (lv_at hl 0 rfl) ?_
      refine wi_get (v := .ref a_v_now) hx hb hts iX10 hown hE hP 0 rfl rfl 1 (by decide) q0 rfl dX10_placeOf_6 ?_
      refine wi_bi hx hb dX10_placeOf_9 (by decide) ?_
      refine wi_iald hx hb hE hP 1 rfl (by decide) (by decide) dX10_placeOf_11 ?_
      obtain ⟨hr1, h⟩ := chk_some h
      obtain ⟨hr2, h⟩ := chk_some h
      refine wi_ic_ge (tgt := 40) hx hb dX10_placeOf_12 (by decide) hr1 hr2 (fun c4 => ?_) (fun c4 => ?_)
      · have h := ite_t c4 h
        obtain rfl := Option.some.inj h
        exact K _ _ _ hP hS (lv_sub hl [2] rfl)
      · have h := ite_f c4 h
        refine lv_aload_n hx hb dX10_placeOf_15 rfl (lv_at hl 0 rfl) ?_
        refine wi_get (v := .ref a_v_now) hx hb hts iX10 hown hE hP 0 rfl rfl 1 (by decide) q0 rfl dX10_placeOf_16 ?_
        refine wi_bi hx hb dX10_placeOf_19 (by decide) ?_
        refine lv_iload_n hx hb dX10_placeOf_21 rfl (lv_at hl 3 rfl) ?_
        refine wi_iadd hx hb dX10_placeOf_22 ?_
        obtain ⟨hk5, h⟩ := chk_some h
        refine wi_iald hx hb hE hP 1 rfl (by decide) hk5 dX10_placeOf_23 ?_
        refine lv_iload_n hx hb dX10_placeOf_24 rfl (lv_at hl 1 rfl) ?_
        obtain ⟨hr6, h⟩ := chk_some h
        obtain ⟨hr7, h⟩ := chk_some h
        refine wi_ic_ne (tgt := 32) hx hb dX10_placeOf_25 (by decide) hr6 hr7 (fun c9 => ?_) (fun c9 => ?_)
        · have h := ite_f c9 h
          refine lv_iload_n hx hb dX10_placeOf_32 rfl (lv_at hl 2 rfl) ?_
          refine lv_istore_n (lv' := [(2, .int (zI x2)), (0, .ref a_v), (1, .int (zI x1)), (3, .int (zI x3))]) hx hb dX10_placeOf_33 rfl hl (by decide) rfl (fun ls hl => ?_)
          refine wi_iinc (k := 3) (lv' := [(3, .int (zI (x3 + 1))), (2, .int (zI x2)), (0, .ref a_v), (1, .int (zI x1))]) hx hb dX10_placeOf_34 hl rfl (by decide) rfl (fun ls hl => ?_)
          refine lv_goto (tgt := 4) hx hb dX10_placeOf_37 (by decide) ?_
          exact ih x1 x2 (x3 + 1) _ _ _ _ hP hS (lv_sub hl [2, 3, 1, 0] rfl) h K
        · have h := ite_t c9 h
          refine lv_iload_n hx hb dX10_placeOf_28 rfl (lv_at hl 3 rfl) ?_
          refine lv_goto (tgt := 33) hx hb dX10_placeOf_29 (by decide) ?_
          refine lv_istore_n (lv' := [(2, .int (zI x3)), (0, .ref a_v), (1, .int (zI x1)), (3, .int (zI x3))]) hx hb dX10_placeOf_33 rfl hl (by decide) rfl (fun ls hl => ?_)
          refine wi_iinc (k := 3) (lv' := [(3, .int (zI (x3 + 1))), (2, .int (zI x3)), (0, .ref a_v), (1, .int (zI x1))]) hx hb dX10_placeOf_34 hl rfl (by decide) rfl (fun ls hl => ?_)
          refine lv_goto (tgt := 4) hx hb dX10_placeOf_37 (by decide) ?_
          exact ih x1 x3 (x3 + 1) _ _ _ _ hP hS (lv_sub hl [2, 3, 1, 0] rfl) h K
  refine wi_ic hx hb dX10_placeOf_0 ?_
  refine lv_istore_n (lv' := [(2, .int (zI 0)), (0, .ref a_v), (1, .int (zI x1))]) hx hb dX10_placeOf_1 rfl hl (by decide) rfl (fun ls hl => ?_)
  refine wi_ic hx hb dX10_placeOf_2 ?_
  refine lv_istore_n (lv' := [(3, .int (zI 0)), (2, .int (zI 0)), (0, .ref a_v), (1, .int (zI x1))]) hx hb dX10_placeOf_3 rfl hl (by decide) rfl (fun ls hl => ?_)
  obtain ⟨o10, hx11, h⟩ := bnd_some h
  refine L4 5000 x1 0 0 _ _ _ _ hP hS (lv_sub hl [2, 3, 1, 0] rfl) hx11 ?_
  clear hx11
  intro H locs ls hP hS hl
  refine lv_iload_n hx hb dX10_placeOf_40 rfl (lv_at hl 0 rfl) ?_
  obtain rfl := Option.some.inj h
  exact KR _ _ _ _ hP hS dX10_placeOf_41
abbrev wd_X10_ownHour (cy : Nat → ClassId) (a_v : Nat) (a_v_now : Nat) (a_v_st : Nat) (a_v_isKept : Nat) (a_v_draft : Nat) (a_v_placedRow : Nat) (a_v_tape : Nat) (a_v_by : Nat) (a_v_told : Nat) (a_v_bestRow : Nat) (a_v_ways : Nat) (a_v_lanes : Nat) (a_v_sizes : Nat) (a_v_cells : Nat) (a_v_before : Nat) (v_hasOrder : Int) (v_hasStart : Int) (v_placed : Int) (v_placedMany : Int) (v_highest : Int) (v_taped : Int) (v_pos : Int) (v_begun : Int) (v_sort : Int) (v_value : Int) (v_fault : Int) (v_wrongAt : Int) (v_rightSum : Int) (v_wrongSum : Int) (v_allWays : Int) (v_torn : Int) (v_now : Nat → Int) : va_W := [(a_v, .inr (10, [.ref a_v_st, .ref a_v_now, .ref a_v_isKept, .ref a_v_draft, .int (zI v_hasOrder), .int (zI v_hasStart), .int (zI v_placed), .int (zI v_placedMany), .ref a_v_placedRow, .int (zI v_highest), .ref a_v_tape, .int (zI v_taped), .int (zI v_pos), .int (zI v_begun), .int (zI v_sort), .int (zI v_value), .int (zI v_fault), .int (zI v_wrongAt), .ref a_v_by, .ref a_v_told, .ref a_v_bestRow, .long (zL v_rightSum), .long (zL v_wrongSum), .long (zL v_allWays), .ref a_v_ways, .ref a_v_lanes, .ref a_v_sizes, .ref a_v_cells, .int (zI v_torn), .ref a_v_before])), (a_v_now, .inl (cy 0, 56, .inl (fun j => zI (v_now j))))]
set_option maxHeartbeats 4000000 in
set_option maxRecDepth 100000 in
theorem c_X10_ownHour (l : Launch) (D : va_G) (cy : Nat → ClassId) (sa : Nat → Nat) (a_v : Nat) (a_v_now : Nat) (a_v_st : Nat) (a_v_isKept : Nat) (a_v_draft : Nat) (a_v_placedRow : Nat) (a_v_tape : Nat) (a_v_by : Nat) (a_v_told : Nat) (a_v_bestRow : Nat) (a_v_ways : Nat) (a_v_lanes : Nat) (a_v_sizes : Nat) (a_v_cells : Nat) (a_v_before : Nat) (v_hasOrder : Int) (v_hasStart : Int) (v_placed : Int) (v_placedMany : Int) (v_highest : Int) (v_taped : Int) (v_pos : Int) (v_begun : Int) (v_sort : Int) (v_value : Int) (v_fault : Int) (v_wrongAt : Int) (v_rightSum : Int) (v_wrongSum : Int) (v_allWays : Int) (v_torn : Int) (v_now : Nat → Int) (x1 : Int) (o : Int) (h : f_M_ownHour v_now x1 = some o) : CtI l yX10_ownHour wsX10_ownHour ({ frames := 2, cells := 0, slots := 0, locals := 45 }) D cy sa [.ref a_v, .int (zI x1)] (wd_X10_ownHour cy a_v a_v_now a_v_st a_v_isKept a_v_draft a_v_placedRow a_v_tape a_v_by a_v_told a_v_bestRow a_v_ways a_v_lanes a_v_sizes a_v_cells a_v_before v_hasOrder v_hasStart v_placed v_placedMany v_highest v_taped v_pos v_begun v_sort v_value v_fault v_wrongAt v_rightSum v_wrongSum v_allWays v_torn v_now) (wd_X10_ownHour cy a_v a_v_now a_v_st a_v_isKept a_v_draft a_v_placedRow a_v_tape a_v_by a_v_told a_v_bestRow a_v_ways a_v_lanes a_v_sizes a_v_cells a_v_before v_hasOrder v_hasStart v_placed v_placedMany v_highest v_taped v_pos v_begun v_sort v_value v_fault v_wrongAt v_rightSum v_wrongSum v_allWays v_torn v_now) o := by
  refine ct_I (cc := cX10_ownHour) (maxL := 2) (plainFor_of_name (by decide)) rfl (Nat.le_of_ble_eq_true rfl) ?_
  intro p e s m below meth c A args QQ hx hb hml hown hts hE hDD hP KR ls hl
  have hl : lv_has ls 2 [(0, .ref a_v), (1, .int (zI x1))] := hl
  have hDD : DD A [a_v, a_v_now] := hDD
  have hS : va_S A s.heap s.heap [] := va_S.rf
  refine lv_aload_n hx hb dX10_ownHour_0 rfl (lv_at hl 0 rfl) ?_
  refine lv_aload_n hx hb dX10_ownHour_1 rfl (lv_at hl 0 rfl) ?_
  refine lv_iload_n hx hb dX10_ownHour_2 rfl (lv_at hl 1 rfl) ?_
  obtain ⟨o1, hc2, h⟩ := bnd_some h
  refine cV_i (rest := [.ref a_v]) (w2 := (wd_X10_ownHour cy a_v a_v_now a_v_st a_v_isKept a_v_draft a_v_placedRow a_v_tape a_v_by a_v_told a_v_bestRow a_v_ways a_v_lanes a_v_sizes a_v_cells a_v_before v_hasOrder v_hasStart v_placed v_placedMany v_highest v_taped v_pos v_begun v_sort v_value v_fault v_wrongAt v_rightSum v_wrongSum v_allWays v_torn v_now)) ⟨hx, hb, hml, hown, hts⟩ (c_X10_placeOf l D cy sa a_v a_v_now a_v_st a_v_isKept a_v_draft a_v_placedRow a_v_tape a_v_by a_v_told a_v_bestRow a_v_ways a_v_lanes a_v_sizes a_v_cells a_v_before v_hasOrder v_hasStart v_placed v_placedMany v_highest v_taped v_pos v_begun v_sort v_value v_fault v_wrongAt v_rightSum v_wrongSum v_allWays v_torn v_now x1 o1 hc2) (cwV 1 hts gX10_ownHour_X10_placeOf rfl rfl rfl (by decide +kernel) ⟨Nat.le_of_ble_eq_true rfl, Nat.le_of_ble_eq_true rfl⟩) rfl rfl rfl hE hP hDD rfl hS [0, 1] rfl rfl rfl rfl hl.1 (Nat.le_of_ble_eq_true rfl) ⟨Nat.zero_le _, Nat.zero_le _⟩ rfl dX10_ownHour_3 rfl (fun H locs hP hS => ?_)
  obtain ⟨o3, hc4, h⟩ := bnd_some h
  refine cV_i (rest := []) (w2 := (wd_X10_ownHour cy a_v a_v_now a_v_st a_v_isKept a_v_draft a_v_placedRow a_v_tape a_v_by a_v_told a_v_bestRow a_v_ways a_v_lanes a_v_sizes a_v_cells a_v_before v_hasOrder v_hasStart v_placed v_placedMany v_highest v_taped v_pos v_begun v_sort v_value v_fault v_wrongAt v_rightSum v_wrongSum v_allWays v_torn v_now)) ⟨hx, hb, hml, hown, hts⟩ (c_X10_doneIn l D cy sa a_v a_v_now a_v_st a_v_isKept a_v_draft a_v_placedRow a_v_tape a_v_by a_v_told a_v_bestRow a_v_ways a_v_lanes a_v_sizes a_v_cells a_v_before v_hasOrder v_hasStart v_placed v_placedMany v_highest v_taped v_pos v_begun v_sort v_value v_fault v_wrongAt v_rightSum v_wrongSum v_allWays v_torn v_now o1 o3 hc4) (cwV 1 hts gX10_ownHour_X10_doneIn rfl rfl rfl (by decide +kernel) ⟨Nat.le_of_ble_eq_true rfl, Nat.le_of_ble_eq_true rfl⟩) rfl rfl rfl hE hP hDD rfl hS [0, 1] rfl rfl rfl rfl hl.1 (Nat.le_of_ble_eq_true rfl) ⟨Nat.zero_le _, Nat.zero_le _⟩ rfl dX10_ownHour_6 rfl (fun H locs hP hS => ?_)
  refine wi_bi hx hb dX10_ownHour_9 (by decide) ?_
  obtain ⟨hk5, h⟩ := chk_some h
  refine wi_irem hx hb dX10_ownHour_11 ⟨hk5, by decide⟩ ?_
  obtain rfl := Option.some.inj h
  exact KR _ _ _ _ hP hS dX10_ownHour_12
abbrev wd_X10_wrong (cy : Nat → ClassId) (a_v : Nat) (a_v_now : Nat) (a_v_st : Nat) (a_v_isKept : Nat) (a_v_draft : Nat) (a_v_placedRow : Nat) (a_v_tape : Nat) (a_v_by : Nat) (a_v_told : Nat) (a_v_bestRow : Nat) (a_v_ways : Nat) (a_v_lanes : Nat) (a_v_sizes : Nat) (a_v_cells : Nat) (a_v_before : Nat) (v_hasOrder : Int) (v_hasStart : Int) (v_placed : Int) (v_placedMany : Int) (v_highest : Int) (v_taped : Int) (v_pos : Int) (v_begun : Int) (v_sort : Int) (v_value : Int) (v_fault : Int) (v_wrongAt : Int) (v_rightSum : Int) (v_wrongSum : Int) (v_allWays : Int) (v_torn : Int) (v_now : Nat → Int) : va_W := [(a_v, .inr (10, [.ref a_v_st, .ref a_v_now, .ref a_v_isKept, .ref a_v_draft, .int (zI v_hasOrder), .int (zI v_hasStart), .int (zI v_placed), .int (zI v_placedMany), .ref a_v_placedRow, .int (zI v_highest), .ref a_v_tape, .int (zI v_taped), .int (zI v_pos), .int (zI v_begun), .int (zI v_sort), .int (zI v_value), .int (zI v_fault), .int (zI v_wrongAt), .ref a_v_by, .ref a_v_told, .ref a_v_bestRow, .long (zL v_rightSum), .long (zL v_wrongSum), .long (zL v_allWays), .ref a_v_ways, .ref a_v_lanes, .ref a_v_sizes, .ref a_v_cells, .int (zI v_torn), .ref a_v_before])), (a_v_now, .inl (cy 0, 56, .inl (fun j => zI (v_now j))))]
set_option maxHeartbeats 4000000 in
set_option maxRecDepth 100000 in
theorem c_X10_wrong (l : Launch) (D : va_G) (cy : Nat → ClassId) (sa : Nat → Nat) (a_v : Nat) (a_v_now : Nat) (a_v_st : Nat) (a_v_isKept : Nat) (a_v_draft : Nat) (a_v_placedRow : Nat) (a_v_tape : Nat) (a_v_by : Nat) (a_v_told : Nat) (a_v_bestRow : Nat) (a_v_ways : Nat) (a_v_lanes : Nat) (a_v_sizes : Nat) (a_v_cells : Nat) (a_v_before : Nat) (v_hasOrder : Int) (v_hasStart : Int) (v_placed : Int) (v_placedMany : Int) (v_highest : Int) (v_taped : Int) (v_pos : Int) (v_begun : Int) (v_sort : Int) (v_value : Int) (v_fault : Int) (v_wrongAt : Int) (v_rightSum : Int) (v_wrongSum : Int) (v_allWays : Int) (v_torn : Int) (v_now : Nat → Int) (x1 : Int) (o : Int) (h : f_M_wrong v_now x1 = some o) : CtI l yX10_wrong wsX10_wrong ({ frames := 3, cells := 0, slots := 0, locals := 66 }) D cy sa [.ref a_v, .int (zI x1)] (wd_X10_wrong cy a_v a_v_now a_v_st a_v_isKept a_v_draft a_v_placedRow a_v_tape a_v_by a_v_told a_v_bestRow a_v_ways a_v_lanes a_v_sizes a_v_cells a_v_before v_hasOrder v_hasStart v_placed v_placedMany v_highest v_taped v_pos v_begun v_sort v_value v_fault v_wrongAt v_rightSum v_wrongSum v_allWays v_torn v_now) (wd_X10_wrong cy a_v a_v_now a_v_st a_v_isKept a_v_draft a_v_placedRow a_v_tape a_v_by a_v_told a_v_bestRow a_v_ways a_v_lanes a_v_sizes a_v_cells a_v_before v_hasOrder v_hasStart v_placed v_placedMany v_highest v_taped v_pos v_begun v_sort v_value v_fault v_wrongAt v_rightSum v_wrongSum v_allWays v_torn v_now) o := by
  refine ct_I (cc := cX10_wrong) (maxL := 4) (plainFor_of_name (by decide)) rfl (Nat.le_of_ble_eq_true rfl) ?_
  intro p e s m below meth c A args QQ hx hb hml hown hts hE hDD hP KR ls hl
  have hl : lv_has ls 4 [(0, .ref a_v), (1, .int (zI x1))] := hl
  have hDD : DD A [a_v, a_v_now] := hDD
  have hS : va_S A s.heap s.heap [] := va_S.rf
  refine lv_aload_n hx hb dX10_wrong_0 rfl (lv_at hl 0 rfl) ?_
  refine lv_iload_n hx hb dX10_wrong_1 rfl (lv_at hl 1 rfl) ?_
  obtain ⟨o1, hc2, h⟩ := bnd_some h
  refine cV_i (rest := []) (w2 := (wd_X10_wrong cy a_v a_v_now a_v_st a_v_isKept a_v_draft a_v_placedRow a_v_tape a_v_by a_v_told a_v_bestRow a_v_ways a_v_lanes a_v_sizes a_v_cells a_v_before v_hasOrder v_hasStart v_placed v_placedMany v_highest v_taped v_pos v_begun v_sort v_value v_fault v_wrongAt v_rightSum v_wrongSum v_allWays v_torn v_now)) ⟨hx, hb, hml, hown, hts⟩ (c_X10_ownHour l D cy sa a_v a_v_now a_v_st a_v_isKept a_v_draft a_v_placedRow a_v_tape a_v_by a_v_told a_v_bestRow a_v_ways a_v_lanes a_v_sizes a_v_cells a_v_before v_hasOrder v_hasStart v_placed v_placedMany v_highest v_taped v_pos v_begun v_sort v_value v_fault v_wrongAt v_rightSum v_wrongSum v_allWays v_torn v_now x1 o1 hc2) (cwV 1 hts gX10_wrong_X10_ownHour rfl rfl rfl (by decide +kernel) ⟨Nat.le_of_ble_eq_true rfl, Nat.le_of_ble_eq_true rfl⟩) rfl rfl rfl hE hP hDD rfl hS [0, 1] rfl rfl rfl rfl hl.1 (Nat.le_of_ble_eq_true rfl) ⟨Nat.zero_le _, Nat.zero_le _⟩ rfl dX10_wrong_2 rfl (fun H locs hP hS => ?_)
  refine lv_aload_n hx hb dX10_wrong_5 rfl (lv_at hl 0 rfl) ?_
  refine lv_iload_n hx hb dX10_wrong_6 rfl (lv_at hl 1 rfl) ?_
  refine wi_ic hx hb dX10_wrong_7 ?_
  obtain ⟨o3, hc4, h⟩ := bnd_some h
  refine cV_i (rest := [.int (zI o1)]) (w2 := (wd_X10_wrong cy a_v a_v_now a_v_st a_v_isKept a_v_draft a_v_placedRow a_v_tape a_v_by a_v_told a_v_bestRow a_v_ways a_v_lanes a_v_sizes a_v_cells a_v_before v_hasOrder v_hasStart v_placed v_placedMany v_highest v_taped v_pos v_begun v_sort v_value v_fault v_wrongAt v_rightSum v_wrongSum v_allWays v_torn v_now)) ⟨hx, hb, hml, hown, hts⟩ (c_X10_of l D cy sa a_v a_v_now a_v_st a_v_isKept a_v_draft a_v_placedRow a_v_tape a_v_by a_v_told a_v_bestRow a_v_ways a_v_lanes a_v_sizes a_v_cells a_v_before v_hasOrder v_hasStart v_placed v_placedMany v_highest v_taped v_pos v_begun v_sort v_value v_fault v_wrongAt v_rightSum v_wrongSum v_allWays v_torn v_now x1 2 o3 hc4) (cwV 2 hts gX10_wrong_X10_of rfl rfl rfl (by decide +kernel) ⟨Nat.le_of_ble_eq_true rfl, Nat.le_of_ble_eq_true rfl⟩) rfl rfl rfl hE hP hDD rfl hS [0, 1] rfl rfl rfl rfl hl.1 (Nat.le_of_ble_eq_true rfl) ⟨Nat.zero_le _, Nat.zero_le _⟩ rfl dX10_wrong_8 rfl (fun H locs hP hS => ?_)
  refine wi_isub hx hb dX10_wrong_11 ?_
  refine lv_istore_n (lv' := [(2, .int (zI (o1 - o3))), (0, .ref a_v), (1, .int (zI x1))]) hx hb dX10_wrong_12 rfl hl (by decide) rfl (fun ls hl => ?_)
  refine lv_iload_n hx hb dX10_wrong_13 rfl (lv_at hl 0 rfl) ?_
  obtain ⟨hr5, h⟩ := chk_some h
  obtain ⟨o6, hx7, h⟩ := bnd_some h
  have J8 : ∀ (H : Heap) (locs : List Loc) (ls : Array Slot), va_P D vwCl (wd_X10_wrong cy a_v a_v_now a_v_st a_v_isKept a_v_draft a_v_placedRow a_v_tape a_v_by a_v_told a_v_bestRow a_v_ways a_v_lanes a_v_sizes a_v_cells a_v_before v_hasOrder v_hasStart v_placed v_placedMany v_highest v_taped v_pos v_begun v_sort v_value v_fault v_wrongAt v_rightSum v_wrongSum v_allWays v_torn v_now) H → va_S A s.heap H locs → lv_has ls 4 [(0, .ref a_v), (1, .int (zI x1))] → W p l e { frames := 3, cells := 0, slots := 0, locals := 66 } s m args below meth c H locs 0 0 QQ (F0 m 23 ls [.int (zI o6)]) := by
    intro H locs ls hP hS hl
    refine lv_istore_n (lv' := [(3, .int (zI o6)), (0, .ref a_v), (1, .int (zI x1))]) hx hb dX10_wrong_23 rfl hl (by decide) rfl (fun ls hl => ?_)
    refine lv_aload_n hx hb dX10_wrong_24 rfl (lv_at hl 1 rfl) ?_
    refine lv_iload_n hx hb dX10_wrong_25 rfl (lv_at hl 2 rfl) ?_
    refine wi_ic hx hb dX10_wrong_26 ?_
    obtain ⟨o9, hc10, h⟩ := bnd_some h
    refine cV_i (rest := []) (w2 := (wd_X10_wrong cy a_v a_v_now a_v_st a_v_isKept a_v_draft a_v_placedRow a_v_tape a_v_by a_v_told a_v_bestRow a_v_ways a_v_lanes a_v_sizes a_v_cells a_v_before v_hasOrder v_hasStart v_placed v_placedMany v_highest v_taped v_pos v_begun v_sort v_value v_fault v_wrongAt v_rightSum v_wrongSum v_allWays v_torn v_now)) ⟨hx, hb, hml, hown, hts⟩ (c_X10_of l D cy sa a_v a_v_now a_v_st a_v_isKept a_v_draft a_v_placedRow a_v_tape a_v_by a_v_told a_v_bestRow a_v_ways a_v_lanes a_v_sizes a_v_cells a_v_before v_hasOrder v_hasStart v_placed v_placedMany v_highest v_taped v_pos v_begun v_sort v_value v_fault v_wrongAt v_rightSum v_wrongSum v_allWays v_torn v_now x1 3 o9 hc10) (cwV 2 hts gX10_wrong_X10_of rfl rfl rfl (by decide +kernel) ⟨Nat.le_of_ble_eq_true rfl, Nat.le_of_ble_eq_true rfl⟩) rfl rfl rfl hE hP hDD rfl hS [0, 1] rfl rfl rfl rfl hl.1 (Nat.le_of_ble_eq_true rfl) ⟨Nat.zero_le _, Nat.zero_le _⟩ rfl dX10_wrong_27 rfl (fun H locs hP hS => ?_)
    refine lv_iload_n hx hb dX10_wrong_30 rfl (lv_at hl 0 rfl) ?_
    refine wi_bi hx hb dX10_wrong_31 (by decide) ?_
    refine lv_iload_n hx hb dX10_wrong_33 rfl (lv_at hl 0 rfl) ?_
    refine wi_isub hx hb dX10_wrong_34 ?_
    obtain ⟨o11, hc12, h⟩ := bnd_some h
    refine cS_i (rest := [.int (zI o9)]) (w2 := (wd_X10_wrong cy a_v a_v_now a_v_st a_v_isKept a_v_draft a_v_placedRow a_v_tape a_v_by a_v_told a_v_bestRow a_v_ways a_v_lanes a_v_sizes a_v_cells a_v_before v_hasOrder v_hasStart v_placed v_placedMany v_highest v_taped v_pos v_begun v_sort v_value v_fault v_wrongAt v_rightSum v_wrongSum v_allWays v_torn v_now)) ⟨hx, hb, hml, hown, hts⟩ (c_X10_lesser l D cy sa o6 (24 - o6) o11 hc12) (va_cwS 2 hts gX10_wrong_X10_lesser rfl rfl rfl (by decide +kernel) ⟨Nat.le_of_ble_eq_true rfl, Nat.le_of_ble_eq_true rfl⟩) hE hP hDD rfl hS [] rfl rfl rfl rfl hl.1 (Nat.le_of_ble_eq_true rfl) ⟨Nat.zero_le _, Nat.zero_le _⟩ rfl dX10_wrong_35 rfl (fun H locs hP hS => ?_)
    refine wi_imul hx hb dX10_wrong_38 ?_
    obtain rfl := Option.some.inj h
    exact KR _ _ _ _ hP hS dX10_wrong_39
  clear h
  have h := hx7
  clear hx7
  refine wi_if_ge (tgt := 22) hx hb dX10_wrong_14 (by decide) hr5 (fun c13 => ?_) (fun c13 => ?_)
  · have h := ite_t c13 h
    refine lv_iload_n hx hb dX10_wrong_22 rfl (lv_at hl 0 rfl) ?_
    obtain rfl := Option.some.inj h
    exact J8 _ _ _ hP hS (lv_sub hl [1, 2] rfl)
  · have h := ite_f c13 h
    refine lv_iload_n hx hb dX10_wrong_17 rfl (lv_at hl 0 rfl) ?_
    refine wi_ineg hx hb dX10_wrong_18 ?_
    refine lv_goto (tgt := 23) hx hb dX10_wrong_19 (by decide) ?_
    obtain rfl := Option.some.inj h
    exact J8 _ _ _ hP hS (lv_sub hl [1, 2] rfl)
abbrev wd_X10_allWrong (cy : Nat → ClassId) (a_v : Nat) (a_v_now : Nat) (a_v_st : Nat) (a_v_isKept : Nat) (a_v_draft : Nat) (a_v_placedRow : Nat) (a_v_tape : Nat) (a_v_by : Nat) (a_v_told : Nat) (a_v_bestRow : Nat) (a_v_ways : Nat) (a_v_lanes : Nat) (a_v_sizes : Nat) (a_v_cells : Nat) (a_v_before : Nat) (v_hasOrder : Int) (v_hasStart : Int) (v_placed : Int) (v_placedMany : Int) (v_highest : Int) (v_taped : Int) (v_pos : Int) (v_begun : Int) (v_sort : Int) (v_value : Int) (v_fault : Int) (v_wrongAt : Int) (v_rightSum : Int) (v_wrongSum : Int) (v_allWays : Int) (v_torn : Int) (v_now : Nat → Int) : va_W := [(a_v, .inr (10, [.ref a_v_st, .ref a_v_now, .ref a_v_isKept, .ref a_v_draft, .int (zI v_hasOrder), .int (zI v_hasStart), .int (zI v_placed), .int (zI v_placedMany), .ref a_v_placedRow, .int (zI v_highest), .ref a_v_tape, .int (zI v_taped), .int (zI v_pos), .int (zI v_begun), .int (zI v_sort), .int (zI v_value), .int (zI v_fault), .int (zI v_wrongAt), .ref a_v_by, .ref a_v_told, .ref a_v_bestRow, .long (zL v_rightSum), .long (zL v_wrongSum), .long (zL v_allWays), .ref a_v_ways, .ref a_v_lanes, .ref a_v_sizes, .ref a_v_cells, .int (zI v_torn), .ref a_v_before])), (a_v_now, .inl (cy 0, 56, .inl (fun j => zI (v_now j))))]
set_option maxHeartbeats 4000000 in
set_option maxRecDepth 100000 in
theorem c_X10_allWrong (l : Launch) (D : va_G) (cy : Nat → ClassId) (sa : Nat → Nat) (a_v : Nat) (a_v_now : Nat) (a_v_st : Nat) (a_v_isKept : Nat) (a_v_draft : Nat) (a_v_placedRow : Nat) (a_v_tape : Nat) (a_v_by : Nat) (a_v_told : Nat) (a_v_bestRow : Nat) (a_v_ways : Nat) (a_v_lanes : Nat) (a_v_sizes : Nat) (a_v_cells : Nat) (a_v_before : Nat) (v_hasOrder : Int) (v_hasStart : Int) (v_placed : Int) (v_placedMany : Int) (v_highest : Int) (v_taped : Int) (v_pos : Int) (v_begun : Int) (v_sort : Int) (v_value : Int) (v_fault : Int) (v_wrongAt : Int) (v_rightSum : Int) (v_wrongSum : Int) (v_allWays : Int) (v_torn : Int) (v_now : Nat → Int) (o : Int) (h : f_M_allWrong v_now = some o) : CtI l yX10_allWrong wsX10_allWrong ({ frames := 4, cells := 0, slots := 0, locals := 89 }) D cy sa [.ref a_v] (wd_X10_allWrong cy a_v a_v_now a_v_st a_v_isKept a_v_draft a_v_placedRow a_v_tape a_v_by a_v_told a_v_bestRow a_v_ways a_v_lanes a_v_sizes a_v_cells a_v_before v_hasOrder v_hasStart v_placed v_placedMany v_highest v_taped v_pos v_begun v_sort v_value v_fault v_wrongAt v_rightSum v_wrongSum v_allWays v_torn v_now) (wd_X10_allWrong cy a_v a_v_now a_v_st a_v_isKept a_v_draft a_v_placedRow a_v_tape a_v_by a_v_told a_v_bestRow a_v_ways a_v_lanes a_v_sizes a_v_cells a_v_before v_hasOrder v_hasStart v_placed v_placedMany v_highest v_taped v_pos v_begun v_sort v_value v_fault v_wrongAt v_rightSum v_wrongSum v_allWays v_torn v_now) o := by
  refine ct_I (cc := cX10_allWrong) (maxL := 3) (plainFor_of_name (by decide)) rfl (Nat.le_of_ble_eq_true rfl) ?_
  intro p e s m below meth c A args QQ hx hb hml hown hts hE hDD hP KR ls hl
  have hl : lv_has ls 3 [(0, .ref a_v)] := hl
  have hDD : DD A [a_v, a_v_now] := hDD
  have hS : va_S A s.heap s.heap [] := va_S.rf
  have q0 := hts (.fieldLink RX10 13 "HatHoursModel" "now" "[I") (List.mem_of_getElem? (i := 1) rfl)
  have iX10 : ∀ w ∈ u_ws RX10 TX10 30, w ∈ wsX10_allWrong := in_slice 26 30 rfl
  have L4 : ∀ (fuel : Nat) (x1 : Int) (x2 : Int) (H : Heap) (locs : List Loc) (ls : Array Slot) (ex : Int), va_P D vwCl (wd_X10_allWrong cy a_v a_v_now a_v_st a_v_isKept a_v_draft a_v_placedRow a_v_tape a_v_by a_v_told a_v_bestRow a_v_ways a_v_lanes a_v_sizes a_v_cells a_v_before v_hasOrder v_hasStart v_placed v_placedMany v_highest v_taped v_pos v_begun v_sort v_value v_fault v_wrongAt v_rightSum v_wrongSum v_allWays v_torn v_now) H → va_S A s.heap H locs → lv_has ls 3 [(0, .ref a_v), (1, .int (zI x1)), (2, .int (zI x2))] → f_M_allWrong_L4 fuel v_now x1 x2 = some ex → (∀ (H : Heap) (locs : List Loc) (ls : Array Slot), va_P D vwCl (wd_X10_allWrong cy a_v a_v_now a_v_st a_v_isKept a_v_draft a_v_placedRow a_v_tape a_v_by a_v_told a_v_bestRow a_v_ways a_v_lanes a_v_sizes a_v_cells a_v_before v_hasOrder v_hasStart v_placed v_placedMany v_highest v_taped v_pos v_begun v_sort v_value v_fault v_wrongAt v_rightSum v_wrongSum v_allWays v_torn v_now) H → va_S A s.heap H locs → lv_has ls 3 [(1, .int (zI ex))] → W p l e { frames := 4, cells := 0, slots := 0, locals := 89 } s m args below meth c H locs 0 0 QQ (F0 m 29 ls [])) → W p l e { frames := 4, cells := 0, slots := 0, locals := 89 } s m args below meth c H locs 0 0 QQ (F0 m 4 ls []) := by
    intro fuel
    induction fuel with
    | zero => intro _ _ H locs ls ex hP hS hl h K; cases h
    | succ fuel ih =>
      intro x1 x2 H locs ls ex hP hS hl h K
      refine lv_iload_n hx hb dX10_allWrong_4 rfl (lv_at hl 2 rfl) ?_
      refine lv_aload_n hx hb dX10_allWrong_5 rfl (lv_at hl 0 rfl) ?_
      refine wi_get (v := .ref a_v_now) hx hb hts iX10 hown hE hP 0 rfl rfl 1 (by decide) q0 rfl dX10_allWrong_6 ?_
      refine wi_bi hx hb dX10_allWrong_9 (by decide) ?_
      refine wi_iald hx hb hE hP 1 rfl (by decide) (by decide) dX10_allWrong_11 ?_
      obtain ⟨hr1, h⟩ := chk_some h
      obtain ⟨hr2, h⟩ := chk_some h
      refine wi_ic_ge (tgt := 29) hx hb dX10_allWrong_12 (by decide) hr1 hr2 (fun c4 => ?_) (fun c4 => ?_)
      · have h := ite_t c4 h
        obtain rfl := Option.some.inj h
        exact K _ _ _ hP hS (lv_sub hl [1] rfl)
      · have h := ite_f c4 h
        refine lv_iload_n hx hb dX10_allWrong_15 rfl (lv_at hl 1 rfl) ?_
        refine lv_aload_n hx hb dX10_allWrong_16 rfl (lv_at hl 0 rfl) ?_
        refine lv_iload_n hx hb dX10_allWrong_17 rfl (lv_at hl 2 rfl) ?_
        obtain ⟨o5, hc6, h⟩ := bnd_some h
        refine cV_i (rest := [.int (zI x1)]) (w2 := (wd_X10_allWrong cy a_v a_v_now a_v_st a_v_isKept a_v_draft a_v_placedRow a_v_tape a_v_by a_v_told a_v_bestRow a_v_ways a_v_lanes a_v_sizes a_v_cells a_v_before v_hasOrder v_hasStart v_placed v_placedMany v_highest v_taped v_pos v_begun v_sort v_value v_fault v_wrongAt v_rightSum v_wrongSum v_allWays v_torn v_now)) ⟨hx, hb, hml, hown, hts⟩ (c_X10_wrong l D cy sa a_v a_v_now a_v_st a_v_isKept a_v_draft a_v_placedRow a_v_tape a_v_by a_v_told a_v_bestRow a_v_ways a_v_lanes a_v_sizes a_v_cells a_v_before v_hasOrder v_hasStart v_placed v_placedMany v_highest v_taped v_pos v_begun v_sort v_value v_fault v_wrongAt v_rightSum v_wrongSum v_allWays v_torn v_now x2 o5 hc6) (cwV 1 hts gX10_allWrong_X10_wrong rfl rfl rfl (by decide +kernel) ⟨Nat.le_of_ble_eq_true rfl, Nat.le_of_ble_eq_true rfl⟩) rfl rfl rfl hE hP hDD rfl hS [0, 1] rfl rfl rfl rfl hl.1 (Nat.le_of_ble_eq_true rfl) ⟨Nat.zero_le _, Nat.zero_le _⟩ rfl dX10_allWrong_18 rfl (fun H locs hP hS => ?_)
        refine wi_iadd hx hb dX10_allWrong_21 ?_
        refine lv_istore_n (lv' := [(1, .int (zI (x1 + o5))), (0, .ref a_v), (2, .int (zI x2))]) hx hb dX10_allWrong_22 rfl hl (by decide) rfl (fun ls hl => ?_)
        refine wi_iinc (k := 2) (lv' := [(2, .int (zI (x2 + 1))), (1, .int (zI (x1 + o5))), (0, .ref a_v)]) hx hb dX10_allWrong_23 hl rfl (by decide) rfl (fun ls hl => ?_)
        refine lv_goto (tgt := 4) hx hb dX10_allWrong_26 (by decide) ?_
        exact ih (x1 + o5) (x2 + 1) _ _ _ _ hP hS (lv_sub hl [2, 1, 0] rfl) h K
  refine wi_ic hx hb dX10_allWrong_0 ?_
  refine lv_istore_n (lv' := [(1, .int (zI 0)), (0, .ref a_v)]) hx hb dX10_allWrong_1 rfl hl (by decide) rfl (fun ls hl => ?_)
  refine wi_ic hx hb dX10_allWrong_2 ?_
  refine lv_istore_n (lv' := [(2, .int (zI 0)), (1, .int (zI 0)), (0, .ref a_v)]) hx hb dX10_allWrong_3 rfl hl (by decide) rfl (fun ls hl => ?_)
  obtain ⟨o7, hx8, h⟩ := bnd_some h
  refine L4 5000 0 0 _ _ _ _ hP hS (lv_sub hl [2, 1, 0] rfl) hx8 ?_
  clear hx8
  intro H locs ls hP hS hl
  refine lv_iload_n hx hb dX10_allWrong_29 rfl (lv_at hl 0 rfl) ?_
  obtain rfl := Option.some.inj h
  exact KR _ _ _ _ hP hS dX10_allWrong_30
abbrev wd_X10_allOf (cy : Nat → ClassId) (a_v : Nat) (a_v_now : Nat) (a_v_st : Nat) (a_v_isKept : Nat) (a_v_draft : Nat) (a_v_placedRow : Nat) (a_v_tape : Nat) (a_v_by : Nat) (a_v_told : Nat) (a_v_bestRow : Nat) (a_v_ways : Nat) (a_v_lanes : Nat) (a_v_sizes : Nat) (a_v_cells : Nat) (a_v_before : Nat) (v_hasOrder : Int) (v_hasStart : Int) (v_placed : Int) (v_placedMany : Int) (v_highest : Int) (v_taped : Int) (v_pos : Int) (v_begun : Int) (v_sort : Int) (v_value : Int) (v_fault : Int) (v_wrongAt : Int) (v_rightSum : Int) (v_wrongSum : Int) (v_allWays : Int) (v_torn : Int) (v_now : Nat → Int) : va_W := [(a_v, .inr (10, [.ref a_v_st, .ref a_v_now, .ref a_v_isKept, .ref a_v_draft, .int (zI v_hasOrder), .int (zI v_hasStart), .int (zI v_placed), .int (zI v_placedMany), .ref a_v_placedRow, .int (zI v_highest), .ref a_v_tape, .int (zI v_taped), .int (zI v_pos), .int (zI v_begun), .int (zI v_sort), .int (zI v_value), .int (zI v_fault), .int (zI v_wrongAt), .ref a_v_by, .ref a_v_told, .ref a_v_bestRow, .long (zL v_rightSum), .long (zL v_wrongSum), .long (zL v_allWays), .ref a_v_ways, .ref a_v_lanes, .ref a_v_sizes, .ref a_v_cells, .int (zI v_torn), .ref a_v_before])), (a_v_now, .inl (cy 0, 56, .inl (fun j => zI (v_now j))))]
set_option maxHeartbeats 4000000 in
set_option maxRecDepth 100000 in
theorem c_X10_allOf (l : Launch) (D : va_G) (cy : Nat → ClassId) (sa : Nat → Nat) (a_v : Nat) (a_v_now : Nat) (a_v_st : Nat) (a_v_isKept : Nat) (a_v_draft : Nat) (a_v_placedRow : Nat) (a_v_tape : Nat) (a_v_by : Nat) (a_v_told : Nat) (a_v_bestRow : Nat) (a_v_ways : Nat) (a_v_lanes : Nat) (a_v_sizes : Nat) (a_v_cells : Nat) (a_v_before : Nat) (v_hasOrder : Int) (v_hasStart : Int) (v_placed : Int) (v_placedMany : Int) (v_highest : Int) (v_taped : Int) (v_pos : Int) (v_begun : Int) (v_sort : Int) (v_value : Int) (v_fault : Int) (v_wrongAt : Int) (v_rightSum : Int) (v_wrongSum : Int) (v_allWays : Int) (v_torn : Int) (v_now : Nat → Int) (x1 : Int) (o : Int) (h : f_M_allOf v_now x1 = some o) : CtI l yX10_allOf wsX10_allOf ({ frames := 1, cells := 0, slots := 0, locals := 22 }) D cy sa [.ref a_v, .int (zI x1)] (wd_X10_allOf cy a_v a_v_now a_v_st a_v_isKept a_v_draft a_v_placedRow a_v_tape a_v_by a_v_told a_v_bestRow a_v_ways a_v_lanes a_v_sizes a_v_cells a_v_before v_hasOrder v_hasStart v_placed v_placedMany v_highest v_taped v_pos v_begun v_sort v_value v_fault v_wrongAt v_rightSum v_wrongSum v_allWays v_torn v_now) (wd_X10_allOf cy a_v a_v_now a_v_st a_v_isKept a_v_draft a_v_placedRow a_v_tape a_v_by a_v_told a_v_bestRow a_v_ways a_v_lanes a_v_sizes a_v_cells a_v_before v_hasOrder v_hasStart v_placed v_placedMany v_highest v_taped v_pos v_begun v_sort v_value v_fault v_wrongAt v_rightSum v_wrongSum v_allWays v_torn v_now) o := by
  refine ct_I (cc := cX10_allOf) (maxL := 4) (plainFor_of_name (by decide)) rfl (Nat.le_of_ble_eq_true rfl) ?_
  intro p e s m below meth c A args QQ hx hb hml hown hts hE hDD hP KR ls hl
  have hl : lv_has ls 4 [(0, .ref a_v), (1, .int (zI x1))] := hl
  have hDD : DD A [a_v, a_v_now] := hDD
  have hS : va_S A s.heap s.heap [] := va_S.rf
  have q0 := hts (.fieldLink RX10 13 "HatHoursModel" "now" "[I") (List.mem_of_getElem? (i := 1) rfl)
  have iX10 : ∀ w ∈ u_ws RX10 TX10 30, w ∈ wsX10_allOf := in_slice 7 30 rfl
  have L4 : ∀ (fuel : Nat) (x1 : Int) (x2 : Int) (x3 : Int) (H : Heap) (locs : List Loc) (ls : Array Slot) (ex : Int), va_P D vwCl (wd_X10_allOf cy a_v a_v_now a_v_st a_v_isKept a_v_draft a_v_placedRow a_v_tape a_v_by a_v_told a_v_bestRow a_v_ways a_v_lanes a_v_sizes a_v_cells a_v_before v_hasOrder v_hasStart v_placed v_placedMany v_highest v_taped v_pos v_begun v_sort v_value v_fault v_wrongAt v_rightSum v_wrongSum v_allWays v_torn v_now) H → va_S A s.heap H locs → lv_has ls 4 [(0, .ref a_v), (1, .int (zI x1)), (2, .int (zI x2)), (3, .int (zI x3))] → f_M_allOf_L4 fuel v_now x1 x2 x3 = some ex → (∀ (H : Heap) (locs : List Loc) (ls : Array Slot), va_P D vwCl (wd_X10_allOf cy a_v a_v_now a_v_st a_v_isKept a_v_draft a_v_placedRow a_v_tape a_v_by a_v_told a_v_bestRow a_v_ways a_v_lanes a_v_sizes a_v_cells a_v_before v_hasOrder v_hasStart v_placed v_placedMany v_highest v_taped v_pos v_begun v_sort v_value v_fault v_wrongAt v_rightSum v_wrongSum v_allWays v_torn v_now) H → va_S A s.heap H locs → lv_has ls 4 [(2, .int (zI ex))] → W p l e { frames := 1, cells := 0, slots := 0, locals := 22 } s m args below meth c H locs 0 0 QQ (F0 m 30 ls [])) → W p l e { frames := 1, cells := 0, slots := 0, locals := 22 } s m args below meth c H locs 0 0 QQ (F0 m 4 ls []) := by
    intro fuel
    induction fuel with
    | zero => intro _ _ _ H locs ls ex hP hS hl h K; cases h
    | succ fuel ih =>
      intro x1 x2 x3 H locs ls ex hP hS hl h K
      refine lv_iload_n hx hb dX10_allOf_4 rfl (lv_at hl 3 rfl) ?_
      refine lv_aload_n hx hb dX10_allOf_5 rfl (lv_at hl 0 rfl) ?_
      refine wi_get (v := .ref a_v_now) hx hb hts iX10 hown hE hP 0 rfl rfl 1 (by decide) q0 rfl dX10_allOf_6 ?_
      refine wi_bi hx hb dX10_allOf_9 (by decide) ?_
      refine wi_iald hx hb hE hP 1 rfl (by decide) (by decide) dX10_allOf_11 ?_
      obtain ⟨hr1, h⟩ := chk_some h
      obtain ⟨hr2, h⟩ := chk_some h
      refine wi_ic_ge (tgt := 30) hx hb dX10_allOf_12 (by decide) hr1 hr2 (fun c4 => ?_) (fun c4 => ?_)
      · have h := ite_t c4 h
        obtain rfl := Option.some.inj h
        exact K _ _ _ hP hS (lv_sub hl [2] rfl)
      · have h := ite_f c4 h
        refine lv_iload_n hx hb dX10_allOf_15 rfl (lv_at hl 2 rfl) ?_
        refine lv_aload_n hx hb dX10_allOf_16 rfl (lv_at hl 0 rfl) ?_
        refine lv_iload_n hx hb dX10_allOf_17 rfl (lv_at hl 3 rfl) ?_
        refine lv_iload_n hx hb dX10_allOf_18 rfl (lv_at hl 1 rfl) ?_
        obtain ⟨o5, hc6, h⟩ := bnd_some h
        refine cV_i (rest := [.int (zI x2)]) (w2 := (wd_X10_allOf cy a_v a_v_now a_v_st a_v_isKept a_v_draft a_v_placedRow a_v_tape a_v_by a_v_told a_v_bestRow a_v_ways a_v_lanes a_v_sizes a_v_cells a_v_before v_hasOrder v_hasStart v_placed v_placedMany v_highest v_taped v_pos v_begun v_sort v_value v_fault v_wrongAt v_rightSum v_wrongSum v_allWays v_torn v_now)) ⟨hx, hb, hml, hown, hts⟩ (c_X10_of l D cy sa a_v a_v_now a_v_st a_v_isKept a_v_draft a_v_placedRow a_v_tape a_v_by a_v_told a_v_bestRow a_v_ways a_v_lanes a_v_sizes a_v_cells a_v_before v_hasOrder v_hasStart v_placed v_placedMany v_highest v_taped v_pos v_begun v_sort v_value v_fault v_wrongAt v_rightSum v_wrongSum v_allWays v_torn v_now x3 x1 o5 hc6) (cwV 2 hts gX10_allOf_X10_of rfl rfl rfl (by decide +kernel) ⟨Nat.le_of_ble_eq_true rfl, Nat.le_of_ble_eq_true rfl⟩) rfl rfl rfl hE hP hDD rfl hS [0, 1] rfl rfl rfl rfl hl.1 (Nat.le_of_ble_eq_true rfl) ⟨Nat.zero_le _, Nat.zero_le _⟩ rfl dX10_allOf_19 rfl (fun H locs hP hS => ?_)
        refine wi_iadd hx hb dX10_allOf_22 ?_
        refine lv_istore_n (lv' := [(2, .int (zI (x2 + o5))), (0, .ref a_v), (1, .int (zI x1)), (3, .int (zI x3))]) hx hb dX10_allOf_23 rfl hl (by decide) rfl (fun ls hl => ?_)
        refine wi_iinc (k := 3) (lv' := [(3, .int (zI (x3 + 1))), (2, .int (zI (x2 + o5))), (0, .ref a_v), (1, .int (zI x1))]) hx hb dX10_allOf_24 hl rfl (by decide) rfl (fun ls hl => ?_)
        refine lv_goto (tgt := 4) hx hb dX10_allOf_27 (by decide) ?_
        exact ih x1 (x2 + o5) (x3 + 1) _ _ _ _ hP hS (lv_sub hl [2, 3, 1, 0] rfl) h K
  refine wi_ic hx hb dX10_allOf_0 ?_
  refine lv_istore_n (lv' := [(2, .int (zI 0)), (0, .ref a_v), (1, .int (zI x1))]) hx hb dX10_allOf_1 rfl hl (by decide) rfl (fun ls hl => ?_)
  refine wi_ic hx hb dX10_allOf_2 ?_
  refine lv_istore_n (lv' := [(3, .int (zI 0)), (2, .int (zI 0)), (0, .ref a_v), (1, .int (zI x1))]) hx hb dX10_allOf_3 rfl hl (by decide) rfl (fun ls hl => ?_)
  obtain ⟨o7, hx8, h⟩ := bnd_some h
  refine L4 5000 x1 0 0 _ _ _ _ hP hS (lv_sub hl [2, 3, 1, 0] rfl) hx8 ?_
  clear hx8
  intro H locs ls hP hS hl
  refine lv_iload_n hx hb dX10_allOf_30 rfl (lv_at hl 0 rfl) ?_
  obtain rfl := Option.some.inj h
  exact KR _ _ _ _ hP hS dX10_allOf_31
abbrev wd_X10_dayGoes (cy : Nat → ClassId) (a_v : Nat) (a_v_by : Nat) (a_v_now : Nat) (a_v_told : Nat) (a_v_st : Nat) (a_v_isKept : Nat) (a_v_draft : Nat) (a_v_placedRow : Nat) (a_v_tape : Nat) (a_v_bestRow : Nat) (a_v_ways : Nat) (a_v_lanes : Nat) (a_v_sizes : Nat) (a_v_cells : Nat) (a_v_before : Nat) (v_hasOrder : Int) (v_hasStart : Int) (v_placed : Int) (v_placedMany : Int) (v_highest : Int) (v_taped : Int) (v_pos : Int) (v_begun : Int) (v_sort : Int) (v_value : Int) (v_fault : Int) (v_wrongAt : Int) (v_rightSum : Int) (v_wrongSum : Int) (v_allWays : Int) (v_torn : Int) (v_by : Nat → Int) (v_now : Nat → Int) (v_told : Nat → Int) : va_W := [(a_v, .inr (10, [.ref a_v_st, .ref a_v_now, .ref a_v_isKept, .ref a_v_draft, .int (zI v_hasOrder), .int (zI v_hasStart), .int (zI v_placed), .int (zI v_placedMany), .ref a_v_placedRow, .int (zI v_highest), .ref a_v_tape, .int (zI v_taped), .int (zI v_pos), .int (zI v_begun), .int (zI v_sort), .int (zI v_value), .int (zI v_fault), .int (zI v_wrongAt), .ref a_v_by, .ref a_v_told, .ref a_v_bestRow, .long (zL v_rightSum), .long (zL v_wrongSum), .long (zL v_allWays), .ref a_v_ways, .ref a_v_lanes, .ref a_v_sizes, .ref a_v_cells, .int (zI v_torn), .ref a_v_before])), (a_v_by, .inl (cy 0, 120, .inl (fun j => zI (v_by j)))), (a_v_now, .inl (cy 0, 56, .inl (fun j => zI (v_now j)))), (a_v_told, .inl (cy 0, 120, .inl (fun j => zI (v_told j))))]
set_option maxHeartbeats 4000000 in
set_option maxRecDepth 100000 in
theorem c_X10_dayGoes (l : Launch) (D : va_G) (cy : Nat → ClassId) (sa : Nat → Nat) (a_v : Nat) (a_v_by : Nat) (a_v_now : Nat) (a_v_told : Nat) (a_v_st : Nat) (a_v_isKept : Nat) (a_v_draft : Nat) (a_v_placedRow : Nat) (a_v_tape : Nat) (a_v_bestRow : Nat) (a_v_ways : Nat) (a_v_lanes : Nat) (a_v_sizes : Nat) (a_v_cells : Nat) (a_v_before : Nat) (v_hasOrder : Int) (v_hasStart : Int) (v_placed : Int) (v_placedMany : Int) (v_highest : Int) (v_taped : Int) (v_pos : Int) (v_begun : Int) (v_sort : Int) (v_value : Int) (v_fault : Int) (v_wrongAt : Int) (v_rightSum : Int) (v_wrongSum : Int) (v_allWays : Int) (v_torn : Int) (v_by : Nat → Int) (v_now : Nat → Int) (v_told : Nat → Int) (o : (Nat → Int) × (Nat → Int)) (h : f_M_dayGoes v_by v_now v_told = some o) : CtV l yX10_dayGoes wsX10_dayGoes ({ frames := 3, cells := 0, slots := 0, locals := 66 }) D cy sa [.ref a_v] (wd_X10_dayGoes cy a_v a_v_by a_v_now a_v_told a_v_st a_v_isKept a_v_draft a_v_placedRow a_v_tape a_v_bestRow a_v_ways a_v_lanes a_v_sizes a_v_cells a_v_before v_hasOrder v_hasStart v_placed v_placedMany v_highest v_taped v_pos v_begun v_sort v_value v_fault v_wrongAt v_rightSum v_wrongSum v_allWays v_torn v_by v_now v_told) (wd_X10_dayGoes cy a_v a_v_by a_v_now a_v_told a_v_st a_v_isKept a_v_draft a_v_placedRow a_v_tape a_v_bestRow a_v_ways a_v_lanes a_v_sizes a_v_cells a_v_before v_hasOrder v_hasStart v_placed v_placedMany v_highest v_taped v_pos v_begun v_sort v_value v_fault v_wrongAt v_rightSum v_wrongSum v_allWays v_torn o.1 v_now o.2)  := by
  refine ct_V (cc := cX10_dayGoes) (maxL := 6) (plainFor_of_name (by decide)) rfl (Nat.le_of_ble_eq_true rfl) ?_
  intro p e s m below meth c A args QQ hx hb hml hown hts hE hDD hP KR ls hl
  have hl : lv_has ls 6 [(0, .ref a_v)] := hl
  have hDD : DD A [a_v, a_v_by, a_v_now, a_v_told] := hDD
  have hS : va_S A s.heap s.heap [] := va_S.rf
  have q0 := hts (.fieldLink RX10 29 "HatHoursModel" "by" "[I") (List.mem_of_getElem? (i := 1) rfl)
  have q1 := hts (.fieldLink RX10 32 "HatHoursModel" "told" "[I") (List.mem_of_getElem? (i := 2) rfl)
  have q2 := hts (.fieldLink RX10 13 "HatHoursModel" "now" "[I") (List.mem_of_getElem? (i := 3) rfl)
  have iX10 : ∀ w ∈ u_ws RX10 TX10 30, w ∈ wsX10_dayGoes := in_slice 28 30 rfl
  have L2 : ∀ (fuel : Nat) (v_by : Nat → Int) (v_told : Nat → Int) (x1 : Int) (H : Heap) (locs : List Loc) (ls : Array Slot) (ex : (Nat → Int) × (Nat → Int)), va_P D vwCl (wd_X10_dayGoes cy a_v a_v_by a_v_now a_v_told a_v_st a_v_isKept a_v_draft a_v_placedRow a_v_tape a_v_bestRow a_v_ways a_v_lanes a_v_sizes a_v_cells a_v_before v_hasOrder v_hasStart v_placed v_placedMany v_highest v_taped v_pos v_begun v_sort v_value v_fault v_wrongAt v_rightSum v_wrongSum v_allWays v_torn v_by v_now v_told) H → va_S A s.heap H locs → lv_has ls 6 [(0, .ref a_v), (1, .int (zI x1))] → f_M_dayGoes_L2 fuel v_by v_told x1 = some ex → (∀ (H : Heap) (locs : List Loc) (ls : Array Slot), va_P D vwCl (wd_X10_dayGoes cy a_v a_v_by a_v_now a_v_told a_v_st a_v_isKept a_v_draft a_v_placedRow a_v_tape a_v_bestRow a_v_ways a_v_lanes a_v_sizes a_v_cells a_v_before v_hasOrder v_hasStart v_placed v_placedMany v_highest v_taped v_pos v_begun v_sort v_value v_fault v_wrongAt v_rightSum v_wrongSum v_allWays v_torn ex.1 v_now ex.2) H → va_S A s.heap H locs → lv_has ls 6 [(0, .ref a_v)] → W p l e { frames := 3, cells := 0, slots := 0, locals := 66 } s m args below meth c H locs 0 0 QQ (F0 m 32 ls [])) → W p l e { frames := 3, cells := 0, slots := 0, locals := 66 } s m args below meth c H locs 0 0 QQ (F0 m 2 ls []) := by
    intro fuel
    induction fuel with
    | zero => intro _ _ _ H locs ls ex hP hS hl h K; cases h
    | succ fuel ih =>
      intro v_by v_told x1 H locs ls ex hP hS hl h K
      refine lv_iload_n hx hb dX10_dayGoes_2 rfl (lv_at hl 1 rfl) ?_
      refine wi_bi hx hb dX10_dayGoes_3 (by decide) ?_
      obtain ⟨hr1, h⟩ := chk_some h
      refine wi_ic_ge (tgt := 32) hx hb dX10_dayGoes_5 (by decide) hr1 (by decide) (fun c3 => ?_) (fun c3 => ?_)
      · have h := ite_t c3 h
        obtain rfl := Option.some.inj h
        exact K _ _ _ hP hS (lv_sub hl [0] rfl)
      · have h := ite_f c3 h
        refine lv_aload_n hx hb dX10_dayGoes_8 rfl (lv_at hl 0 rfl) ?_
        refine wi_get (v := .ref a_v_by) hx hb hts iX10 hown hE hP 0 rfl rfl 18 (by decide) q0 rfl dX10_dayGoes_9 ?_
        refine lv_iload_n hx hb dX10_dayGoes_12 rfl (lv_at hl 1 rfl) ?_
        refine wi_bi hx hb dX10_dayGoes_13 (by decide) ?_
        obtain ⟨hk4, h⟩ := chk_some h
        refine wi_iast (w2 := (wd_X10_dayGoes cy a_v a_v_by a_v_now a_v_told a_v_st a_v_isKept a_v_draft a_v_placedRow a_v_tape a_v_bestRow a_v_ways a_v_lanes a_v_sizes a_v_cells a_v_before v_hasOrder v_hasStart v_placed v_placedMany v_highest v_taped v_pos v_begun v_sort v_value v_fault v_wrongAt v_rightSum v_wrongSum v_allWays v_torn (upZ v_by (x1).toNat (-4)) v_now v_told)) hx hb hE hP hDD rfl hS 1 rfl (by decide) hk4 dX10_dayGoes_15 rfl (fun H locs hP hS => ?_)
        refine lv_aload_n hx hb dX10_dayGoes_16 rfl (lv_at hl 0 rfl) ?_
        refine wi_get (v := .ref a_v_told) hx hb hts iX10 hown hE hP 0 rfl rfl 19 (by decide) q1 rfl dX10_dayGoes_17 ?_
        refine lv_iload_n hx hb dX10_dayGoes_20 rfl (lv_at hl 1 rfl) ?_
        refine lv_iload_n hx hb dX10_dayGoes_21 rfl (lv_at hl 1 rfl) ?_
        refine wi_bi hx hb dX10_dayGoes_22 (by decide) ?_
        obtain ⟨hk5, h⟩ := chk_some h
        refine wi_irem hx hb dX10_dayGoes_24 ⟨hk5, by decide⟩ ?_
        refine wi_iast (w2 := (wd_X10_dayGoes cy a_v a_v_by a_v_now a_v_told a_v_st a_v_isKept a_v_draft a_v_placedRow a_v_tape a_v_bestRow a_v_ways a_v_lanes a_v_sizes a_v_cells a_v_before v_hasOrder v_hasStart v_placed v_placedMany v_highest v_taped v_pos v_begun v_sort v_value v_fault v_wrongAt v_rightSum v_wrongSum v_allWays v_torn (upZ v_by (x1).toNat (-4)) v_now (upZ v_told (x1).toNat (x1 % 24)))) hx hb hE hP hDD rfl hS 3 rfl (by decide) hk4 dX10_dayGoes_25 rfl (fun H locs hP hS => ?_)
        refine wi_iinc (k := 1) (lv' := [(1, .int (zI (x1 + 1))), (0, .ref a_v)]) hx hb dX10_dayGoes_26 hl rfl (by decide) rfl (fun ls hl => ?_)
        refine lv_goto (tgt := 2) hx hb dX10_dayGoes_29 (by decide) ?_
        exact ih (upZ v_by (x1).toNat (-4)) (upZ v_told (x1).toNat (x1 % 24)) (x1 + 1) _ _ _ _ hP hS (lv_sub hl [1, 0] rfl) h K
  have L77 : ∀ (fuel : Nat) (v_by : Nat → Int) (v_told : Nat → Int) (x1 : Int) (x2 : Int) (x3 : Int) (x4 : Int) (H : Heap) (locs : List Loc) (ls : Array Slot) (ex : (Nat → Int) × (Nat → Int)), va_P D vwCl (wd_X10_dayGoes cy a_v a_v_by a_v_now a_v_told a_v_st a_v_isKept a_v_draft a_v_placedRow a_v_tape a_v_bestRow a_v_ways a_v_lanes a_v_sizes a_v_cells a_v_before v_hasOrder v_hasStart v_placed v_placedMany v_highest v_taped v_pos v_begun v_sort v_value v_fault v_wrongAt v_rightSum v_wrongSum v_allWays v_torn v_by v_now v_told) H → va_S A s.heap H locs → lv_has ls 6 [(0, .ref a_v), (1, .int (zI x1)), (2, .int (zI x2)), (3, .int (zI x3)), (4, .int (zI x4))] → f_M_dayGoes_L77 fuel v_by v_now v_told x1 x2 x3 x4 = some ex → (∀ (H : Heap) (locs : List Loc) (ls : Array Slot), va_P D vwCl (wd_X10_dayGoes cy a_v a_v_by a_v_now a_v_told a_v_st a_v_isKept a_v_draft a_v_placedRow a_v_tape a_v_bestRow a_v_ways a_v_lanes a_v_sizes a_v_cells a_v_before v_hasOrder v_hasStart v_placed v_placedMany v_highest v_taped v_pos v_begun v_sort v_value v_fault v_wrongAt v_rightSum v_wrongSum v_allWays v_torn ex.1 v_now ex.2) H → va_S A s.heap H locs → lv_has ls 6 [(0, .ref a_v), (1, .int (zI x1))] → W p l e { frames := 3, cells := 0, slots := 0, locals := 66 } s m args below meth c H locs 0 0 QQ (F0 m 165 ls [])) → W p l e { frames := 3, cells := 0, slots := 0, locals := 66 } s m args below meth c H locs 0 0 QQ (F0 m 77 ls []) := by
    intro fuel
    induction fuel with
    | zero => intro _ _ _ _ _ _ H locs ls ex hP hS hl h K; cases h
    | succ fuel ih =>
      intro v_by v_told x1 x2 x3 x4 H locs ls ex hP hS hl h K
      refine lv_iload hx hb dX10_dayGoes_77 (lv_at hl 4 rfl) ?_
      refine lv_iload_n hx hb dX10_dayGoes_79 rfl (lv_at hl 3 rfl) ?_
      obtain ⟨hr22, h⟩ := chk_some h
      obtain ⟨hr23, h⟩ := chk_some h
      refine wi_ic_ge (tgt := 165) hx hb dX10_dayGoes_80 (by decide) hr22 hr23 (fun c25 => ?_) (fun c25 => ?_)
      · have h := ite_t c25 h
        obtain rfl := Option.some.inj h
        exact K _ _ _ hP hS (lv_sub hl [0, 1] rfl)
      · have h := ite_f c25 h
        refine wi_bi hx hb dX10_dayGoes_83 (by decide) ?_
        refine lv_aload_n hx hb dX10_dayGoes_85 rfl (lv_at hl 0 rfl) ?_
        refine lv_iload_n hx hb dX10_dayGoes_86 rfl (lv_at hl 1 rfl) ?_
        refine wi_ic hx hb dX10_dayGoes_87 ?_
        obtain ⟨o26, hc27, h⟩ := bnd_some h
        refine cV_i (rest := [.int (zI 24)]) (w2 := (wd_X10_dayGoes cy a_v a_v_by a_v_now a_v_told a_v_st a_v_isKept a_v_draft a_v_placedRow a_v_tape a_v_bestRow a_v_ways a_v_lanes a_v_sizes a_v_cells a_v_before v_hasOrder v_hasStart v_placed v_placedMany v_highest v_taped v_pos v_begun v_sort v_value v_fault v_wrongAt v_rightSum v_wrongSum v_allWays v_torn v_by v_now v_told)) ⟨hx, hb, hml, hown, hts⟩ (c_X10_of l D cy sa a_v a_v_now a_v_st a_v_isKept a_v_draft a_v_placedRow a_v_tape a_v_by a_v_told a_v_bestRow a_v_ways a_v_lanes a_v_sizes a_v_cells a_v_before v_hasOrder v_hasStart v_placed v_placedMany v_highest v_taped v_pos v_begun v_sort v_value v_fault v_wrongAt v_rightSum v_wrongSum v_allWays v_torn v_now x1 5 o26 hc27) (cwV 2 hts gX10_dayGoes_X10_of rfl rfl rfl (by decide +kernel) ⟨Nat.le_of_ble_eq_true rfl, Nat.le_of_ble_eq_true rfl⟩) rfl rfl rfl hE hP hDD rfl hS [0, 2] rfl rfl rfl rfl hl.1 (Nat.le_of_ble_eq_true rfl) ⟨Nat.zero_le _, Nat.zero_le _⟩ rfl dX10_dayGoes_88 rfl (fun H locs hP hS => ?_)
        refine wi_imul hx hb dX10_dayGoes_91 ?_
        refine lv_iload hx hb dX10_dayGoes_92 (lv_at hl 4 rfl) ?_
        refine wi_iadd hx hb dX10_dayGoes_94 ?_
        refine lv_istore (lv' := [(5, .int (zI ((24 * o26) + x4))), (0, .ref a_v), (1, .int (zI x1)), (2, .int (zI x2)), (3, .int (zI x3)), (4, .int (zI x4))]) hx hb dX10_dayGoes_95 hl (by decide) rfl (fun ls hl => ?_)
        refine lv_aload_n hx hb dX10_dayGoes_97 rfl (lv_at hl 1 rfl) ?_
        refine wi_get (v := .ref a_v_by) hx hb hts iX10 hown hE hP 0 rfl rfl 18 (by decide) q0 rfl dX10_dayGoes_98 ?_
        refine lv_iload hx hb dX10_dayGoes_101 (lv_at hl 0 rfl) ?_
        obtain ⟨hk28, h⟩ := chk_some h
        refine wi_iald hx hb hE hP 1 rfl (by decide) hk28 dX10_dayGoes_103 ?_
        refine wi_bi hx hb dX10_dayGoes_104 (by decide) ?_
        obtain ⟨hr29, h⟩ := chk_some h
        refine wi_ic_eq (tgt := 130) hx hb dX10_dayGoes_106 (by decide) hr29 (by decide) (fun c31 => ?_) (fun c31 => ?_)
        · have h := ite_t c31 h
          refine lv_aload_n hx hb dX10_dayGoes_130 rfl (lv_at hl 1 rfl) ?_
          refine wi_get (v := .ref a_v_by) hx hb hts iX10 hown hE hP 0 rfl rfl 18 (by decide) q0 rfl dX10_dayGoes_131 ?_
          refine lv_iload hx hb dX10_dayGoes_134 (lv_at hl 0 rfl) ?_
          refine lv_iload_n hx hb dX10_dayGoes_136 rfl (lv_at hl 2 rfl) ?_
          refine wi_iast (w2 := (wd_X10_dayGoes cy a_v a_v_by a_v_now a_v_told a_v_st a_v_isKept a_v_draft a_v_placedRow a_v_tape a_v_bestRow a_v_ways a_v_lanes a_v_sizes a_v_cells a_v_before v_hasOrder v_hasStart v_placed v_placedMany v_highest v_taped v_pos v_begun v_sort v_value v_fault v_wrongAt v_rightSum v_wrongSum v_allWays v_torn (upZ v_by ((24 * o26) + x4).toNat x1) v_now v_told)) hx hb hE hP hDD rfl hS 1 rfl (by decide) hk28 dX10_dayGoes_137 rfl (fun H locs hP hS => ?_)
          refine lv_aload_n hx hb dX10_dayGoes_138 rfl (lv_at hl 1 rfl) ?_
          refine wi_get (v := .ref a_v_told) hx hb hts iX10 hown hE hP 0 rfl rfl 19 (by decide) q1 rfl dX10_dayGoes_139 ?_
          refine lv_iload hx hb dX10_dayGoes_142 (lv_at hl 0 rfl) ?_
          refine lv_iload_n hx hb dX10_dayGoes_144 rfl (lv_at hl 3 rfl) ?_
          refine lv_iload hx hb dX10_dayGoes_145 (lv_at hl 5 rfl) ?_
          refine wi_iadd hx hb dX10_dayGoes_147 ?_
          refine lv_aload_n hx hb dX10_dayGoes_148 rfl (lv_at hl 1 rfl) ?_
          refine lv_iload_n hx hb dX10_dayGoes_149 rfl (lv_at hl 2 rfl) ?_
          refine wi_ic hx hb dX10_dayGoes_150 ?_
          obtain ⟨o32, hc33, h⟩ := bnd_some h
          refine cV_i (rest := [.int (zI (x2 + x4)), .int (zI ((24 * o26) + x4)), .ref a_v_told]) (w2 := (wd_X10_dayGoes cy a_v a_v_by a_v_now a_v_told a_v_st a_v_isKept a_v_draft a_v_placedRow a_v_tape a_v_bestRow a_v_ways a_v_lanes a_v_sizes a_v_cells a_v_before v_hasOrder v_hasStart v_placed v_placedMany v_highest v_taped v_pos v_begun v_sort v_value v_fault v_wrongAt v_rightSum v_wrongSum v_allWays v_torn (upZ v_by ((24 * o26) + x4).toNat x1) v_now v_told)) ⟨hx, hb, hml, hown, hts⟩ (c_X10_of l D cy sa a_v a_v_now a_v_st a_v_isKept a_v_draft a_v_placedRow a_v_tape a_v_by a_v_told a_v_bestRow a_v_ways a_v_lanes a_v_sizes a_v_cells a_v_before v_hasOrder v_hasStart v_placed v_placedMany v_highest v_taped v_pos v_begun v_sort v_value v_fault v_wrongAt v_rightSum v_wrongSum v_allWays v_torn v_now x1 4 o32 hc33) (cwV 2 hts gX10_dayGoes_X10_of rfl rfl rfl (by decide +kernel) ⟨Nat.le_of_ble_eq_true rfl, Nat.le_of_ble_eq_true rfl⟩) rfl rfl rfl hE hP hDD rfl hS [0, 2] rfl rfl rfl rfl hl.1 (Nat.le_of_ble_eq_true rfl) ⟨Nat.zero_le _, Nat.zero_le _⟩ rfl dX10_dayGoes_151 rfl (fun H locs hP hS => ?_)
          refine wi_isub hx hb dX10_dayGoes_154 ?_
          refine wi_bi hx hb dX10_dayGoes_155 (by decide) ?_
          obtain ⟨hk34, h⟩ := chk_some h
          refine wi_irem hx hb dX10_dayGoes_157 ⟨hk34, by decide⟩ ?_
          refine wi_iast (w2 := (wd_X10_dayGoes cy a_v a_v_by a_v_now a_v_told a_v_st a_v_isKept a_v_draft a_v_placedRow a_v_tape a_v_bestRow a_v_ways a_v_lanes a_v_sizes a_v_cells a_v_before v_hasOrder v_hasStart v_placed v_placedMany v_highest v_taped v_pos v_begun v_sort v_value v_fault v_wrongAt v_rightSum v_wrongSum v_allWays v_torn (upZ v_by ((24 * o26) + x4).toNat x1) v_now (upZ v_told ((24 * o26) + x4).toNat (((x2 + x4) - o32) % 24)))) hx hb hE hP hDD rfl hS 3 rfl (by decide) hk28 dX10_dayGoes_158 rfl (fun H locs hP hS => ?_)
          refine wi_iinc (k := 5) (lv' := [(4, .int (zI (x4 + 1))), (5, .int (zI ((24 * o26) + x4))), (0, .ref a_v), (1, .int (zI x1)), (2, .int (zI x2)), (3, .int (zI x3))]) hx hb dX10_dayGoes_159 hl rfl (by decide) rfl (fun ls hl => ?_)
          refine lv_goto (tgt := 77) hx hb dX10_dayGoes_162 (by decide) ?_
          exact ih (upZ v_by ((24 * o26) + x4).toNat x1) (upZ v_told ((24 * o26) + x4).toNat (((x2 + x4) - o32) % 24)) x1 x2 x3 (x4 + 1) _ _ _ _ hP hS (lv_sub hl [2, 3, 4, 5, 0] rfl) h K
        · have h := ite_f c31 h
          refine lv_aload_n hx hb dX10_dayGoes_109 rfl (lv_at hl 1 rfl) ?_
          refine lv_iload_n hx hb dX10_dayGoes_110 rfl (lv_at hl 2 rfl) ?_
          refine wi_ic hx hb dX10_dayGoes_111 ?_
          obtain ⟨o35, hc36, h⟩ := bnd_some h
          refine cV_i (rest := []) (w2 := (wd_X10_dayGoes cy a_v a_v_by a_v_now a_v_told a_v_st a_v_isKept a_v_draft a_v_placedRow a_v_tape a_v_bestRow a_v_ways a_v_lanes a_v_sizes a_v_cells a_v_before v_hasOrder v_hasStart v_placed v_placedMany v_highest v_taped v_pos v_begun v_sort v_value v_fault v_wrongAt v_rightSum v_wrongSum v_allWays v_torn v_by v_now v_told)) ⟨hx, hb, hml, hown, hts⟩ (c_X10_of l D cy sa a_v a_v_now a_v_st a_v_isKept a_v_draft a_v_placedRow a_v_tape a_v_by a_v_told a_v_bestRow a_v_ways a_v_lanes a_v_sizes a_v_cells a_v_before v_hasOrder v_hasStart v_placed v_placedMany v_highest v_taped v_pos v_begun v_sort v_value v_fault v_wrongAt v_rightSum v_wrongSum v_allWays v_torn v_now x1 4 o35 hc36) (cwV 2 hts gX10_dayGoes_X10_of rfl rfl rfl (by decide +kernel) ⟨Nat.le_of_ble_eq_true rfl, Nat.le_of_ble_eq_true rfl⟩) rfl rfl rfl hE hP hDD rfl hS [0, 2] rfl rfl rfl rfl hl.1 (Nat.le_of_ble_eq_true rfl) ⟨Nat.zero_le _, Nat.zero_le _⟩ rfl dX10_dayGoes_112 rfl (fun H locs hP hS => ?_)
          refine lv_aload_n hx hb dX10_dayGoes_115 rfl (lv_at hl 1 rfl) ?_
          refine lv_aload_n hx hb dX10_dayGoes_116 rfl (lv_at hl 1 rfl) ?_
          refine wi_get (v := .ref a_v_by) hx hb hts iX10 hown hE hP 0 rfl rfl 18 (by decide) q0 rfl dX10_dayGoes_117 ?_
          refine lv_iload hx hb dX10_dayGoes_120 (lv_at hl 0 rfl) ?_
          refine wi_iald hx hb hE hP 1 rfl (by decide) hk28 dX10_dayGoes_122 ?_
          refine wi_ic hx hb dX10_dayGoes_123 ?_
          obtain ⟨o37, hc38, h⟩ := bnd_some h
          refine cV_i (rest := [.int (zI o35)]) (w2 := (wd_X10_dayGoes cy a_v a_v_by a_v_now a_v_told a_v_st a_v_isKept a_v_draft a_v_placedRow a_v_tape a_v_bestRow a_v_ways a_v_lanes a_v_sizes a_v_cells a_v_before v_hasOrder v_hasStart v_placed v_placedMany v_highest v_taped v_pos v_begun v_sort v_value v_fault v_wrongAt v_rightSum v_wrongSum v_allWays v_torn v_by v_now v_told)) ⟨hx, hb, hml, hown, hts⟩ (c_X10_of l D cy sa a_v a_v_now a_v_st a_v_isKept a_v_draft a_v_placedRow a_v_tape a_v_by a_v_told a_v_bestRow a_v_ways a_v_lanes a_v_sizes a_v_cells a_v_before v_hasOrder v_hasStart v_placed v_placedMany v_highest v_taped v_pos v_begun v_sort v_value v_fault v_wrongAt v_rightSum v_wrongSum v_allWays v_torn v_now (v_by ((24 * o26) + x4).toNat) 4 o37 hc38) (cwV 2 hts gX10_dayGoes_X10_of rfl rfl rfl (by decide +kernel) ⟨Nat.le_of_ble_eq_true rfl, Nat.le_of_ble_eq_true rfl⟩) rfl rfl rfl hE hP hDD rfl hS [0, 2] rfl rfl rfl rfl hl.1 (Nat.le_of_ble_eq_true rfl) ⟨Nat.zero_le _, Nat.zero_le _⟩ rfl dX10_dayGoes_124 rfl (fun H locs hP hS => ?_)
          obtain ⟨hr39, h⟩ := chk_some h
          obtain ⟨hr40, h⟩ := chk_some h
          refine wi_ic_lt (tgt := 159) hx hb dX10_dayGoes_127 (by decide) hr39 hr40 (fun c42 => ?_) (fun c42 => ?_)
          · have h := ite_t c42 h
            refine wi_iinc (k := 5) (lv' := [(4, .int (zI (x4 + 1))), (5, .int (zI ((24 * o26) + x4))), (0, .ref a_v), (1, .int (zI x1)), (2, .int (zI x2)), (3, .int (zI x3))]) hx hb dX10_dayGoes_159 hl rfl (by decide) rfl (fun ls hl => ?_)
            refine lv_goto (tgt := 77) hx hb dX10_dayGoes_162 (by decide) ?_
            exact ih v_by v_told x1 x2 x3 (x4 + 1) _ _ _ _ hP hS (lv_sub hl [2, 3, 4, 5, 0] rfl) h K
          · have h := ite_f c42 h
            refine lv_aload_n hx hb dX10_dayGoes_130 rfl (lv_at hl 1 rfl) ?_
            refine wi_get (v := .ref a_v_by) hx hb hts iX10 hown hE hP 0 rfl rfl 18 (by decide) q0 rfl dX10_dayGoes_131 ?_
            refine lv_iload hx hb dX10_dayGoes_134 (lv_at hl 0 rfl) ?_
            refine lv_iload_n hx hb dX10_dayGoes_136 rfl (lv_at hl 2 rfl) ?_
            refine wi_iast (w2 := (wd_X10_dayGoes cy a_v a_v_by a_v_now a_v_told a_v_st a_v_isKept a_v_draft a_v_placedRow a_v_tape a_v_bestRow a_v_ways a_v_lanes a_v_sizes a_v_cells a_v_before v_hasOrder v_hasStart v_placed v_placedMany v_highest v_taped v_pos v_begun v_sort v_value v_fault v_wrongAt v_rightSum v_wrongSum v_allWays v_torn (upZ v_by ((24 * o26) + x4).toNat x1) v_now v_told)) hx hb hE hP hDD rfl hS 1 rfl (by decide) hk28 dX10_dayGoes_137 rfl (fun H locs hP hS => ?_)
            refine lv_aload_n hx hb dX10_dayGoes_138 rfl (lv_at hl 1 rfl) ?_
            refine wi_get (v := .ref a_v_told) hx hb hts iX10 hown hE hP 0 rfl rfl 19 (by decide) q1 rfl dX10_dayGoes_139 ?_
            refine lv_iload hx hb dX10_dayGoes_142 (lv_at hl 0 rfl) ?_
            refine lv_iload_n hx hb dX10_dayGoes_144 rfl (lv_at hl 3 rfl) ?_
            refine lv_iload hx hb dX10_dayGoes_145 (lv_at hl 5 rfl) ?_
            refine wi_iadd hx hb dX10_dayGoes_147 ?_
            refine lv_aload_n hx hb dX10_dayGoes_148 rfl (lv_at hl 1 rfl) ?_
            refine lv_iload_n hx hb dX10_dayGoes_149 rfl (lv_at hl 2 rfl) ?_
            refine wi_ic hx hb dX10_dayGoes_150 ?_
            obtain ⟨o43, hc44, h⟩ := bnd_some h
            refine cV_i (rest := [.int (zI (x2 + x4)), .int (zI ((24 * o26) + x4)), .ref a_v_told]) (w2 := (wd_X10_dayGoes cy a_v a_v_by a_v_now a_v_told a_v_st a_v_isKept a_v_draft a_v_placedRow a_v_tape a_v_bestRow a_v_ways a_v_lanes a_v_sizes a_v_cells a_v_before v_hasOrder v_hasStart v_placed v_placedMany v_highest v_taped v_pos v_begun v_sort v_value v_fault v_wrongAt v_rightSum v_wrongSum v_allWays v_torn (upZ v_by ((24 * o26) + x4).toNat x1) v_now v_told)) ⟨hx, hb, hml, hown, hts⟩ (c_X10_of l D cy sa a_v a_v_now a_v_st a_v_isKept a_v_draft a_v_placedRow a_v_tape a_v_by a_v_told a_v_bestRow a_v_ways a_v_lanes a_v_sizes a_v_cells a_v_before v_hasOrder v_hasStart v_placed v_placedMany v_highest v_taped v_pos v_begun v_sort v_value v_fault v_wrongAt v_rightSum v_wrongSum v_allWays v_torn v_now x1 4 o43 hc44) (cwV 2 hts gX10_dayGoes_X10_of rfl rfl rfl (by decide +kernel) ⟨Nat.le_of_ble_eq_true rfl, Nat.le_of_ble_eq_true rfl⟩) rfl rfl rfl hE hP hDD rfl hS [0, 2] rfl rfl rfl rfl hl.1 (Nat.le_of_ble_eq_true rfl) ⟨Nat.zero_le _, Nat.zero_le _⟩ rfl dX10_dayGoes_151 rfl (fun H locs hP hS => ?_)
            refine wi_isub hx hb dX10_dayGoes_154 ?_
            refine wi_bi hx hb dX10_dayGoes_155 (by decide) ?_
            obtain ⟨hk45, h⟩ := chk_some h
            refine wi_irem hx hb dX10_dayGoes_157 ⟨hk45, by decide⟩ ?_
            refine wi_iast (w2 := (wd_X10_dayGoes cy a_v a_v_by a_v_now a_v_told a_v_st a_v_isKept a_v_draft a_v_placedRow a_v_tape a_v_bestRow a_v_ways a_v_lanes a_v_sizes a_v_cells a_v_before v_hasOrder v_hasStart v_placed v_placedMany v_highest v_taped v_pos v_begun v_sort v_value v_fault v_wrongAt v_rightSum v_wrongSum v_allWays v_torn (upZ v_by ((24 * o26) + x4).toNat x1) v_now (upZ v_told ((24 * o26) + x4).toNat (((x2 + x4) - o43) % 24)))) hx hb hE hP hDD rfl hS 3 rfl (by decide) hk28 dX10_dayGoes_158 rfl (fun H locs hP hS => ?_)
            refine wi_iinc (k := 5) (lv' := [(4, .int (zI (x4 + 1))), (5, .int (zI ((24 * o26) + x4))), (0, .ref a_v), (1, .int (zI x1)), (2, .int (zI x2)), (3, .int (zI x3))]) hx hb dX10_dayGoes_159 hl rfl (by decide) rfl (fun ls hl => ?_)
            refine lv_goto (tgt := 77) hx hb dX10_dayGoes_162 (by decide) ?_
            exact ih (upZ v_by ((24 * o26) + x4).toNat x1) (upZ v_told ((24 * o26) + x4).toNat (((x2 + x4) - o43) % 24)) x1 x2 x3 (x4 + 1) _ _ _ _ hP hS (lv_sub hl [2, 3, 4, 5, 0] rfl) h K
  have L34 : ∀ (fuel : Nat) (v_by : Nat → Int) (v_told : Nat → Int) (x1 : Int) (H : Heap) (locs : List Loc) (ls : Array Slot) (ex : (Nat → Int) × (Nat → Int)), va_P D vwCl (wd_X10_dayGoes cy a_v a_v_by a_v_now a_v_told a_v_st a_v_isKept a_v_draft a_v_placedRow a_v_tape a_v_bestRow a_v_ways a_v_lanes a_v_sizes a_v_cells a_v_before v_hasOrder v_hasStart v_placed v_placedMany v_highest v_taped v_pos v_begun v_sort v_value v_fault v_wrongAt v_rightSum v_wrongSum v_allWays v_torn v_by v_now v_told) H → va_S A s.heap H locs → lv_has ls 6 [(0, .ref a_v), (1, .int (zI x1))] → f_M_dayGoes_L34 fuel v_by v_now v_told x1 = some ex → (∀ (H : Heap) (locs : List Loc) (ls : Array Slot), va_P D vwCl (wd_X10_dayGoes cy a_v a_v_by a_v_now a_v_told a_v_st a_v_isKept a_v_draft a_v_placedRow a_v_tape a_v_bestRow a_v_ways a_v_lanes a_v_sizes a_v_cells a_v_before v_hasOrder v_hasStart v_placed v_placedMany v_highest v_taped v_pos v_begun v_sort v_value v_fault v_wrongAt v_rightSum v_wrongSum v_allWays v_torn ex.1 v_now ex.2) H → va_S A s.heap H locs → lv_has ls 6 [] → W p l e { frames := 3, cells := 0, slots := 0, locals := 66 } s m args below meth c H locs 0 0 QQ (F0 m 171 ls [])) → W p l e { frames := 3, cells := 0, slots := 0, locals := 66 } s m args below meth c H locs 0 0 QQ (F0 m 34 ls []) := by
    intro fuel
    induction fuel with
    | zero => intro _ _ _ H locs ls ex hP hS hl h K; cases h
    | succ fuel ih =>
      intro v_by v_told x1 H locs ls ex hP hS hl h K
      refine lv_iload_n hx hb dX10_dayGoes_34 rfl (lv_at hl 1 rfl) ?_
      refine lv_aload_n hx hb dX10_dayGoes_35 rfl (lv_at hl 0 rfl) ?_
      refine wi_get (v := .ref a_v_now) hx hb hts iX10 hown hE hP 0 rfl rfl 1 (by decide) q2 rfl dX10_dayGoes_36 ?_
      refine wi_bi hx hb dX10_dayGoes_39 (by decide) ?_
      refine wi_iald hx hb hE hP 2 rfl (by decide) (by decide) dX10_dayGoes_41 ?_
      obtain ⟨hr8, h⟩ := chk_some h
      obtain ⟨hr9, h⟩ := chk_some h
      refine wi_ic_ge (tgt := 171) hx hb dX10_dayGoes_42 (by decide) hr8 hr9 (fun c11 => ?_) (fun c11 => ?_)
      · have h := ite_t c11 h
        obtain rfl := Option.some.inj h
        exact K _ _ _ hP hS (lv_sub hl [] rfl)
      · have h := ite_f c11 h
        refine lv_aload_n hx hb dX10_dayGoes_45 rfl (lv_at hl 0 rfl) ?_
        refine lv_iload_n hx hb dX10_dayGoes_46 rfl (lv_at hl 1 rfl) ?_
        obtain ⟨o12, hc13, h⟩ := bnd_some h
        refine cV_i (rest := []) (w2 := (wd_X10_dayGoes cy a_v a_v_by a_v_now a_v_told a_v_st a_v_isKept a_v_draft a_v_placedRow a_v_tape a_v_bestRow a_v_ways a_v_lanes a_v_sizes a_v_cells a_v_before v_hasOrder v_hasStart v_placed v_placedMany v_highest v_taped v_pos v_begun v_sort v_value v_fault v_wrongAt v_rightSum v_wrongSum v_allWays v_torn v_by v_now v_told)) ⟨hx, hb, hml, hown, hts⟩ (c_X10_ownHour l D cy sa a_v a_v_now a_v_st a_v_isKept a_v_draft a_v_placedRow a_v_tape a_v_by a_v_told a_v_bestRow a_v_ways a_v_lanes a_v_sizes a_v_cells a_v_before v_hasOrder v_hasStart v_placed v_placedMany v_highest v_taped v_pos v_begun v_sort v_value v_fault v_wrongAt v_rightSum v_wrongSum v_allWays v_torn v_now x1 o12 hc13) (cwV 1 hts gX10_dayGoes_X10_ownHour rfl rfl rfl (by decide +kernel) ⟨Nat.le_of_ble_eq_true rfl, Nat.le_of_ble_eq_true rfl⟩) rfl rfl rfl hE hP hDD rfl hS [0, 2] rfl rfl rfl rfl hl.1 (Nat.le_of_ble_eq_true rfl) ⟨Nat.zero_le _, Nat.zero_le _⟩ rfl dX10_dayGoes_47 rfl (fun H locs hP hS => ?_)
        refine lv_istore_n (lv' := [(2, .int (zI o12)), (0, .ref a_v), (1, .int (zI x1))]) hx hb dX10_dayGoes_50 rfl hl (by decide) rfl (fun ls hl => ?_)
        refine wi_bi hx hb dX10_dayGoes_51 (by decide) ?_
        refine lv_aload_n hx hb dX10_dayGoes_53 rfl (lv_at hl 1 rfl) ?_
        refine lv_iload_n hx hb dX10_dayGoes_54 rfl (lv_at hl 2 rfl) ?_
        refine wi_ic hx hb dX10_dayGoes_55 ?_
        obtain ⟨o14, hc15, h⟩ := bnd_some h
        refine cV_i (rest := [.int (zI 24)]) (w2 := (wd_X10_dayGoes cy a_v a_v_by a_v_now a_v_told a_v_st a_v_isKept a_v_draft a_v_placedRow a_v_tape a_v_bestRow a_v_ways a_v_lanes a_v_sizes a_v_cells a_v_before v_hasOrder v_hasStart v_placed v_placedMany v_highest v_taped v_pos v_begun v_sort v_value v_fault v_wrongAt v_rightSum v_wrongSum v_allWays v_torn v_by v_now v_told)) ⟨hx, hb, hml, hown, hts⟩ (c_X10_of l D cy sa a_v a_v_now a_v_st a_v_isKept a_v_draft a_v_placedRow a_v_tape a_v_by a_v_told a_v_bestRow a_v_ways a_v_lanes a_v_sizes a_v_cells a_v_before v_hasOrder v_hasStart v_placed v_placedMany v_highest v_taped v_pos v_begun v_sort v_value v_fault v_wrongAt v_rightSum v_wrongSum v_allWays v_torn v_now x1 4 o14 hc15) (cwV 2 hts gX10_dayGoes_X10_of rfl rfl rfl (by decide +kernel) ⟨Nat.le_of_ble_eq_true rfl, Nat.le_of_ble_eq_true rfl⟩) rfl rfl rfl hE hP hDD rfl hS [0, 2] rfl rfl rfl rfl hl.1 (Nat.le_of_ble_eq_true rfl) ⟨Nat.zero_le _, Nat.zero_le _⟩ rfl dX10_dayGoes_56 rfl (fun H locs hP hS => ?_)
        refine lv_aload_n hx hb dX10_dayGoes_59 rfl (lv_at hl 1 rfl) ?_
        refine lv_iload_n hx hb dX10_dayGoes_60 rfl (lv_at hl 2 rfl) ?_
        obtain ⟨o16, hc17, h⟩ := bnd_some h
        refine cV_i (rest := [.int (zI o14), .int (zI 24)]) (w2 := (wd_X10_dayGoes cy a_v a_v_by a_v_now a_v_told a_v_st a_v_isKept a_v_draft a_v_placedRow a_v_tape a_v_bestRow a_v_ways a_v_lanes a_v_sizes a_v_cells a_v_before v_hasOrder v_hasStart v_placed v_placedMany v_highest v_taped v_pos v_begun v_sort v_value v_fault v_wrongAt v_rightSum v_wrongSum v_allWays v_torn v_by v_now v_told)) ⟨hx, hb, hml, hown, hts⟩ (c_X10_lasts l D cy sa a_v a_v_now a_v_st a_v_isKept a_v_draft a_v_placedRow a_v_tape a_v_by a_v_told a_v_bestRow a_v_ways a_v_lanes a_v_sizes a_v_cells a_v_before v_hasOrder v_hasStart v_placed v_placedMany v_highest v_taped v_pos v_begun v_sort v_value v_fault v_wrongAt v_rightSum v_wrongSum v_allWays v_torn v_now x1 o16 hc17) (cwV 1 hts gX10_dayGoes_X10_lasts rfl rfl rfl (by decide +kernel) ⟨Nat.le_of_ble_eq_true rfl, Nat.le_of_ble_eq_true rfl⟩) rfl rfl rfl hE hP hDD rfl hS [0, 2] rfl rfl rfl rfl hl.1 (Nat.le_of_ble_eq_true rfl) ⟨Nat.zero_le _, Nat.zero_le _⟩ rfl dX10_dayGoes_61 rfl (fun H locs hP hS => ?_)
        refine wi_iadd hx hb dX10_dayGoes_64 ?_
        obtain ⟨o18, hc19, h⟩ := bnd_some h
        refine cS_i (rest := []) (w2 := (wd_X10_dayGoes cy a_v a_v_by a_v_now a_v_told a_v_st a_v_isKept a_v_draft a_v_placedRow a_v_tape a_v_bestRow a_v_ways a_v_lanes a_v_sizes a_v_cells a_v_before v_hasOrder v_hasStart v_placed v_placedMany v_highest v_taped v_pos v_begun v_sort v_value v_fault v_wrongAt v_rightSum v_wrongSum v_allWays v_torn v_by v_now v_told)) ⟨hx, hb, hml, hown, hts⟩ (c_X10_lesser l D cy sa 24 (o14 + o16) o18 hc19) (va_cwS 2 hts gX10_dayGoes_X10_lesser rfl rfl rfl (by decide +kernel) ⟨Nat.le_of_ble_eq_true rfl, Nat.le_of_ble_eq_true rfl⟩) hE hP hDD rfl hS [] rfl rfl rfl rfl hl.1 (Nat.le_of_ble_eq_true rfl) ⟨Nat.zero_le _, Nat.zero_le _⟩ rfl dX10_dayGoes_65 rfl (fun H locs hP hS => ?_)
        refine lv_istore_n (lv' := [(3, .int (zI o18)), (2, .int (zI o12)), (0, .ref a_v), (1, .int (zI x1))]) hx hb dX10_dayGoes_68 rfl hl (by decide) rfl (fun ls hl => ?_)
        refine lv_aload_n hx hb dX10_dayGoes_69 rfl (lv_at hl 2 rfl) ?_
        refine lv_iload_n hx hb dX10_dayGoes_70 rfl (lv_at hl 3 rfl) ?_
        refine wi_ic hx hb dX10_dayGoes_71 ?_
        obtain ⟨o20, hc21, h⟩ := bnd_some h
        refine cV_i (rest := []) (w2 := (wd_X10_dayGoes cy a_v a_v_by a_v_now a_v_told a_v_st a_v_isKept a_v_draft a_v_placedRow a_v_tape a_v_bestRow a_v_ways a_v_lanes a_v_sizes a_v_cells a_v_before v_hasOrder v_hasStart v_placed v_placedMany v_highest v_taped v_pos v_begun v_sort v_value v_fault v_wrongAt v_rightSum v_wrongSum v_allWays v_torn v_by v_now v_told)) ⟨hx, hb, hml, hown, hts⟩ (c_X10_of l D cy sa a_v a_v_now a_v_st a_v_isKept a_v_draft a_v_placedRow a_v_tape a_v_by a_v_told a_v_bestRow a_v_ways a_v_lanes a_v_sizes a_v_cells a_v_before v_hasOrder v_hasStart v_placed v_placedMany v_highest v_taped v_pos v_begun v_sort v_value v_fault v_wrongAt v_rightSum v_wrongSum v_allWays v_torn v_now x1 4 o20 hc21) (cwV 2 hts gX10_dayGoes_X10_of rfl rfl rfl (by decide +kernel) ⟨Nat.le_of_ble_eq_true rfl, Nat.le_of_ble_eq_true rfl⟩) rfl rfl rfl hE hP hDD rfl hS [0, 2] rfl rfl rfl rfl hl.1 (Nat.le_of_ble_eq_true rfl) ⟨Nat.zero_le _, Nat.zero_le _⟩ rfl dX10_dayGoes_72 rfl (fun H locs hP hS => ?_)
        refine lv_istore (lv' := [(4, .int (zI o20)), (3, .int (zI o18)), (2, .int (zI o12)), (0, .ref a_v), (1, .int (zI x1))]) hx hb dX10_dayGoes_75 hl (by decide) rfl (fun ls hl => ?_)
        obtain ⟨o46, hx47, h⟩ := bnd_some h
        refine L77 5000 v_by v_told x1 o12 o18 o20 _ _ _ _ hP hS (lv_sub hl [3, 4, 2, 1, 0] rfl) hx47 ?_
        clear hx47
        intro H locs ls hP hS hl
        refine wi_iinc (k := 1) (lv' := [(1, .int (zI (x1 + 1))), (0, .ref a_v)]) hx hb dX10_dayGoes_165 hl rfl (by decide) rfl (fun ls hl => ?_)
        refine lv_goto (tgt := 34) hx hb dX10_dayGoes_168 (by decide) ?_
        exact ih o46.1 o46.2 (x1 + 1) _ _ _ _ hP hS (lv_sub hl [1, 0] rfl) h K
  refine wi_ic hx hb dX10_dayGoes_0 ?_
  refine lv_istore_n (lv' := [(1, .int (zI 0)), (0, .ref a_v)]) hx hb dX10_dayGoes_1 rfl hl (by decide) rfl (fun ls hl => ?_)
  obtain ⟨o6, hx7, h⟩ := bnd_some h
  refine L2 5000 v_by v_told 0 _ _ _ _ hP hS (lv_sub hl [1, 0] rfl) hx7 ?_
  clear hx7
  intro H locs ls hP hS hl
  refine wi_ic hx hb dX10_dayGoes_32 ?_
  refine lv_istore_n (lv' := [(1, .int (zI 0)), (0, .ref a_v)]) hx hb dX10_dayGoes_33 rfl hl (by decide) rfl (fun ls hl => ?_)
  obtain ⟨o48, hx49, h⟩ := bnd_some h
  refine L34 5000 o6.1 o6.2 0 _ _ _ _ hP hS (lv_sub hl [1, 0] rfl) hx49 ?_
  clear hx49
  intro H locs ls hP hS hl
  obtain rfl := Option.some.inj h
  exact KR _ _ _ _ hP hS dX10_dayGoes_171
