abbrev wd_X10_yawnsOf (cy : Nat → ClassId) (a_v : Nat) (a_v_told : Nat) (a_v_st : Nat) (a_v_now : Nat) (a_v_isKept : Nat) (a_v_draft : Nat) (a_v_placedRow : Nat) (a_v_tape : Nat) (a_v_by : Nat) (a_v_bestRow : Nat) (a_v_ways : Nat) (a_v_lanes : Nat) (a_v_sizes : Nat) (a_v_cells : Nat) (a_v_before : Nat) (v_hasOrder : Int) (v_hasStart : Int) (v_placed : Int) (v_placedMany : Int) (v_highest : Int) (v_taped : Int) (v_pos : Int) (v_begun : Int) (v_sort : Int) (v_value : Int) (v_fault : Int) (v_wrongAt : Int) (v_rightSum : Int) (v_wrongSum : Int) (v_allWays : Int) (v_torn : Int) (v_told : Nat → Int) : va_W := [(a_v, .inr (10, [.ref a_v_st, .ref a_v_now, .ref a_v_isKept, .ref a_v_draft, .int (zI v_hasOrder), .int (zI v_hasStart), .int (zI v_placed), .int (zI v_placedMany), .ref a_v_placedRow, .int (zI v_highest), .ref a_v_tape, .int (zI v_taped), .int (zI v_pos), .int (zI v_begun), .int (zI v_sort), .int (zI v_value), .int (zI v_fault), .int (zI v_wrongAt), .ref a_v_by, .ref a_v_told, .ref a_v_bestRow, .long (zL v_rightSum), .long (zL v_wrongSum), .long (zL v_allWays), .ref a_v_ways, .ref a_v_lanes, .ref a_v_sizes, .ref a_v_cells, .int (zI v_torn), .ref a_v_before])), (a_v_told, .inl (cy 0, 120, .inl (fun j => zI (v_told j))))]
set_option maxHeartbeats 4000000 in
set_option maxRecDepth 100000 in
theorem c_X10_yawnsOf (l : Launch) (D : va_G) (cy : Nat → ClassId) (sa : Nat → Nat) (a_v : Nat) (a_v_told : Nat) (a_v_st : Nat) (a_v_now : Nat) (a_v_isKept : Nat) (a_v_draft : Nat) (a_v_placedRow : Nat) (a_v_tape : Nat) (a_v_by : Nat) (a_v_bestRow : Nat) (a_v_ways : Nat) (a_v_lanes : Nat) (a_v_sizes : Nat) (a_v_cells : Nat) (a_v_before : Nat) (v_hasOrder : Int) (v_hasStart : Int) (v_placed : Int) (v_placedMany : Int) (v_highest : Int) (v_taped : Int) (v_pos : Int) (v_begun : Int) (v_sort : Int) (v_value : Int) (v_fault : Int) (v_wrongAt : Int) (v_rightSum : Int) (v_wrongSum : Int) (v_allWays : Int) (v_torn : Int) (v_told : Nat → Int) (x1 : Int) (o : Int) (h : f_M_yawnsOf v_told x1 = some o) : CtI l yX10_yawnsOf wsX10_yawnsOf ({ frames := 1, cells := 0, slots := 0, locals := 20 }) D cy sa [.ref a_v, .int (zI x1)] (wd_X10_yawnsOf cy a_v a_v_told a_v_st a_v_now a_v_isKept a_v_draft a_v_placedRow a_v_tape a_v_by a_v_bestRow a_v_ways a_v_lanes a_v_sizes a_v_cells a_v_before v_hasOrder v_hasStart v_placed v_placedMany v_highest v_taped v_pos v_begun v_sort v_value v_fault v_wrongAt v_rightSum v_wrongSum v_allWays v_torn v_told) (wd_X10_yawnsOf cy a_v a_v_told a_v_st a_v_now a_v_isKept a_v_draft a_v_placedRow a_v_tape a_v_by a_v_bestRow a_v_ways a_v_lanes a_v_sizes a_v_cells a_v_before v_hasOrder v_hasStart v_placed v_placedMany v_highest v_taped v_pos v_begun v_sort v_value v_fault v_wrongAt v_rightSum v_wrongSum v_allWays v_torn v_told) o := by
  refine ct_I (cc := cX10_yawnsOf) (maxL := 4) (plainFor_of_name (by decide)) rfl (Nat.le_of_ble_eq_true rfl) ?_
  intro p e s m below meth c A args QQ hx hb hml hown hts hE hDD hP KR ls hl
  have hl : lv_has ls 4 [(0, .ref a_v), (1, .int (zI x1))] := hl
  have hDD : DD A [a_v, a_v_told] := hDD
  have hS : va_S A s.heap s.heap [] := va_S.rf
  have q0 := hts (.fieldLink RX10 32 "HatHoursModel" "told" "[I") (List.mem_of_getElem? (i := 1) rfl)
  have iX10 : ∀ w ∈ u_ws RX10 TX10 30, w ∈ wsX10_yawnsOf := in_slice 6 30 rfl
  have L5 : ∀ (fuel : Nat) (x1 : Int) (x2 : Int) (x3 : Int) (H : Heap) (locs : List Loc) (ls : Array Slot) (ex : Int), va_P D vwCl (wd_X10_yawnsOf cy a_v a_v_told a_v_st a_v_now a_v_isKept a_v_draft a_v_placedRow a_v_tape a_v_by a_v_bestRow a_v_ways a_v_lanes a_v_sizes a_v_cells a_v_before v_hasOrder v_hasStart v_placed v_placedMany v_highest v_taped v_pos v_begun v_sort v_value v_fault v_wrongAt v_rightSum v_wrongSum v_allWays v_torn v_told) H → va_S A s.heap H locs → lv_has ls 4 [(0, .ref a_v), (1, .int (zI x1)), (2, .int (zI x2)), (3, .int (zI x3))] → f_M_yawnsOf_L5 fuel v_told x1 x2 x3 = some ex → (∀ (H : Heap) (locs : List Loc) (ls : Array Slot), va_P D vwCl (wd_X10_yawnsOf cy a_v a_v_told a_v_st a_v_now a_v_isKept a_v_draft a_v_placedRow a_v_tape a_v_by a_v_bestRow a_v_ways a_v_lanes a_v_sizes a_v_cells a_v_before v_hasOrder v_hasStart v_placed v_placedMany v_highest v_taped v_pos v_begun v_sort v_value v_fault v_wrongAt v_rightSum v_wrongSum v_allWays v_torn v_told) H → va_S A s.heap H locs → lv_has ls 4 [(2, .int (zI ex))] → W p l e { frames := 1, cells := 0, slots := 0, locals := 20 } s m args below meth c H locs 0 0 QQ (F0 m 44 ls [])) → W p l e { frames := 1, cells := 0, slots := 0, locals := 20 } s m args below meth c H locs 0 0 QQ (F0 m 5 ls []) := by
    intro fuel
    induction fuel with
    | zero => intro _ _ _ H locs ls ex hP hS hl h K; cases h
    | succ fuel ih =>
      intro x1 x2 x3 H locs ls ex hP hS hl h K
      refine lv_iload_n hx hb dX10_yawnsOf_5 rfl (lv_at hl 3 rfl) ?_
      refine wi_bi hx hb dX10_yawnsOf_6 (by decide) ?_
      obtain ⟨hr1, h⟩ := chk_some h
      refine wi_ic_ge (tgt := 44) hx hb dX10_yawnsOf_8 (by decide) hr1 (by decide) (fun c3 => ?_) (fun c3 => ?_)
      · have h := ite_t c3 h
        obtain rfl := Option.some.inj h
        exact K _ _ _ hP hS (lv_sub hl [2] rfl)
      · have h := ite_f c3 h
        refine lv_iload_n hx hb dX10_yawnsOf_11 rfl (lv_at hl 2 rfl) ?_
        refine lv_aload_n hx hb dX10_yawnsOf_12 rfl (lv_at hl 0 rfl) ?_
        refine wi_get (v := .ref a_v_told) hx hb hts iX10 hown hE hP 0 rfl rfl 19 (by decide) q0 rfl dX10_yawnsOf_13 ?_
        refine wi_bi hx hb dX10_yawnsOf_16 (by decide) ?_
        refine lv_iload_n hx hb dX10_yawnsOf_18 rfl (lv_at hl 1 rfl) ?_
        refine wi_imul hx hb dX10_yawnsOf_19 ?_
        refine lv_iload_n hx hb dX10_yawnsOf_20 rfl (lv_at hl 3 rfl) ?_
        refine wi_iadd hx hb dX10_yawnsOf_21 ?_
        obtain ⟨hk4, h⟩ := chk_some h
        refine wi_iald hx hb hE hP 1 rfl (by decide) hk4 dX10_yawnsOf_22 ?_
        refine wi_bi hx hb dX10_yawnsOf_23 (by decide) ?_
        obtain ⟨hr5, h⟩ := chk_some h
        obtain ⟨o6, hx7, h⟩ := bnd_some h
        have J8 : ∀ (H : Heap) (locs : List Loc) (ls : Array Slot), va_P D vwCl (wd_X10_yawnsOf cy a_v a_v_told a_v_st a_v_now a_v_isKept a_v_draft a_v_placedRow a_v_tape a_v_by a_v_bestRow a_v_ways a_v_lanes a_v_sizes a_v_cells a_v_before v_hasOrder v_hasStart v_placed v_placedMany v_highest v_taped v_pos v_begun v_sort v_value v_fault v_wrongAt v_rightSum v_wrongSum v_allWays v_torn v_told) H → va_S A s.heap H locs → lv_has ls 4 [(0, .ref a_v), (1, .int (zI x1)), (3, .int (zI x3))] → W p l e { frames := 1, cells := 0, slots := 0, locals := 20 } s m args below meth c H locs 0 0 QQ (F0 m 33 ls [.int (zI o6), .int (zI x2)]) := by
          intro H locs ls hP hS hl
          obtain ⟨o9, hc10, h⟩ := bnd_some h
          refine cS_i (rest := [.int (zI x2)]) (w2 := (wd_X10_yawnsOf cy a_v a_v_told a_v_st a_v_now a_v_isKept a_v_draft a_v_placedRow a_v_tape a_v_by a_v_bestRow a_v_ways a_v_lanes a_v_sizes a_v_cells a_v_before v_hasOrder v_hasStart v_placed v_placedMany v_highest v_taped v_pos v_begun v_sort v_value v_fault v_wrongAt v_rightSum v_wrongSum v_allWays v_torn v_told)) ⟨hx, hb, hml, hown, hts⟩ (c_X10_flag l D cy sa o6 o9 hc10) (va_cwS 1 hts gX10_yawnsOf_X10_flag rfl rfl rfl (by decide +kernel) ⟨Nat.le_of_ble_eq_true rfl, Nat.le_of_ble_eq_true rfl⟩) hE hP hDD rfl hS [] rfl rfl rfl rfl hl.1 (Nat.le_of_ble_eq_true rfl) ⟨Nat.zero_le _, Nat.zero_le _⟩ rfl dX10_yawnsOf_33 rfl (fun H locs hP hS => ?_)
          refine wi_iadd hx hb dX10_yawnsOf_36 ?_
          refine lv_istore_n (lv' := [(2, .int (zI (x2 + o9))), (0, .ref a_v), (1, .int (zI x1)), (3, .int (zI x3))]) hx hb dX10_yawnsOf_37 rfl hl (by decide) rfl (fun ls hl => ?_)
          refine wi_iinc (k := 3) (lv' := [(3, .int (zI (x3 + 1))), (2, .int (zI (x2 + o9))), (0, .ref a_v), (1, .int (zI x1))]) hx hb dX10_yawnsOf_38 hl rfl (by decide) rfl (fun ls hl => ?_)
          refine lv_goto (tgt := 5) hx hb dX10_yawnsOf_41 (by decide) ?_
          exact ih x1 (x2 + o9) (x3 + 1) _ _ _ _ hP hS (lv_sub hl [2, 3, 1, 0] rfl) h K
        clear h
        have h := hx7
        clear hx7
        refine wi_ic_ge (tgt := 32) hx hb dX10_yawnsOf_25 (by decide) hr5 (by decide) (fun c11 => ?_) (fun c11 => ?_)
        · have h := ite_t c11 h
          refine wi_ic hx hb dX10_yawnsOf_32 ?_
          obtain rfl := Option.some.inj h
          exact J8 _ _ _ hP hS (lv_sub hl [0, 1, 3] rfl)
        · have h := ite_f c11 h
          refine wi_ic hx hb dX10_yawnsOf_28 ?_
          refine lv_goto (tgt := 33) hx hb dX10_yawnsOf_29 (by decide) ?_
          obtain rfl := Option.some.inj h
          exact J8 _ _ _ hP hS (lv_sub hl [0, 1, 3] rfl)
  refine wi_ic hx hb dX10_yawnsOf_0 ?_
  refine lv_istore_n (lv' := [(2, .int (zI 0)), (0, .ref a_v), (1, .int (zI x1))]) hx hb dX10_yawnsOf_1 rfl hl (by decide) rfl (fun ls hl => ?_)
  refine wi_bi hx hb dX10_yawnsOf_2 (by decide) ?_
  refine lv_istore_n (lv' := [(3, .int (zI 6)), (2, .int (zI 0)), (0, .ref a_v), (1, .int (zI x1))]) hx hb dX10_yawnsOf_4 rfl hl (by decide) rfl (fun ls hl => ?_)
  obtain ⟨o12, hx13, h⟩ := bnd_some h
  refine L5 5000 x1 0 6 _ _ _ _ hP hS (lv_sub hl [2, 3, 1, 0] rfl) hx13 ?_
  clear hx13
  intro H locs ls hP hS hl
  refine lv_iload_n hx hb dX10_yawnsOf_44 rfl (lv_at hl 0 rfl) ?_
  obtain rfl := Option.some.inj h
  exact KR _ _ _ _ hP hS dX10_yawnsOf_45
abbrev wd_X10_yawns (cy : Nat → ClassId) (a_v : Nat) (a_v_told : Nat) (a_v_st : Nat) (a_v_now : Nat) (a_v_isKept : Nat) (a_v_draft : Nat) (a_v_placedRow : Nat) (a_v_tape : Nat) (a_v_by : Nat) (a_v_bestRow : Nat) (a_v_ways : Nat) (a_v_lanes : Nat) (a_v_sizes : Nat) (a_v_cells : Nat) (a_v_before : Nat) (v_hasOrder : Int) (v_hasStart : Int) (v_placed : Int) (v_placedMany : Int) (v_highest : Int) (v_taped : Int) (v_pos : Int) (v_begun : Int) (v_sort : Int) (v_value : Int) (v_fault : Int) (v_wrongAt : Int) (v_rightSum : Int) (v_wrongSum : Int) (v_allWays : Int) (v_torn : Int) (v_told : Nat → Int) : va_W := [(a_v, .inr (10, [.ref a_v_st, .ref a_v_now, .ref a_v_isKept, .ref a_v_draft, .int (zI v_hasOrder), .int (zI v_hasStart), .int (zI v_placed), .int (zI v_placedMany), .ref a_v_placedRow, .int (zI v_highest), .ref a_v_tape, .int (zI v_taped), .int (zI v_pos), .int (zI v_begun), .int (zI v_sort), .int (zI v_value), .int (zI v_fault), .int (zI v_wrongAt), .ref a_v_by, .ref a_v_told, .ref a_v_bestRow, .long (zL v_rightSum), .long (zL v_wrongSum), .long (zL v_allWays), .ref a_v_ways, .ref a_v_lanes, .ref a_v_sizes, .ref a_v_cells, .int (zI v_torn), .ref a_v_before])), (a_v_told, .inl (cy 0, 120, .inl (fun j => zI (v_told j))))]
set_option maxHeartbeats 4000000 in
set_option maxRecDepth 100000 in
theorem c_X10_yawns (l : Launch) (D : va_G) (cy : Nat → ClassId) (sa : Nat → Nat) (a_v : Nat) (a_v_told : Nat) (a_v_st : Nat) (a_v_now : Nat) (a_v_isKept : Nat) (a_v_draft : Nat) (a_v_placedRow : Nat) (a_v_tape : Nat) (a_v_by : Nat) (a_v_bestRow : Nat) (a_v_ways : Nat) (a_v_lanes : Nat) (a_v_sizes : Nat) (a_v_cells : Nat) (a_v_before : Nat) (v_hasOrder : Int) (v_hasStart : Int) (v_placed : Int) (v_placedMany : Int) (v_highest : Int) (v_taped : Int) (v_pos : Int) (v_begun : Int) (v_sort : Int) (v_value : Int) (v_fault : Int) (v_wrongAt : Int) (v_rightSum : Int) (v_wrongSum : Int) (v_allWays : Int) (v_torn : Int) (v_told : Nat → Int) (o : Int) (h : f_M_yawns v_told = some o) : CtI l yX10_yawns wsX10_yawns ({ frames := 2, cells := 0, slots := 0, locals := 43 }) D cy sa [.ref a_v] (wd_X10_yawns cy a_v a_v_told a_v_st a_v_now a_v_isKept a_v_draft a_v_placedRow a_v_tape a_v_by a_v_bestRow a_v_ways a_v_lanes a_v_sizes a_v_cells a_v_before v_hasOrder v_hasStart v_placed v_placedMany v_highest v_taped v_pos v_begun v_sort v_value v_fault v_wrongAt v_rightSum v_wrongSum v_allWays v_torn v_told) (wd_X10_yawns cy a_v a_v_told a_v_st a_v_now a_v_isKept a_v_draft a_v_placedRow a_v_tape a_v_by a_v_bestRow a_v_ways a_v_lanes a_v_sizes a_v_cells a_v_before v_hasOrder v_hasStart v_placed v_placedMany v_highest v_taped v_pos v_begun v_sort v_value v_fault v_wrongAt v_rightSum v_wrongSum v_allWays v_torn v_told) o := by
  refine ct_I (cc := cX10_yawns) (maxL := 3) (plainFor_of_name (by decide)) rfl (Nat.le_of_ble_eq_true rfl) ?_
  intro p e s m below meth c A args QQ hx hb hml hown hts hE hDD hP KR ls hl
  have hl : lv_has ls 3 [(0, .ref a_v)] := hl
  have hDD : DD A [a_v, a_v_told] := hDD
  have hS : va_S A s.heap s.heap [] := va_S.rf
  have L4 : ∀ (fuel : Nat) (x1 : Int) (x2 : Int) (H : Heap) (locs : List Loc) (ls : Array Slot) (ex : Int), va_P D vwCl (wd_X10_yawns cy a_v a_v_told a_v_st a_v_now a_v_isKept a_v_draft a_v_placedRow a_v_tape a_v_by a_v_bestRow a_v_ways a_v_lanes a_v_sizes a_v_cells a_v_before v_hasOrder v_hasStart v_placed v_placedMany v_highest v_taped v_pos v_begun v_sort v_value v_fault v_wrongAt v_rightSum v_wrongSum v_allWays v_torn v_told) H → va_S A s.heap H locs → lv_has ls 3 [(0, .ref a_v), (1, .int (zI x1)), (2, .int (zI x2))] → f_M_yawns_L4 fuel v_told x1 x2 = some ex → (∀ (H : Heap) (locs : List Loc) (ls : Array Slot), va_P D vwCl (wd_X10_yawns cy a_v a_v_told a_v_st a_v_now a_v_isKept a_v_draft a_v_placedRow a_v_tape a_v_by a_v_bestRow a_v_ways a_v_lanes a_v_sizes a_v_cells a_v_before v_hasOrder v_hasStart v_placed v_placedMany v_highest v_taped v_pos v_begun v_sort v_value v_fault v_wrongAt v_rightSum v_wrongSum v_allWays v_torn v_told) H → va_S A s.heap H locs → lv_has ls 3 [(1, .int (zI ex))] → W p l e { frames := 2, cells := 0, slots := 0, locals := 43 } s m args below meth c H locs 0 0 QQ (F0 m 23 ls [])) → W p l e { frames := 2, cells := 0, slots := 0, locals := 43 } s m args below meth c H locs 0 0 QQ (F0 m 4 ls []) := by
    intro fuel
    induction fuel with
    | zero => intro _ _ H locs ls ex hP hS hl h K; cases h
    | succ fuel ih =>
      intro x1 x2 H locs ls ex hP hS hl h K
      refine lv_iload_n hx hb dX10_yawns_4 rfl (lv_at hl 2 rfl) ?_
      refine wi_ic hx hb dX10_yawns_5 ?_
      obtain ⟨hr1, h⟩ := chk_some h
      refine wi_ic_ge (tgt := 23) hx hb dX10_yawns_6 (by decide) hr1 (by decide) (fun c3 => ?_) (fun c3 => ?_)
      · have h := ite_t c3 h
        obtain rfl := Option.some.inj h
        exact K _ _ _ hP hS (lv_sub hl [1] rfl)
      · have h := ite_f c3 h
        refine lv_iload_n hx hb dX10_yawns_9 rfl (lv_at hl 1 rfl) ?_
        refine lv_aload_n hx hb dX10_yawns_10 rfl (lv_at hl 0 rfl) ?_
        refine lv_iload_n hx hb dX10_yawns_11 rfl (lv_at hl 2 rfl) ?_
        obtain ⟨o4, hc5, h⟩ := bnd_some h
        refine cV_i (rest := [.int (zI x1)]) (w2 := (wd_X10_yawns cy a_v a_v_told a_v_st a_v_now a_v_isKept a_v_draft a_v_placedRow a_v_tape a_v_by a_v_bestRow a_v_ways a_v_lanes a_v_sizes a_v_cells a_v_before v_hasOrder v_hasStart v_placed v_placedMany v_highest v_taped v_pos v_begun v_sort v_value v_fault v_wrongAt v_rightSum v_wrongSum v_allWays v_torn v_told)) ⟨hx, hb, hml, hown, hts⟩ (c_X10_yawnsOf l D cy sa a_v a_v_told a_v_st a_v_now a_v_isKept a_v_draft a_v_placedRow a_v_tape a_v_by a_v_bestRow a_v_ways a_v_lanes a_v_sizes a_v_cells a_v_before v_hasOrder v_hasStart v_placed v_placedMany v_highest v_taped v_pos v_begun v_sort v_value v_fault v_wrongAt v_rightSum v_wrongSum v_allWays v_torn v_told x2 o4 hc5) (cwV 1 hts gX10_yawns_X10_yawnsOf rfl rfl rfl (by decide +kernel) ⟨Nat.le_of_ble_eq_true rfl, Nat.le_of_ble_eq_true rfl⟩) rfl rfl rfl hE hP hDD rfl hS [0, 1] rfl rfl rfl rfl hl.1 (Nat.le_of_ble_eq_true rfl) ⟨Nat.zero_le _, Nat.zero_le _⟩ rfl dX10_yawns_12 rfl (fun H locs hP hS => ?_)
        refine wi_iadd hx hb dX10_yawns_15 ?_
        refine lv_istore_n (lv' := [(1, .int (zI (x1 + o4))), (0, .ref a_v), (2, .int (zI x2))]) hx hb dX10_yawns_16 rfl hl (by decide) rfl (fun ls hl => ?_)
        refine wi_iinc (k := 2) (lv' := [(2, .int (zI (x2 + 1))), (1, .int (zI (x1 + o4))), (0, .ref a_v)]) hx hb dX10_yawns_17 hl rfl (by decide) rfl (fun ls hl => ?_)
        refine lv_goto (tgt := 4) hx hb dX10_yawns_20 (by decide) ?_
        exact ih (x1 + o4) (x2 + 1) _ _ _ _ hP hS (lv_sub hl [2, 1, 0] rfl) h K
  refine wi_ic hx hb dX10_yawns_0 ?_
  refine lv_istore_n (lv' := [(1, .int (zI 0)), (0, .ref a_v)]) hx hb dX10_yawns_1 rfl hl (by decide) rfl (fun ls hl => ?_)
  refine wi_ic hx hb dX10_yawns_2 ?_
  refine lv_istore_n (lv' := [(2, .int (zI 0)), (1, .int (zI 0)), (0, .ref a_v)]) hx hb dX10_yawns_3 rfl hl (by decide) rfl (fun ls hl => ?_)
  obtain ⟨o6, hx7, h⟩ := bnd_some h
  refine L4 5000 0 0 _ _ _ _ hP hS (lv_sub hl [2, 1, 0] rfl) hx7 ?_
  clear hx7
  intro H locs ls hP hS hl
  refine lv_iload_n hx hb dX10_yawns_23 rfl (lv_at hl 0 rfl) ?_
  obtain rfl := Option.some.inj h
  exact KR _ _ _ _ hP hS dX10_yawns_24
abbrev wd_X10_otherwise (cy : Nat → ClassId) (a_v : Nat) (a_v_told : Nat) (a_v_st : Nat) (a_v_now : Nat) (a_v_isKept : Nat) (a_v_draft : Nat) (a_v_placedRow : Nat) (a_v_tape : Nat) (a_v_by : Nat) (a_v_bestRow : Nat) (a_v_ways : Nat) (a_v_lanes : Nat) (a_v_sizes : Nat) (a_v_cells : Nat) (a_v_before : Nat) (v_hasOrder : Int) (v_hasStart : Int) (v_placed : Int) (v_placedMany : Int) (v_highest : Int) (v_taped : Int) (v_pos : Int) (v_begun : Int) (v_sort : Int) (v_value : Int) (v_fault : Int) (v_wrongAt : Int) (v_rightSum : Int) (v_wrongSum : Int) (v_allWays : Int) (v_torn : Int) (v_told : Nat → Int) : va_W := [(a_v, .inr (10, [.ref a_v_st, .ref a_v_now, .ref a_v_isKept, .ref a_v_draft, .int (zI v_hasOrder), .int (zI v_hasStart), .int (zI v_placed), .int (zI v_placedMany), .ref a_v_placedRow, .int (zI v_highest), .ref a_v_tape, .int (zI v_taped), .int (zI v_pos), .int (zI v_begun), .int (zI v_sort), .int (zI v_value), .int (zI v_fault), .int (zI v_wrongAt), .ref a_v_by, .ref a_v_told, .ref a_v_bestRow, .long (zL v_rightSum), .long (zL v_wrongSum), .long (zL v_allWays), .ref a_v_ways, .ref a_v_lanes, .ref a_v_sizes, .ref a_v_cells, .int (zI v_torn), .ref a_v_before])), (a_v_told, .inl (cy 0, 120, .inl (fun j => zI (v_told j))))]
set_option maxHeartbeats 4000000 in
set_option maxRecDepth 100000 in
theorem c_X10_otherwise (l : Launch) (D : va_G) (cy : Nat → ClassId) (sa : Nat → Nat) (a_v : Nat) (a_v_told : Nat) (a_v_st : Nat) (a_v_now : Nat) (a_v_isKept : Nat) (a_v_draft : Nat) (a_v_placedRow : Nat) (a_v_tape : Nat) (a_v_by : Nat) (a_v_bestRow : Nat) (a_v_ways : Nat) (a_v_lanes : Nat) (a_v_sizes : Nat) (a_v_cells : Nat) (a_v_before : Nat) (v_hasOrder : Int) (v_hasStart : Int) (v_placed : Int) (v_placedMany : Int) (v_highest : Int) (v_taped : Int) (v_pos : Int) (v_begun : Int) (v_sort : Int) (v_value : Int) (v_fault : Int) (v_wrongAt : Int) (v_rightSum : Int) (v_wrongSum : Int) (v_allWays : Int) (v_torn : Int) (v_told : Nat → Int) (x1 : Int) (o : Int) (h : f_M_otherwise v_told x1 = some o) : CtI l yX10_otherwise wsX10_otherwise ({ frames := 1, cells := 0, slots := 0, locals := 20 }) D cy sa [.ref a_v, .int (zI x1)] (wd_X10_otherwise cy a_v a_v_told a_v_st a_v_now a_v_isKept a_v_draft a_v_placedRow a_v_tape a_v_by a_v_bestRow a_v_ways a_v_lanes a_v_sizes a_v_cells a_v_before v_hasOrder v_hasStart v_placed v_placedMany v_highest v_taped v_pos v_begun v_sort v_value v_fault v_wrongAt v_rightSum v_wrongSum v_allWays v_torn v_told) (wd_X10_otherwise cy a_v a_v_told a_v_st a_v_now a_v_isKept a_v_draft a_v_placedRow a_v_tape a_v_by a_v_bestRow a_v_ways a_v_lanes a_v_sizes a_v_cells a_v_before v_hasOrder v_hasStart v_placed v_placedMany v_highest v_taped v_pos v_begun v_sort v_value v_fault v_wrongAt v_rightSum v_wrongSum v_allWays v_torn v_told) o := by
  refine ct_I (cc := cX10_otherwise) (maxL := 4) (plainFor_of_name (by decide)) rfl (Nat.le_of_ble_eq_true rfl) ?_
  intro p e s m below meth c A args QQ hx hb hml hown hts hE hDD hP KR ls hl
  have hl : lv_has ls 4 [(0, .ref a_v), (1, .int (zI x1))] := hl
  have hDD : DD A [a_v, a_v_told] := hDD
  have hS : va_S A s.heap s.heap [] := va_S.rf
  have q0 := hts (.fieldLink RX10 32 "HatHoursModel" "told" "[I") (List.mem_of_getElem? (i := 1) rfl)
  have iX10 : ∀ w ∈ u_ws RX10 TX10 30, w ∈ wsX10_otherwise := in_slice 6 30 rfl
  have L4 : ∀ (fuel : Nat) (x1 : Int) (x2 : Int) (x3 : Int) (H : Heap) (locs : List Loc) (ls : Array Slot) (ex : Int), va_P D vwCl (wd_X10_otherwise cy a_v a_v_told a_v_st a_v_now a_v_isKept a_v_draft a_v_placedRow a_v_tape a_v_by a_v_bestRow a_v_ways a_v_lanes a_v_sizes a_v_cells a_v_before v_hasOrder v_hasStart v_placed v_placedMany v_highest v_taped v_pos v_begun v_sort v_value v_fault v_wrongAt v_rightSum v_wrongSum v_allWays v_torn v_told) H → va_S A s.heap H locs → lv_has ls 4 [(0, .ref a_v), (1, .int (zI x1)), (2, .int (zI x2)), (3, .int (zI x3))] → f_M_otherwise_L4 fuel v_told x1 x2 x3 = some ex → (∀ (H : Heap) (locs : List Loc) (ls : Array Slot), va_P D vwCl (wd_X10_otherwise cy a_v a_v_told a_v_st a_v_now a_v_isKept a_v_draft a_v_placedRow a_v_tape a_v_by a_v_bestRow a_v_ways a_v_lanes a_v_sizes a_v_cells a_v_before v_hasOrder v_hasStart v_placed v_placedMany v_highest v_taped v_pos v_begun v_sort v_value v_fault v_wrongAt v_rightSum v_wrongSum v_allWays v_torn v_told) H → va_S A s.heap H locs → lv_has ls 4 [(2, .int (zI ex))] → W p l e { frames := 1, cells := 0, slots := 0, locals := 20 } s m args below meth c H locs 0 0 QQ (F0 m 44 ls [])) → W p l e { frames := 1, cells := 0, slots := 0, locals := 20 } s m args below meth c H locs 0 0 QQ (F0 m 4 ls []) := by
    intro fuel
    induction fuel with
    | zero => intro _ _ _ H locs ls ex hP hS hl h K; cases h
    | succ fuel ih =>
      intro x1 x2 x3 H locs ls ex hP hS hl h K
      refine lv_iload_n hx hb dX10_otherwise_4 rfl (lv_at hl 3 rfl) ?_
      refine wi_bi hx hb dX10_otherwise_5 (by decide) ?_
      obtain ⟨hr1, h⟩ := chk_some h
      refine wi_ic_ge (tgt := 44) hx hb dX10_otherwise_7 (by decide) hr1 (by decide) (fun c3 => ?_) (fun c3 => ?_)
      · have h := ite_t c3 h
        obtain rfl := Option.some.inj h
        exact K _ _ _ hP hS (lv_sub hl [2] rfl)
      · have h := ite_f c3 h
        refine lv_iload_n hx hb dX10_otherwise_10 rfl (lv_at hl 2 rfl) ?_
        refine lv_aload_n hx hb dX10_otherwise_11 rfl (lv_at hl 0 rfl) ?_
        refine wi_get (v := .ref a_v_told) hx hb hts iX10 hown hE hP 0 rfl rfl 19 (by decide) q0 rfl dX10_otherwise_12 ?_
        refine wi_bi hx hb dX10_otherwise_15 (by decide) ?_
        refine lv_iload_n hx hb dX10_otherwise_17 rfl (lv_at hl 1 rfl) ?_
        refine wi_imul hx hb dX10_otherwise_18 ?_
        refine lv_iload_n hx hb dX10_otherwise_19 rfl (lv_at hl 3 rfl) ?_
        refine wi_iadd hx hb dX10_otherwise_20 ?_
        obtain ⟨hk4, h⟩ := chk_some h
        refine wi_iald hx hb hE hP 1 rfl (by decide) hk4 dX10_otherwise_21 ?_
        refine lv_iload_n hx hb dX10_otherwise_22 rfl (lv_at hl 3 rfl) ?_
        obtain ⟨hr5, h⟩ := chk_some h
        obtain ⟨o6, hx7, h⟩ := bnd_some h
        have J8 : ∀ (H : Heap) (locs : List Loc) (ls : Array Slot), va_P D vwCl (wd_X10_otherwise cy a_v a_v_told a_v_st a_v_now a_v_isKept a_v_draft a_v_placedRow a_v_tape a_v_by a_v_bestRow a_v_ways a_v_lanes a_v_sizes a_v_cells a_v_before v_hasOrder v_hasStart v_placed v_placedMany v_highest v_taped v_pos v_begun v_sort v_value v_fault v_wrongAt v_rightSum v_wrongSum v_allWays v_torn v_told) H → va_S A s.heap H locs → lv_has ls 4 [(0, .ref a_v), (1, .int (zI x1)), (3, .int (zI x3))] → W p l e { frames := 1, cells := 0, slots := 0, locals := 20 } s m args below meth c H locs 0 0 QQ (F0 m 31 ls [.int (zI o6), .int (zI x2)]) := by
          intro H locs ls hP hS hl
          obtain ⟨o9, hc10, h⟩ := bnd_some h
          refine cS_i (rest := [.int (zI x2)]) (w2 := (wd_X10_otherwise cy a_v a_v_told a_v_st a_v_now a_v_isKept a_v_draft a_v_placedRow a_v_tape a_v_by a_v_bestRow a_v_ways a_v_lanes a_v_sizes a_v_cells a_v_before v_hasOrder v_hasStart v_placed v_placedMany v_highest v_taped v_pos v_begun v_sort v_value v_fault v_wrongAt v_rightSum v_wrongSum v_allWays v_torn v_told)) ⟨hx, hb, hml, hown, hts⟩ (c_X10_flag l D cy sa o6 o9 hc10) (va_cwS 1 hts gX10_otherwise_X10_flag rfl rfl rfl (by decide +kernel) ⟨Nat.le_of_ble_eq_true rfl, Nat.le_of_ble_eq_true rfl⟩) hE hP hDD rfl hS [] rfl rfl rfl rfl hl.1 (Nat.le_of_ble_eq_true rfl) ⟨Nat.zero_le _, Nat.zero_le _⟩ rfl dX10_otherwise_31 rfl (fun H locs hP hS => ?_)
          refine lv_iload_n hx hb dX10_otherwise_34 rfl (lv_at hl 2 rfl) ?_
          refine wi_ishl hx hb dX10_otherwise_35 ?_
          refine wi_ior hx hb dX10_otherwise_36 ?_
          refine lv_istore_n (lv' := [(2, .int (zI (zor x2 (zshl o9 x3)))), (0, .ref a_v), (1, .int (zI x1)), (3, .int (zI x3))]) hx hb dX10_otherwise_37 rfl hl (by decide) rfl (fun ls hl => ?_)
          refine wi_iinc (k := 3) (lv' := [(3, .int (zI (x3 + 1))), (2, .int (zI (zor x2 (zshl o9 x3)))), (0, .ref a_v), (1, .int (zI x1))]) hx hb dX10_otherwise_38 hl rfl (by decide) rfl (fun ls hl => ?_)
          refine lv_goto (tgt := 4) hx hb dX10_otherwise_41 (by decide) ?_
          exact ih x1 (zor x2 (zshl o9 x3)) (x3 + 1) _ _ _ _ hP hS (lv_sub hl [2, 3, 1, 0] rfl) h K
        clear h
        have h := hx7
        clear hx7
        refine wi_ic_eq (tgt := 30) hx hb dX10_otherwise_23 (by decide) hr5 hr1 (fun c11 => ?_) (fun c11 => ?_)
        · have h := ite_t c11 h
          refine wi_ic hx hb dX10_otherwise_30 ?_
          obtain rfl := Option.some.inj h
          exact J8 _ _ _ hP hS (lv_sub hl [0, 1, 3] rfl)
        · have h := ite_f c11 h
          refine wi_ic hx hb dX10_otherwise_26 ?_
          refine lv_goto (tgt := 31) hx hb dX10_otherwise_27 (by decide) ?_
          obtain rfl := Option.some.inj h
          exact J8 _ _ _ hP hS (lv_sub hl [0, 1, 3] rfl)
  refine wi_ic hx hb dX10_otherwise_0 ?_
  refine lv_istore_n (lv' := [(2, .int (zI 0)), (0, .ref a_v), (1, .int (zI x1))]) hx hb dX10_otherwise_1 rfl hl (by decide) rfl (fun ls hl => ?_)
  refine wi_ic hx hb dX10_otherwise_2 ?_
  refine lv_istore_n (lv' := [(3, .int (zI 0)), (2, .int (zI 0)), (0, .ref a_v), (1, .int (zI x1))]) hx hb dX10_otherwise_3 rfl hl (by decide) rfl (fun ls hl => ?_)
  obtain ⟨o12, hx13, h⟩ := bnd_some h
  refine L4 5000 x1 0 0 _ _ _ _ hP hS (lv_sub hl [2, 3, 1, 0] rfl) hx13 ?_
  clear hx13
  intro H locs ls hP hS hl
  refine lv_iload_n hx hb dX10_otherwise_44 rfl (lv_at hl 0 rfl) ?_
  obtain rfl := Option.some.inj h
  exact KR _ _ _ _ hP hS dX10_otherwise_45
abbrev wd_X10_looksAtDay (cy : Nat → ClassId) (a_v : Nat) (a_v_by : Nat) (a_v_now : Nat) (a_v_st : Nat) (a_v_told : Nat) (a_v_isKept : Nat) (a_v_draft : Nat) (a_v_placedRow : Nat) (a_v_tape : Nat) (a_v_bestRow : Nat) (a_v_ways : Nat) (a_v_lanes : Nat) (a_v_sizes : Nat) (a_v_cells : Nat) (a_v_before : Nat) (v_hasOrder : Int) (v_hasStart : Int) (v_placed : Int) (v_placedMany : Int) (v_highest : Int) (v_taped : Int) (v_pos : Int) (v_begun : Int) (v_sort : Int) (v_value : Int) (v_fault : Int) (v_wrongAt : Int) (v_rightSum : Int) (v_wrongSum : Int) (v_allWays : Int) (v_torn : Int) (v_by : Nat → Int) (v_now : Nat → Int) (v_st : Nat → Int) (v_told : Nat → Int) : va_W := [(a_v, .inr (10, [.ref a_v_st, .ref a_v_now, .ref a_v_isKept, .ref a_v_draft, .int (zI v_hasOrder), .int (zI v_hasStart), .int (zI v_placed), .int (zI v_placedMany), .ref a_v_placedRow, .int (zI v_highest), .ref a_v_tape, .int (zI v_taped), .int (zI v_pos), .int (zI v_begun), .int (zI v_sort), .int (zI v_value), .int (zI v_fault), .int (zI v_wrongAt), .ref a_v_by, .ref a_v_told, .ref a_v_bestRow, .long (zL v_rightSum), .long (zL v_wrongSum), .long (zL v_allWays), .ref a_v_ways, .ref a_v_lanes, .ref a_v_sizes, .ref a_v_cells, .int (zI v_torn), .ref a_v_before])), (a_v_by, .inl (cy 0, 120, .inl (fun j => zI (v_by j)))), (a_v_now, .inl (cy 0, 56, .inl (fun j => zI (v_now j)))), (a_v_st, .inl (cy 0, 168, .inl (fun j => zI (v_st j)))), (a_v_told, .inl (cy 0, 120, .inl (fun j => zI (v_told j))))]
set_option maxHeartbeats 4000000 in
set_option maxRecDepth 100000 in
theorem c_X10_looksAtDay (l : Launch) (D : va_G) (cy : Nat → ClassId) (sa : Nat → Nat) (a_v : Nat) (a_v_by : Nat) (a_v_now : Nat) (a_v_st : Nat) (a_v_told : Nat) (a_v_isKept : Nat) (a_v_draft : Nat) (a_v_placedRow : Nat) (a_v_tape : Nat) (a_v_bestRow : Nat) (a_v_ways : Nat) (a_v_lanes : Nat) (a_v_sizes : Nat) (a_v_cells : Nat) (a_v_before : Nat) (v_hasOrder : Int) (v_hasStart : Int) (v_placed : Int) (v_placedMany : Int) (v_highest : Int) (v_taped : Int) (v_pos : Int) (v_begun : Int) (v_sort : Int) (v_value : Int) (v_fault : Int) (v_wrongAt : Int) (v_rightSum : Int) (v_wrongSum : Int) (v_allWays : Int) (v_torn : Int) (v_by : Nat → Int) (v_now : Nat → Int) (v_st : Nat → Int) (v_told : Nat → Int) (o : (Nat → Int) × (Nat → Int) × (Nat → Int)) (h : f_M_looksAtDay v_by v_now v_st v_told = some o) : CtV l yX10_looksAtDay wsX10_looksAtDay ({ frames := 4, cells := 0, slots := 0, locals := 91 }) D cy sa [.ref a_v] (wd_X10_looksAtDay cy a_v a_v_by a_v_now a_v_st a_v_told a_v_isKept a_v_draft a_v_placedRow a_v_tape a_v_bestRow a_v_ways a_v_lanes a_v_sizes a_v_cells a_v_before v_hasOrder v_hasStart v_placed v_placedMany v_highest v_taped v_pos v_begun v_sort v_value v_fault v_wrongAt v_rightSum v_wrongSum v_allWays v_torn v_by v_now v_st v_told) (wd_X10_looksAtDay cy a_v a_v_by a_v_now a_v_st a_v_told a_v_isKept a_v_draft a_v_placedRow a_v_tape a_v_bestRow a_v_ways a_v_lanes a_v_sizes a_v_cells a_v_before v_hasOrder v_hasStart v_placed v_placedMany v_highest v_taped v_pos v_begun v_sort v_value v_fault v_wrongAt v_rightSum v_wrongSum v_allWays v_torn o.1 o.2.1 v_st o.2.2)  := by
  refine ct_V (cc := cX10_looksAtDay) (maxL := 1) (plainFor_of_name (by decide)) rfl (Nat.le_of_ble_eq_true rfl) ?_
  intro p e s m below meth c A args QQ hx hb hml hown hts hE hDD hP KR ls hl
  have hl : lv_has ls 1 [(0, .ref a_v)] := hl
  have hDD : DD A [a_v, a_v_by, a_v_now, a_v_st, a_v_told] := hDD
  have hS : va_S A s.heap s.heap [] := va_S.rf
  refine lv_aload_n hx hb dX10_looksAtDay_0 rfl (lv_at hl 0 rfl) ?_
  obtain ⟨o1, hc2, h⟩ := bnd_some h
  refine cV_v (rest := []) (w2 := (wd_X10_looksAtDay cy a_v a_v_by a_v_now a_v_st a_v_told a_v_isKept a_v_draft a_v_placedRow a_v_tape a_v_bestRow a_v_ways a_v_lanes a_v_sizes a_v_cells a_v_before v_hasOrder v_hasStart v_placed v_placedMany v_highest v_taped v_pos v_begun v_sort v_value v_fault v_wrongAt v_rightSum v_wrongSum v_allWays v_torn v_by o1 v_st v_told)) ⟨hx, hb, hml, hown, hts⟩ (c_X10_fetches l D cy sa a_v a_v_now a_v_st a_v_isKept a_v_draft a_v_placedRow a_v_tape a_v_by a_v_told a_v_bestRow a_v_ways a_v_lanes a_v_sizes a_v_cells a_v_before v_hasOrder v_hasStart v_placed v_placedMany v_highest v_taped v_pos v_begun v_sort v_value v_fault v_wrongAt v_rightSum v_wrongSum v_allWays v_torn v_now v_st o1 hc2) (cwV 0 hts gX10_looksAtDay_X10_fetches rfl rfl rfl (by decide +kernel) ⟨Nat.le_of_ble_eq_true rfl, Nat.le_of_ble_eq_true rfl⟩) rfl rfl rfl hE hP hDD rfl hS [0, 2, 3] rfl rfl rfl rfl hl.1 (Nat.le_of_ble_eq_true rfl) ⟨Nat.zero_le _, Nat.zero_le _⟩ rfl dX10_looksAtDay_1 rfl (fun H locs hP hS => ?_)
  refine lv_aload_n hx hb dX10_looksAtDay_4 rfl (lv_at hl 0 rfl) ?_
  obtain ⟨o3, hc4, h⟩ := bnd_some h
  refine cV_v (rest := []) (w2 := (wd_X10_looksAtDay cy a_v a_v_by a_v_now a_v_st a_v_told a_v_isKept a_v_draft a_v_placedRow a_v_tape a_v_bestRow a_v_ways a_v_lanes a_v_sizes a_v_cells a_v_before v_hasOrder v_hasStart v_placed v_placedMany v_highest v_taped v_pos v_begun v_sort v_value v_fault v_wrongAt v_rightSum v_wrongSum v_allWays v_torn o3.1 o1 v_st o3.2)) ⟨hx, hb, hml, hown, hts⟩ (c_X10_dayGoes l D cy sa a_v a_v_by a_v_now a_v_told a_v_st a_v_isKept a_v_draft a_v_placedRow a_v_tape a_v_bestRow a_v_ways a_v_lanes a_v_sizes a_v_cells a_v_before v_hasOrder v_hasStart v_placed v_placedMany v_highest v_taped v_pos v_begun v_sort v_value v_fault v_wrongAt v_rightSum v_wrongSum v_allWays v_torn v_by o1 v_told o3 hc4) (cwV 0 hts gX10_looksAtDay_X10_dayGoes rfl rfl rfl (by decide +kernel) ⟨Nat.le_of_ble_eq_true rfl, Nat.le_of_ble_eq_true rfl⟩) rfl rfl rfl hE hP hDD rfl hS [0, 1, 2, 4] rfl rfl rfl rfl hl.1 (Nat.le_of_ble_eq_true rfl) ⟨Nat.zero_le _, Nat.zero_le _⟩ rfl dX10_looksAtDay_5 rfl (fun H locs hP hS => ?_)
  obtain rfl := Option.some.inj h
  exact KR _ _ _ _ hP hS dX10_looksAtDay_8
abbrev wd_X10_rule (cy : Nat → ClassId) (a_v : Nat) (a_v_by : Nat) (a_v_now : Nat) (a_v_st : Nat) (a_v_told : Nat) (a_v_isKept : Nat) (a_v_draft : Nat) (a_v_placedRow : Nat) (a_v_tape : Nat) (a_v_bestRow : Nat) (a_v_ways : Nat) (a_v_lanes : Nat) (a_v_sizes : Nat) (a_v_cells : Nat) (a_v_before : Nat) (v_hasOrder : Int) (v_hasStart : Int) (v_placed : Int) (v_placedMany : Int) (v_highest : Int) (v_taped : Int) (v_pos : Int) (v_begun : Int) (v_sort : Int) (v_value : Int) (v_fault : Int) (v_wrongAt : Int) (v_rightSum : Int) (v_wrongSum : Int) (v_allWays : Int) (v_torn : Int) (v_by : Nat → Int) (v_now : Nat → Int) (v_st : Nat → Int) (v_told : Nat → Int) : va_W := [(a_v, .inr (10, [.ref a_v_st, .ref a_v_now, .ref a_v_isKept, .ref a_v_draft, .int (zI v_hasOrder), .int (zI v_hasStart), .int (zI v_placed), .int (zI v_placedMany), .ref a_v_placedRow, .int (zI v_highest), .ref a_v_tape, .int (zI v_taped), .int (zI v_pos), .int (zI v_begun), .int (zI v_sort), .int (zI v_value), .int (zI v_fault), .int (zI v_wrongAt), .ref a_v_by, .ref a_v_told, .ref a_v_bestRow, .long (zL v_rightSum), .long (zL v_wrongSum), .long (zL v_allWays), .ref a_v_ways, .ref a_v_lanes, .ref a_v_sizes, .ref a_v_cells, .int (zI v_torn), .ref a_v_before])), (a_v_by, .inl (cy 0, 120, .inl (fun j => zI (v_by j)))), (a_v_now, .inl (cy 0, 56, .inl (fun j => zI (v_now j)))), (a_v_st, .inl (cy 0, 168, .inl (fun j => zI (v_st j)))), (a_v_told, .inl (cy 0, 120, .inl (fun j => zI (v_told j))))]
set_option maxHeartbeats 4000000 in
set_option maxRecDepth 100000 in
theorem c_X10_rule (l : Launch) (D : va_G) (cy : Nat → ClassId) (sa : Nat → Nat) (a_v : Nat) (a_v_by : Nat) (a_v_now : Nat) (a_v_st : Nat) (a_v_told : Nat) (a_v_isKept : Nat) (a_v_draft : Nat) (a_v_placedRow : Nat) (a_v_tape : Nat) (a_v_bestRow : Nat) (a_v_ways : Nat) (a_v_lanes : Nat) (a_v_sizes : Nat) (a_v_cells : Nat) (a_v_before : Nat) (v_hasOrder : Int) (v_hasStart : Int) (v_placed : Int) (v_placedMany : Int) (v_highest : Int) (v_taped : Int) (v_pos : Int) (v_begun : Int) (v_sort : Int) (v_value : Int) (v_fault : Int) (v_wrongAt : Int) (v_rightSum : Int) (v_wrongSum : Int) (v_allWays : Int) (v_torn : Int) (v_by : Nat → Int) (v_now : Nat → Int) (v_st : Nat → Int) (v_told : Nat → Int) (x1 : Int) (o : Int × (Nat → Int) × (Nat → Int) × (Nat → Int)) (h : f_M_rule v_by v_now v_st v_told x1 = some o) : CtI l yX10_rule wsX10_rule ({ frames := 5, cells := 0, slots := 0, locals := 111 }) D cy sa [.ref a_v, .int (zI x1)] (wd_X10_rule cy a_v a_v_by a_v_now a_v_st a_v_told a_v_isKept a_v_draft a_v_placedRow a_v_tape a_v_bestRow a_v_ways a_v_lanes a_v_sizes a_v_cells a_v_before v_hasOrder v_hasStart v_placed v_placedMany v_highest v_taped v_pos v_begun v_sort v_value v_fault v_wrongAt v_rightSum v_wrongSum v_allWays v_torn v_by v_now v_st v_told) (wd_X10_rule cy a_v a_v_by a_v_now a_v_st a_v_told a_v_isKept a_v_draft a_v_placedRow a_v_tape a_v_bestRow a_v_ways a_v_lanes a_v_sizes a_v_cells a_v_before v_hasOrder v_hasStart v_placed v_placedMany v_highest v_taped v_pos v_begun v_sort v_value v_fault v_wrongAt v_rightSum v_wrongSum v_allWays v_torn o.2.1 o.2.2.1 v_st o.2.2.2) o.1 := by
  refine ct_I (cc := cX10_rule) (maxL := 4) (plainFor_of_name (by decide)) rfl (Nat.le_of_ble_eq_true rfl) ?_
  intro p e s m below meth c A args QQ hx hb hml hown hts hE hDD hP KR ls hl
  have hl : lv_has ls 4 [(0, .ref a_v), (1, .int (zI x1))] := hl
  have hDD : DD A [a_v, a_v_by, a_v_now, a_v_st, a_v_told] := hDD
  have hS : va_S A s.heap s.heap [] := va_S.rf
  have q0 := hts (.fieldLink RX10 32 "HatHoursModel" "told" "[I") (List.mem_of_getElem? (i := 1) rfl)
  have q1 := hts (.fieldLink RX10 7 "HatHoursModel" "st" "[I") (List.mem_of_getElem? (i := 2) rfl)
  have iX10 : ∀ w ∈ u_ws RX10 TX10 30, w ∈ wsX10_rule := in_slice 64 30 rfl
  have L8 : ∀ (fuel : Nat) (v_by : Nat → Int) (v_now : Nat → Int) (v_told : Nat → Int) (x1 : Int) (x2 : Int) (x3 : Int) (H : Heap) (locs : List Loc) (ls : Array Slot) (ex : Int), va_P D vwCl (wd_X10_rule cy a_v a_v_by a_v_now a_v_st a_v_told a_v_isKept a_v_draft a_v_placedRow a_v_tape a_v_bestRow a_v_ways a_v_lanes a_v_sizes a_v_cells a_v_before v_hasOrder v_hasStart v_placed v_placedMany v_highest v_taped v_pos v_begun v_sort v_value v_fault v_wrongAt v_rightSum v_wrongSum v_allWays v_torn v_by v_now v_st v_told) H → va_S A s.heap H locs → lv_has ls 4 [(0, .ref a_v), (1, .int (zI x1)), (2, .int (zI x2)), (3, .int (zI x3))] → f_M_rule_L8 fuel v_told x2 x3 = some ex → (∀ (H : Heap) (locs : List Loc) (ls : Array Slot), va_P D vwCl (wd_X10_rule cy a_v a_v_by a_v_now a_v_st a_v_told a_v_isKept a_v_draft a_v_placedRow a_v_tape a_v_bestRow a_v_ways a_v_lanes a_v_sizes a_v_cells a_v_before v_hasOrder v_hasStart v_placed v_placedMany v_highest v_taped v_pos v_begun v_sort v_value v_fault v_wrongAt v_rightSum v_wrongSum v_allWays v_torn v_by v_now v_st v_told) H → va_S A s.heap H locs → lv_has ls 4 [(0, .ref a_v), (1, .int (zI x1)), (2, .int (zI ex))] → W p l e { frames := 5, cells := 0, slots := 0, locals := 111 } s m args below meth c H locs 0 0 QQ (F0 m 44 ls [])) → W p l e { frames := 5, cells := 0, slots := 0, locals := 111 } s m args below meth c H locs 0 0 QQ (F0 m 8 ls []) := by
    intro fuel
    induction fuel with
    | zero => intro _ _ _ _ _ _ H locs ls ex hP hS hl h K; cases h
    | succ fuel ih =>
      intro v_by v_now v_told x1 x2 x3 H locs ls ex hP hS hl h K
      refine lv_iload_n hx hb dX10_rule_8 rfl (lv_at hl 3 rfl) ?_
      refine wi_bi hx hb dX10_rule_9 (by decide) ?_
      obtain ⟨hr3, h⟩ := chk_some h
      refine wi_ic_ge (tgt := 44) hx hb dX10_rule_11 (by decide) hr3 (by decide) (fun c5 => ?_) (fun c5 => ?_)
      · have h := ite_t c5 h
        obtain rfl := Option.some.inj h
        exact K _ _ _ hP hS (lv_sub hl [0, 1, 2] rfl)
      · have h := ite_f c5 h
        refine lv_iload_n hx hb dX10_rule_14 rfl (lv_at hl 2 rfl) ?_
        refine lv_aload_n hx hb dX10_rule_15 rfl (lv_at hl 0 rfl) ?_
        refine wi_get (v := .ref a_v_told) hx hb hts iX10 hown hE hP 0 rfl rfl 19 (by decide) q0 rfl dX10_rule_16 ?_
        refine lv_iload_n hx hb dX10_rule_19 rfl (lv_at hl 3 rfl) ?_
        obtain ⟨hk6, h⟩ := chk_some h
        refine wi_iald hx hb hE hP 4 rfl (by decide) hk6 dX10_rule_20 ?_
        refine lv_iload_n hx hb dX10_rule_21 rfl (lv_at hl 3 rfl) ?_
        refine wi_bi hx hb dX10_rule_22 (by decide) ?_
        obtain ⟨hk7, h⟩ := chk_some h
        refine wi_irem hx hb dX10_rule_24 ⟨hk7, by decide⟩ ?_
        obtain ⟨hr8, h⟩ := chk_some h
        obtain ⟨hr9, h⟩ := chk_some h
        obtain ⟨o10, hx11, h⟩ := bnd_some h
        have J12 : ∀ (H : Heap) (locs : List Loc) (ls : Array Slot), va_P D vwCl (wd_X10_rule cy a_v a_v_by a_v_now a_v_st a_v_told a_v_isKept a_v_draft a_v_placedRow a_v_tape a_v_bestRow a_v_ways a_v_lanes a_v_sizes a_v_cells a_v_before v_hasOrder v_hasStart v_placed v_placedMany v_highest v_taped v_pos v_begun v_sort v_value v_fault v_wrongAt v_rightSum v_wrongSum v_allWays v_torn v_by v_now v_st v_told) H → va_S A s.heap H locs → lv_has ls 4 [(0, .ref a_v), (1, .int (zI x1)), (3, .int (zI x3))] → W p l e { frames := 5, cells := 0, slots := 0, locals := 111 } s m args below meth c H locs 0 0 QQ (F0 m 33 ls [.int (zI o10), .int (zI x2)]) := by
          intro H locs ls hP hS hl
          obtain ⟨o13, hc14, h⟩ := bnd_some h
          refine cS_i (rest := [.int (zI x2)]) (w2 := (wd_X10_rule cy a_v a_v_by a_v_now a_v_st a_v_told a_v_isKept a_v_draft a_v_placedRow a_v_tape a_v_bestRow a_v_ways a_v_lanes a_v_sizes a_v_cells a_v_before v_hasOrder v_hasStart v_placed v_placedMany v_highest v_taped v_pos v_begun v_sort v_value v_fault v_wrongAt v_rightSum v_wrongSum v_allWays v_torn v_by v_now v_st v_told)) ⟨hx, hb, hml, hown, hts⟩ (c_X10_flag l D cy sa o10 o13 hc14) (va_cwS 1 hts gX10_rule_X10_flag rfl rfl rfl (by decide +kernel) ⟨Nat.le_of_ble_eq_true rfl, Nat.le_of_ble_eq_true rfl⟩) hE hP hDD rfl hS [] rfl rfl rfl rfl hl.1 (Nat.le_of_ble_eq_true rfl) ⟨Nat.zero_le _, Nat.zero_le _⟩ rfl dX10_rule_33 rfl (fun H locs hP hS => ?_)
          refine wi_iadd hx hb dX10_rule_36 ?_
          refine lv_istore_n (lv' := [(2, .int (zI (x2 + o13))), (0, .ref a_v), (1, .int (zI x1)), (3, .int (zI x3))]) hx hb dX10_rule_37 rfl hl (by decide) rfl (fun ls hl => ?_)
          refine wi_iinc (k := 3) (lv' := [(3, .int (zI (x3 + 1))), (2, .int (zI (x2 + o13))), (0, .ref a_v), (1, .int (zI x1))]) hx hb dX10_rule_38 hl rfl (by decide) rfl (fun ls hl => ?_)
          refine lv_goto (tgt := 8) hx hb dX10_rule_41 (by decide) ?_
          exact ih v_by v_now v_told x1 (x2 + o13) (x3 + 1) _ _ _ _ hP hS (lv_sub hl [2, 3, 1, 0] rfl) h K
        clear h
        have h := hx11
        clear hx11
        refine wi_ic_eq (tgt := 32) hx hb dX10_rule_25 (by decide) hr8 hr9 (fun c15 => ?_) (fun c15 => ?_)
        · have h := ite_t c15 h
          refine wi_ic hx hb dX10_rule_32 ?_
          obtain rfl := Option.some.inj h
          exact J12 _ _ _ hP hS (lv_sub hl [0, 1, 3] rfl)
        · have h := ite_f c15 h
          refine wi_ic hx hb dX10_rule_28 ?_
          refine lv_goto (tgt := 33) hx hb dX10_rule_29 (by decide) ?_
          obtain rfl := Option.some.inj h
          exact J12 _ _ _ hP hS (lv_sub hl [0, 1, 3] rfl)
  refine lv_aload_n hx hb dX10_rule_0 rfl (lv_at hl 0 rfl) ?_
  obtain ⟨o1, hc2, h⟩ := bnd_some h
  refine cV_v (rest := []) (w2 := (wd_X10_rule cy a_v a_v_by a_v_now a_v_st a_v_told a_v_isKept a_v_draft a_v_placedRow a_v_tape a_v_bestRow a_v_ways a_v_lanes a_v_sizes a_v_cells a_v_before v_hasOrder v_hasStart v_placed v_placedMany v_highest v_taped v_pos v_begun v_sort v_value v_fault v_wrongAt v_rightSum v_wrongSum v_allWays v_torn o1.1 o1.2.1 v_st o1.2.2)) ⟨hx, hb, hml, hown, hts⟩ (c_X10_looksAtDay l D cy sa a_v a_v_by a_v_now a_v_st a_v_told a_v_isKept a_v_draft a_v_placedRow a_v_tape a_v_bestRow a_v_ways a_v_lanes a_v_sizes a_v_cells a_v_before v_hasOrder v_hasStart v_placed v_placedMany v_highest v_taped v_pos v_begun v_sort v_value v_fault v_wrongAt v_rightSum v_wrongSum v_allWays v_torn v_by v_now v_st v_told o1 hc2) (cwV 0 hts gX10_rule_X10_looksAtDay rfl rfl rfl (by decide +kernel) ⟨Nat.le_of_ble_eq_true rfl, Nat.le_of_ble_eq_true rfl⟩) rfl rfl rfl hE hP hDD rfl hS [0, 1, 2, 3, 4] rfl rfl rfl rfl hl.1 (Nat.le_of_ble_eq_true rfl) ⟨Nat.zero_le _, Nat.zero_le _⟩ rfl dX10_rule_1 rfl (fun H locs hP hS => ?_)
  refine wi_ic hx hb dX10_rule_4 ?_
  refine lv_istore_n (lv' := [(2, .int (zI 0)), (0, .ref a_v), (1, .int (zI x1))]) hx hb dX10_rule_5 rfl hl (by decide) rfl (fun ls hl => ?_)
  refine wi_ic hx hb dX10_rule_6 ?_
  refine lv_istore_n (lv' := [(3, .int (zI 0)), (2, .int (zI 0)), (0, .ref a_v), (1, .int (zI x1))]) hx hb dX10_rule_7 rfl hl (by decide) rfl (fun ls hl => ?_)
  obtain ⟨o16, hx17, h⟩ := bnd_some h
  refine L8 5000 o1.1 o1.2.1 o1.2.2 x1 0 0 _ _ _ _ hP hS (lv_sub hl [2, 3, 1, 0] rfl) hx17 ?_
  clear hx17
  intro H locs ls hP hS hl
  refine lv_iload_n hx hb dX10_rule_44 rfl (lv_at hl 1 rfl) ?_
  obtain ⟨hr18, h⟩ := chk_some h
  by_cases c19 : x1 = 0
  · have h := ite_t c19 h
    refine wi_tIn (v := 0) (off := 39) (tgt := 84) hx hb dX10_rule_45 c19 (by decide) (by decide) (by decide) (by decide) ?_
    refine lv_aload_n hx hb dX10_rule_84 rfl (lv_at hl 0 rfl) ?_
    refine wi_get (v := .ref a_v_st) hx hb hts iX10 hown hE hP 0 rfl rfl 0 (by decide) q1 rfl dX10_rule_85 ?_
    refine wi_bi hx hb dX10_rule_88 (by decide) ?_
    refine wi_iald hx hb hE hP 3 rfl (by decide) (by decide) dX10_rule_90 ?_
    obtain rfl := Option.some.inj h
    exact KR _ _ _ _ hP hS dX10_rule_91
  have h := ite_f c19 h
  by_cases c20 : x1 = 1
  · have h := ite_t c20 h
    refine wi_tIn (v := 1) (off := 47) (tgt := 92) hx hb dX10_rule_45 c20 (by decide) (by decide) (by decide) (by decide) ?_
    refine lv_aload_n hx hb dX10_rule_92 rfl (lv_at hl 0 rfl) ?_
    refine wi_get (v := .ref a_v_st) hx hb hts iX10 hown hE hP 0 rfl rfl 0 (by decide) q1 rfl dX10_rule_93 ?_
    refine wi_bi hx hb dX10_rule_96 (by decide) ?_
    refine wi_iald hx hb hE hP 3 rfl (by decide) (by decide) dX10_rule_98 ?_
    obtain rfl := Option.some.inj h
    exact KR _ _ _ _ hP hS dX10_rule_99
  have h := ite_f c20 h
  by_cases c21 : x1 = 2
  · have h := ite_t c21 h
    refine wi_tIn (v := 2) (off := 55) (tgt := 100) hx hb dX10_rule_45 c21 (by decide) (by decide) (by decide) (by decide) ?_
    refine lv_aload_n hx hb dX10_rule_100 rfl (lv_at hl 0 rfl) ?_
    refine wi_ic hx hb dX10_rule_101 ?_
    obtain ⟨o22, hc23, h⟩ := bnd_some h
    refine cV_i (rest := []) (w2 := (wd_X10_rule cy a_v a_v_by a_v_now a_v_st a_v_told a_v_isKept a_v_draft a_v_placedRow a_v_tape a_v_bestRow a_v_ways a_v_lanes a_v_sizes a_v_cells a_v_before v_hasOrder v_hasStart v_placed v_placedMany v_highest v_taped v_pos v_begun v_sort v_value v_fault v_wrongAt v_rightSum v_wrongSum v_allWays v_torn o1.1 o1.2.1 v_st o1.2.2)) ⟨hx, hb, hml, hown, hts⟩ (c_X10_allOf l D cy sa a_v a_v_now a_v_st a_v_isKept a_v_draft a_v_placedRow a_v_tape a_v_by a_v_told a_v_bestRow a_v_ways a_v_lanes a_v_sizes a_v_cells a_v_before v_hasOrder v_hasStart v_placed v_placedMany v_highest v_taped v_pos v_begun v_sort v_value v_fault v_wrongAt v_rightSum v_wrongSum v_allWays v_torn o1.2.1 1 o22 hc23) (cwV 1 hts gX10_rule_X10_allOf rfl rfl rfl (by decide +kernel) ⟨Nat.le_of_ble_eq_true rfl, Nat.le_of_ble_eq_true rfl⟩) rfl rfl rfl hE hP hDD rfl hS [0, 2] rfl rfl rfl rfl hl.1 (Nat.le_of_ble_eq_true rfl) ⟨Nat.zero_le _, Nat.zero_le _⟩ rfl dX10_rule_102 rfl (fun H locs hP hS => ?_)
    obtain rfl := Option.some.inj h
    exact KR _ _ _ _ hP hS dX10_rule_105
  have h := ite_f c21 h
  by_cases c24 : x1 = 3
  · have h := ite_t c24 h
    refine wi_tIn (v := 3) (off := 61) (tgt := 106) hx hb dX10_rule_45 c24 (by decide) (by decide) (by decide) (by decide) ?_
    refine lv_aload_n hx hb dX10_rule_106 rfl (lv_at hl 0 rfl) ?_
    obtain ⟨o25, hc26, h⟩ := bnd_some h
    refine cV_i (rest := []) (w2 := (wd_X10_rule cy a_v a_v_by a_v_now a_v_st a_v_told a_v_isKept a_v_draft a_v_placedRow a_v_tape a_v_bestRow a_v_ways a_v_lanes a_v_sizes a_v_cells a_v_before v_hasOrder v_hasStart v_placed v_placedMany v_highest v_taped v_pos v_begun v_sort v_value v_fault v_wrongAt v_rightSum v_wrongSum v_allWays v_torn o1.1 o1.2.1 v_st o1.2.2)) ⟨hx, hb, hml, hown, hts⟩ (c_X10_allWrong l D cy sa a_v a_v_now a_v_st a_v_isKept a_v_draft a_v_placedRow a_v_tape a_v_by a_v_told a_v_bestRow a_v_ways a_v_lanes a_v_sizes a_v_cells a_v_before v_hasOrder v_hasStart v_placed v_placedMany v_highest v_taped v_pos v_begun v_sort v_value v_fault v_wrongAt v_rightSum v_wrongSum v_allWays v_torn o1.2.1 o25 hc26) (cwV 0 hts gX10_rule_X10_allWrong rfl rfl rfl (by decide +kernel) ⟨Nat.le_of_ble_eq_true rfl, Nat.le_of_ble_eq_true rfl⟩) rfl rfl rfl hE hP hDD rfl hS [0, 2] rfl rfl rfl rfl hl.1 (Nat.le_of_ble_eq_true rfl) ⟨Nat.zero_le _, Nat.zero_le _⟩ rfl dX10_rule_107 rfl (fun H locs hP hS => ?_)
    obtain rfl := Option.some.inj h
    exact KR _ _ _ _ hP hS dX10_rule_110
  have h := ite_f c24 h
  by_cases c27 : x1 = 4
  · have h := ite_t c27 h
    refine wi_tIn (v := 4) (off := 66) (tgt := 111) hx hb dX10_rule_45 c27 (by decide) (by decide) (by decide) (by decide) ?_
    refine lv_aload_n hx hb dX10_rule_111 rfl (lv_at hl 0 rfl) ?_
    obtain ⟨o28, hc29, h⟩ := bnd_some h
    refine cV_i (rest := []) (w2 := (wd_X10_rule cy a_v a_v_by a_v_now a_v_st a_v_told a_v_isKept a_v_draft a_v_placedRow a_v_tape a_v_bestRow a_v_ways a_v_lanes a_v_sizes a_v_cells a_v_before v_hasOrder v_hasStart v_placed v_placedMany v_highest v_taped v_pos v_begun v_sort v_value v_fault v_wrongAt v_rightSum v_wrongSum v_allWays v_torn o1.1 o1.2.1 v_st o1.2.2)) ⟨hx, hb, hml, hown, hts⟩ (c_X10_yawns l D cy sa a_v a_v_told a_v_st a_v_now a_v_isKept a_v_draft a_v_placedRow a_v_tape a_v_by a_v_bestRow a_v_ways a_v_lanes a_v_sizes a_v_cells a_v_before v_hasOrder v_hasStart v_placed v_placedMany v_highest v_taped v_pos v_begun v_sort v_value v_fault v_wrongAt v_rightSum v_wrongSum v_allWays v_torn o1.2.2 o28 hc29) (cwV 0 hts gX10_rule_X10_yawns rfl rfl rfl (by decide +kernel) ⟨Nat.le_of_ble_eq_true rfl, Nat.le_of_ble_eq_true rfl⟩) rfl rfl rfl hE hP hDD rfl hS [0, 4] rfl rfl rfl rfl hl.1 (Nat.le_of_ble_eq_true rfl) ⟨Nat.zero_le _, Nat.zero_le _⟩ rfl dX10_rule_112 rfl (fun H locs hP hS => ?_)
    obtain rfl := Option.some.inj h
    exact KR _ _ _ _ hP hS dX10_rule_115
  have h := ite_f c27 h
  by_cases c30 : x1 = 5
  · have h := ite_t c30 h
    refine wi_tIn (v := 5) (off := 71) (tgt := 116) hx hb dX10_rule_45 c30 (by decide) (by decide) (by decide) (by decide) ?_
    refine lv_iload_n hx hb dX10_rule_116 rfl (lv_at hl 2 rfl) ?_
    obtain rfl := Option.some.inj h
    exact KR _ _ _ _ hP hS dX10_rule_117
  have h := ite_f c30 h
  refine wi_tOut (tgt := 118) hx hb dX10_rule_45 hr18 (by omega) (by decide) ?_
  refine wi_ic hx hb dX10_rule_118 ?_
  obtain rfl := Option.some.inj h
  exact KR _ _ _ _ hP hS dX10_rule_119
abbrev wd_X10_box (cy : Nat → ClassId) (a_v : Nat) (a_v_now : Nat) (a_v_st : Nat) (a_v_isKept : Nat) (a_v_draft : Nat) (a_v_placedRow : Nat) (a_v_tape : Nat) (a_v_by : Nat) (a_v_told : Nat) (a_v_bestRow : Nat) (a_v_ways : Nat) (a_v_lanes : Nat) (a_v_sizes : Nat) (a_v_cells : Nat) (a_v_before : Nat) (v_hasOrder : Int) (v_hasStart : Int) (v_placed : Int) (v_placedMany : Int) (v_highest : Int) (v_taped : Int) (v_pos : Int) (v_begun : Int) (v_sort : Int) (v_value : Int) (v_fault : Int) (v_wrongAt : Int) (v_rightSum : Int) (v_wrongSum : Int) (v_allWays : Int) (v_torn : Int) (v_now : Nat → Int) (v_st : Nat → Int) : va_W := [(a_v, .inr (10, [.ref a_v_st, .ref a_v_now, .ref a_v_isKept, .ref a_v_draft, .int (zI v_hasOrder), .int (zI v_hasStart), .int (zI v_placed), .int (zI v_placedMany), .ref a_v_placedRow, .int (zI v_highest), .ref a_v_tape, .int (zI v_taped), .int (zI v_pos), .int (zI v_begun), .int (zI v_sort), .int (zI v_value), .int (zI v_fault), .int (zI v_wrongAt), .ref a_v_by, .ref a_v_told, .ref a_v_bestRow, .long (zL v_rightSum), .long (zL v_wrongSum), .long (zL v_allWays), .ref a_v_ways, .ref a_v_lanes, .ref a_v_sizes, .ref a_v_cells, .int (zI v_torn), .ref a_v_before])), (a_v_now, .inl (cy 0, 56, .inl (fun j => zI (v_now j)))), (a_v_st, .inl (cy 0, 168, .inl (fun j => zI (v_st j))))]
set_option maxHeartbeats 4000000 in
set_option maxRecDepth 100000 in
theorem c_X10_box (l : Launch) (D : va_G) (cy : Nat → ClassId) (sa : Nat → Nat) (a_v : Nat) (a_v_now : Nat) (a_v_st : Nat) (a_v_isKept : Nat) (a_v_draft : Nat) (a_v_placedRow : Nat) (a_v_tape : Nat) (a_v_by : Nat) (a_v_told : Nat) (a_v_bestRow : Nat) (a_v_ways : Nat) (a_v_lanes : Nat) (a_v_sizes : Nat) (a_v_cells : Nat) (a_v_before : Nat) (v_hasOrder : Int) (v_hasStart : Int) (v_placed : Int) (v_placedMany : Int) (v_highest : Int) (v_taped : Int) (v_pos : Int) (v_begun : Int) (v_sort : Int) (v_value : Int) (v_fault : Int) (v_wrongAt : Int) (v_rightSum : Int) (v_wrongSum : Int) (v_allWays : Int) (v_torn : Int) (v_now : Nat → Int) (v_st : Nat → Int) (x1 : Int) (x2 : Int) (o : Int × (Nat → Int)) (h : f_M_box v_now v_st x1 x2 = some o) : CtI l yX10_box wsX10_box ({ frames := 4, cells := 0, slots := 0, locals := 89 }) D cy sa [.ref a_v, .int (zI x1), .int (zI x2)] (wd_X10_box cy a_v a_v_now a_v_st a_v_isKept a_v_draft a_v_placedRow a_v_tape a_v_by a_v_told a_v_bestRow a_v_ways a_v_lanes a_v_sizes a_v_cells a_v_before v_hasOrder v_hasStart v_placed v_placedMany v_highest v_taped v_pos v_begun v_sort v_value v_fault v_wrongAt v_rightSum v_wrongSum v_allWays v_torn v_now v_st) (wd_X10_box cy a_v a_v_now a_v_st a_v_isKept a_v_draft a_v_placedRow a_v_tape a_v_by a_v_told a_v_bestRow a_v_ways a_v_lanes a_v_sizes a_v_cells a_v_before v_hasOrder v_hasStart v_placed v_placedMany v_highest v_taped v_pos v_begun v_sort v_value v_fault v_wrongAt v_rightSum v_wrongSum v_allWays v_torn o.2 v_st) o.1 := by
  refine ct_I (cc := cX10_box) (maxL := 3) (plainFor_of_name (by decide)) rfl (Nat.le_of_ble_eq_true rfl) ?_
  intro p e s m below meth c A args QQ hx hb hml hown hts hE hDD hP KR ls hl
  have hl : lv_has ls 3 [(0, .ref a_v), (1, .int (zI x1)), (2, .int (zI x2))] := hl
  have hDD : DD A [a_v, a_v_now, a_v_st] := hDD
  have hS : va_S A s.heap s.heap [] := va_S.rf
  have q0 := hts (.constantLong RX10 205 (9)) (List.mem_of_getElem? (i := 1) rfl)
  refine lv_aload_n hx hb dX10_box_0 rfl (lv_at hl 0 rfl) ?_
  refine lv_iload_n hx hb dX10_box_1 rfl (lv_at hl 1 rfl) ?_
  obtain ⟨o1, hc2, h⟩ := bnd_some h
  refine cV_i (rest := []) (w2 := (wd_X10_box cy a_v a_v_now a_v_st a_v_isKept a_v_draft a_v_placedRow a_v_tape a_v_by a_v_told a_v_bestRow a_v_ways a_v_lanes a_v_sizes a_v_cells a_v_before v_hasOrder v_hasStart v_placed v_placedMany v_highest v_taped v_pos v_begun v_sort v_value v_fault v_wrongAt v_rightSum v_wrongSum v_allWays v_torn v_now v_st)) ⟨hx, hb, hml, hown, hts⟩ (c_X10_isBox l D cy sa a_v a_v_st a_v_now a_v_isKept a_v_draft a_v_placedRow a_v_tape a_v_by a_v_told a_v_bestRow a_v_ways a_v_lanes a_v_sizes a_v_cells a_v_before v_hasOrder v_hasStart v_placed v_placedMany v_highest v_taped v_pos v_begun v_sort v_value v_fault v_wrongAt v_rightSum v_wrongSum v_allWays v_torn v_st x1 o1 hc2) (cwV 1 hts gX10_box_X10_isBox rfl rfl rfl (by decide +kernel) ⟨Nat.le_of_ble_eq_true rfl, Nat.le_of_ble_eq_true rfl⟩) rfl rfl rfl hE hP hDD rfl hS [0, 2] rfl rfl rfl rfl hl.1 (Nat.le_of_ble_eq_true rfl) ⟨Nat.zero_le _, Nat.zero_le _⟩ rfl dX10_box_2 rfl (fun H locs hP hS => ?_)
  obtain ⟨hr3, h⟩ := chk_some h
  refine wi_if_eq (tgt := 20) hx hb dX10_box_5 (by decide) hr3 (fun c5 => ?_) (fun c5 => ?_)
  · have h := ite_t c5 h
    refine wi_ic hx hb dX10_box_20 ?_
    obtain rfl := Option.some.inj h
    exact KR _ _ _ _ hP hS dX10_box_21
  · have h := ite_f c5 h
    refine lv_iload_n hx hb dX10_box_8 rfl (lv_at hl 2 rfl) ?_
    obtain ⟨hr6, h⟩ := chk_some h
    refine wi_i2l hx hb dX10_box_9 hr6 ?_
    refine wi_lc (v := 0) hx hb dX10_box_10 rfl ?_
    refine wi_ldc2 (n := 9) hx hb hown q0 dX10_box_11 rfl ?_
    obtain ⟨o7, hc8, h⟩ := bnd_some h
    refine cS_i (rest := []) (w2 := (wd_X10_box cy a_v a_v_now a_v_st a_v_isKept a_v_draft a_v_placedRow a_v_tape a_v_by a_v_told a_v_bestRow a_v_ways a_v_lanes a_v_sizes a_v_cells a_v_before v_hasOrder v_hasStart v_placed v_placedMany v_highest v_taped v_pos v_begun v_sort v_value v_fault v_wrongAt v_rightSum v_wrongSum v_allWays v_torn v_now v_st)) ⟨hx, hb, hml, hown, hts⟩ (c_X10_in l D cy sa x2 0 9 o7 hc8) (va_cwS 3 hts gX10_box_X10_in rfl rfl rfl (by decide +kernel) ⟨Nat.le_of_ble_eq_true rfl, Nat.le_of_ble_eq_true rfl⟩) hE hP hDD rfl hS [] rfl rfl rfl rfl hl.1 (Nat.le_of_ble_eq_true rfl) ⟨Nat.zero_le _, Nat.zero_le _⟩ rfl dX10_box_14 rfl (fun H locs hP hS => ?_)
    obtain ⟨hr9, h⟩ := chk_some h
    refine wi_if_ne (tgt := 22) hx hb dX10_box_17 (by decide) hr9 (fun c11 => ?_) (fun c11 => ?_)
    · have h := ite_f c11 h
      refine lv_aload_n hx hb dX10_box_22 rfl (lv_at hl 0 rfl) ?_
      obtain ⟨o12, hc13, h⟩ := bnd_some h
      refine cV_v (rest := []) (w2 := (wd_X10_box cy a_v a_v_now a_v_st a_v_isKept a_v_draft a_v_placedRow a_v_tape a_v_by a_v_told a_v_bestRow a_v_ways a_v_lanes a_v_sizes a_v_cells a_v_before v_hasOrder v_hasStart v_placed v_placedMany v_highest v_taped v_pos v_begun v_sort v_value v_fault v_wrongAt v_rightSum v_wrongSum v_allWays v_torn o12 v_st)) ⟨hx, hb, hml, hown, hts⟩ (c_X10_fetches l D cy sa a_v a_v_now a_v_st a_v_isKept a_v_draft a_v_placedRow a_v_tape a_v_by a_v_told a_v_bestRow a_v_ways a_v_lanes a_v_sizes a_v_cells a_v_before v_hasOrder v_hasStart v_placed v_placedMany v_highest v_taped v_pos v_begun v_sort v_value v_fault v_wrongAt v_rightSum v_wrongSum v_allWays v_torn v_now v_st o12 hc13) (cwV 0 hts gX10_box_X10_fetches rfl rfl rfl (by decide +kernel) ⟨Nat.le_of_ble_eq_true rfl, Nat.le_of_ble_eq_true rfl⟩) rfl rfl rfl hE hP hDD rfl hS [0, 1, 2] rfl rfl rfl rfl hl.1 (Nat.le_of_ble_eq_true rfl) ⟨Nat.zero_le _, Nat.zero_le _⟩ rfl dX10_box_23 rfl (fun H locs hP hS => ?_)
      refine lv_iload_n hx hb dX10_box_26 rfl (lv_at hl 2 rfl) ?_
      by_cases c14 : x2 = 6
      · have h := ite_t c14 h
        refine wi_tIn (v := 6) (off := 29) (tgt := 56) hx hb dX10_box_27 c14 (by decide) (by decide) (by decide) (by decide) ?_
        refine lv_aload_n hx hb dX10_box_56 rfl (lv_at hl 0 rfl) ?_
        refine lv_iload_n hx hb dX10_box_57 rfl (lv_at hl 1 rfl) ?_
        obtain ⟨o15, hc16, h⟩ := bnd_some h
        refine cV_i (rest := []) (w2 := (wd_X10_box cy a_v a_v_now a_v_st a_v_isKept a_v_draft a_v_placedRow a_v_tape a_v_by a_v_told a_v_bestRow a_v_ways a_v_lanes a_v_sizes a_v_cells a_v_before v_hasOrder v_hasStart v_placed v_placedMany v_highest v_taped v_pos v_begun v_sort v_value v_fault v_wrongAt v_rightSum v_wrongSum v_allWays v_torn o12 v_st)) ⟨hx, hb, hml, hown, hts⟩ (c_X10_lasts l D cy sa a_v a_v_now a_v_st a_v_isKept a_v_draft a_v_placedRow a_v_tape a_v_by a_v_told a_v_bestRow a_v_ways a_v_lanes a_v_sizes a_v_cells a_v_before v_hasOrder v_hasStart v_placed v_placedMany v_highest v_taped v_pos v_begun v_sort v_value v_fault v_wrongAt v_rightSum v_wrongSum v_allWays v_torn o12 x1 o15 hc16) (cwV 1 hts gX10_box_X10_lasts rfl rfl rfl (by decide +kernel) ⟨Nat.le_of_ble_eq_true rfl, Nat.le_of_ble_eq_true rfl⟩) rfl rfl rfl hE hP hDD rfl hS [0, 1] rfl rfl rfl rfl hl.1 (Nat.le_of_ble_eq_true rfl) ⟨Nat.zero_le _, Nat.zero_le _⟩ rfl dX10_box_58 rfl (fun H locs hP hS => ?_)
        obtain rfl := Option.some.inj h
        exact KR _ _ _ _ hP hS dX10_box_61
      have h := ite_f c14 h
      by_cases c17 : x2 = 7
      · have h := ite_t c17 h
        refine wi_tIn (v := 7) (off := 35) (tgt := 62) hx hb dX10_box_27 c17 (by decide) (by decide) (by decide) (by decide) ?_
        refine lv_aload_n hx hb dX10_box_62 rfl (lv_at hl 0 rfl) ?_
        refine lv_iload_n hx hb dX10_box_63 rfl (lv_at hl 1 rfl) ?_
        obtain ⟨o18, hc19, h⟩ := bnd_some h
        refine cV_i (rest := []) (w2 := (wd_X10_box cy a_v a_v_now a_v_st a_v_isKept a_v_draft a_v_placedRow a_v_tape a_v_by a_v_told a_v_bestRow a_v_ways a_v_lanes a_v_sizes a_v_cells a_v_before v_hasOrder v_hasStart v_placed v_placedMany v_highest v_taped v_pos v_begun v_sort v_value v_fault v_wrongAt v_rightSum v_wrongSum v_allWays v_torn o12 v_st)) ⟨hx, hb, hml, hown, hts⟩ (c_X10_ownHour l D cy sa a_v a_v_now a_v_st a_v_isKept a_v_draft a_v_placedRow a_v_tape a_v_by a_v_told a_v_bestRow a_v_ways a_v_lanes a_v_sizes a_v_cells a_v_before v_hasOrder v_hasStart v_placed v_placedMany v_highest v_taped v_pos v_begun v_sort v_value v_fault v_wrongAt v_rightSum v_wrongSum v_allWays v_torn o12 x1 o18 hc19) (cwV 1 hts gX10_box_X10_ownHour rfl rfl rfl (by decide +kernel) ⟨Nat.le_of_ble_eq_true rfl, Nat.le_of_ble_eq_true rfl⟩) rfl rfl rfl hE hP hDD rfl hS [0, 1] rfl rfl rfl rfl hl.1 (Nat.le_of_ble_eq_true rfl) ⟨Nat.zero_le _, Nat.zero_le _⟩ rfl dX10_box_64 rfl (fun H locs hP hS => ?_)
        obtain rfl := Option.some.inj h
        exact KR _ _ _ _ hP hS dX10_box_67
      have h := ite_f c17 h
      by_cases c20 : x2 = 8
      · have h := ite_t c20 h
        refine wi_tIn (v := 8) (off := 41) (tgt := 68) hx hb dX10_box_27 c20 (by decide) (by decide) (by decide) (by decide) ?_
        refine lv_aload_n hx hb dX10_box_68 rfl (lv_at hl 0 rfl) ?_
        refine lv_iload_n hx hb dX10_box_69 rfl (lv_at hl 1 rfl) ?_
        obtain ⟨o21, hc22, h⟩ := bnd_some h
        refine cV_i (rest := []) (w2 := (wd_X10_box cy a_v a_v_now a_v_st a_v_isKept a_v_draft a_v_placedRow a_v_tape a_v_by a_v_told a_v_bestRow a_v_ways a_v_lanes a_v_sizes a_v_cells a_v_before v_hasOrder v_hasStart v_placed v_placedMany v_highest v_taped v_pos v_begun v_sort v_value v_fault v_wrongAt v_rightSum v_wrongSum v_allWays v_torn o12 v_st)) ⟨hx, hb, hml, hown, hts⟩ (c_X10_wrong l D cy sa a_v a_v_now a_v_st a_v_isKept a_v_draft a_v_placedRow a_v_tape a_v_by a_v_told a_v_bestRow a_v_ways a_v_lanes a_v_sizes a_v_cells a_v_before v_hasOrder v_hasStart v_placed v_placedMany v_highest v_taped v_pos v_begun v_sort v_value v_fault v_wrongAt v_rightSum v_wrongSum v_allWays v_torn o12 x1 o21 hc22) (cwV 1 hts gX10_box_X10_wrong rfl rfl rfl (by decide +kernel) ⟨Nat.le_of_ble_eq_true rfl, Nat.le_of_ble_eq_true rfl⟩) rfl rfl rfl hE hP hDD rfl hS [0, 1] rfl rfl rfl rfl hl.1 (Nat.le_of_ble_eq_true rfl) ⟨Nat.zero_le _, Nat.zero_le _⟩ rfl dX10_box_70 rfl (fun H locs hP hS => ?_)
        obtain rfl := Option.some.inj h
        exact KR _ _ _ _ hP hS dX10_box_73
      have h := ite_f c20 h
      by_cases c23 : x2 = 9
      · have h := ite_t c23 h
        refine wi_tIn (v := 9) (off := 47) (tgt := 74) hx hb dX10_box_27 c23 (by decide) (by decide) (by decide) (by decide) ?_
        refine lv_aload_n hx hb dX10_box_74 rfl (lv_at hl 0 rfl) ?_
        refine lv_iload_n hx hb dX10_box_75 rfl (lv_at hl 1 rfl) ?_
        obtain ⟨o24, hc25, h⟩ := bnd_some h
        refine cV_i (rest := []) (w2 := (wd_X10_box cy a_v a_v_now a_v_st a_v_isKept a_v_draft a_v_placedRow a_v_tape a_v_by a_v_told a_v_bestRow a_v_ways a_v_lanes a_v_sizes a_v_cells a_v_before v_hasOrder v_hasStart v_placed v_placedMany v_highest v_taped v_pos v_begun v_sort v_value v_fault v_wrongAt v_rightSum v_wrongSum v_allWays v_torn o12 v_st)) ⟨hx, hb, hml, hown, hts⟩ (c_X10_placeOf l D cy sa a_v a_v_now a_v_st a_v_isKept a_v_draft a_v_placedRow a_v_tape a_v_by a_v_told a_v_bestRow a_v_ways a_v_lanes a_v_sizes a_v_cells a_v_before v_hasOrder v_hasStart v_placed v_placedMany v_highest v_taped v_pos v_begun v_sort v_value v_fault v_wrongAt v_rightSum v_wrongSum v_allWays v_torn o12 x1 o24 hc25) (cwV 1 hts gX10_box_X10_placeOf rfl rfl rfl (by decide +kernel) ⟨Nat.le_of_ble_eq_true rfl, Nat.le_of_ble_eq_true rfl⟩) rfl rfl rfl hE hP hDD rfl hS [0, 1] rfl rfl rfl rfl hl.1 (Nat.le_of_ble_eq_true rfl) ⟨Nat.zero_le _, Nat.zero_le _⟩ rfl dX10_box_76 rfl (fun H locs hP hS => ?_)
        obtain rfl := Option.some.inj h
        exact KR _ _ _ _ hP hS dX10_box_79
      have h := ite_f c23 h
      refine wi_tOut (tgt := 80) hx hb dX10_box_27 hr6 (by omega) (by decide) ?_
      refine lv_aload_n hx hb dX10_box_80 rfl (lv_at hl 0 rfl) ?_
      refine lv_iload_n hx hb dX10_box_81 rfl (lv_at hl 1 rfl) ?_
      refine lv_iload_n hx hb dX10_box_82 rfl (lv_at hl 2 rfl) ?_
      obtain ⟨o26, hc27, h⟩ := bnd_some h
      refine cV_i (rest := []) (w2 := (wd_X10_box cy a_v a_v_now a_v_st a_v_isKept a_v_draft a_v_placedRow a_v_tape a_v_by a_v_told a_v_bestRow a_v_ways a_v_lanes a_v_sizes a_v_cells a_v_before v_hasOrder v_hasStart v_placed v_placedMany v_highest v_taped v_pos v_begun v_sort v_value v_fault v_wrongAt v_rightSum v_wrongSum v_allWays v_torn o12 v_st)) ⟨hx, hb, hml, hown, hts⟩ (c_X10_of l D cy sa a_v a_v_now a_v_st a_v_isKept a_v_draft a_v_placedRow a_v_tape a_v_by a_v_told a_v_bestRow a_v_ways a_v_lanes a_v_sizes a_v_cells a_v_before v_hasOrder v_hasStart v_placed v_placedMany v_highest v_taped v_pos v_begun v_sort v_value v_fault v_wrongAt v_rightSum v_wrongSum v_allWays v_torn o12 x1 x2 o26 hc27) (cwV 2 hts gX10_box_X10_of rfl rfl rfl (by decide +kernel) ⟨Nat.le_of_ble_eq_true rfl, Nat.le_of_ble_eq_true rfl⟩) rfl rfl rfl hE hP hDD rfl hS [0, 1] rfl rfl rfl rfl hl.1 (Nat.le_of_ble_eq_true rfl) ⟨Nat.zero_le _, Nat.zero_le _⟩ rfl dX10_box_83 rfl (fun H locs hP hS => ?_)
      obtain rfl := Option.some.inj h
      exact KR _ _ _ _ hP hS dX10_box_86
    · have h := ite_t c11 h
      refine wi_ic hx hb dX10_box_20 ?_
      obtain rfl := Option.some.inj h
      exact KR _ _ _ _ hP hS dX10_box_21
abbrev wd_X10_order (cy : Nat → ClassId) (a_v : Nat) (a_v_now : Nat) (a_v_st : Nat) (a_v_isKept : Nat) (a_v_draft : Nat) (a_v_placedRow : Nat) (a_v_tape : Nat) (a_v_by : Nat) (a_v_told : Nat) (a_v_bestRow : Nat) (a_v_ways : Nat) (a_v_lanes : Nat) (a_v_sizes : Nat) (a_v_cells : Nat) (a_v_before : Nat) (v_hasOrder : Int) (v_hasStart : Int) (v_placed : Int) (v_placedMany : Int) (v_highest : Int) (v_taped : Int) (v_pos : Int) (v_begun : Int) (v_sort : Int) (v_value : Int) (v_fault : Int) (v_wrongAt : Int) (v_rightSum : Int) (v_wrongSum : Int) (v_allWays : Int) (v_torn : Int) (v_now : Nat → Int) (v_st : Nat → Int) : va_W := [(a_v, .inr (10, [.ref a_v_st, .ref a_v_now, .ref a_v_isKept, .ref a_v_draft, .int (zI v_hasOrder), .int (zI v_hasStart), .int (zI v_placed), .int (zI v_placedMany), .ref a_v_placedRow, .int (zI v_highest), .ref a_v_tape, .int (zI v_taped), .int (zI v_pos), .int (zI v_begun), .int (zI v_sort), .int (zI v_value), .int (zI v_fault), .int (zI v_wrongAt), .ref a_v_by, .ref a_v_told, .ref a_v_bestRow, .long (zL v_rightSum), .long (zL v_wrongSum), .long (zL v_allWays), .ref a_v_ways, .ref a_v_lanes, .ref a_v_sizes, .ref a_v_cells, .int (zI v_torn), .ref a_v_before])), (a_v_now, .inl (cy 0, 56, .inl (fun j => zI (v_now j)))), (a_v_st, .inl (cy 0, 168, .inl (fun j => zI (v_st j))))]
set_option maxHeartbeats 4000000 in
set_option maxRecDepth 100000 in
theorem c_X10_order (l : Launch) (D : va_G) (cy : Nat → ClassId) (sa : Nat → Nat) (a_v : Nat) (a_v_now : Nat) (a_v_st : Nat) (a_v_isKept : Nat) (a_v_draft : Nat) (a_v_placedRow : Nat) (a_v_tape : Nat) (a_v_by : Nat) (a_v_told : Nat) (a_v_bestRow : Nat) (a_v_ways : Nat) (a_v_lanes : Nat) (a_v_sizes : Nat) (a_v_cells : Nat) (a_v_before : Nat) (v_hasOrder : Int) (v_hasStart : Int) (v_placed : Int) (v_placedMany : Int) (v_highest : Int) (v_taped : Int) (v_pos : Int) (v_begun : Int) (v_sort : Int) (v_value : Int) (v_fault : Int) (v_wrongAt : Int) (v_rightSum : Int) (v_wrongSum : Int) (v_allWays : Int) (v_torn : Int) (v_now : Nat → Int) (v_st : Nat → Int) (x1 : Int) (x2 : Int) (o : Int × (Nat → Int)) (h : f_M_order v_now v_st x1 x2 = some o) : CtI l yX10_order wsX10_order ({ frames := 2, cells := 0, slots := 0, locals := 46 }) D cy sa [.ref a_v, .int (zI x1), .int (zI x2)] (wd_X10_order cy a_v a_v_now a_v_st a_v_isKept a_v_draft a_v_placedRow a_v_tape a_v_by a_v_told a_v_bestRow a_v_ways a_v_lanes a_v_sizes a_v_cells a_v_before v_hasOrder v_hasStart v_placed v_placedMany v_highest v_taped v_pos v_begun v_sort v_value v_fault v_wrongAt v_rightSum v_wrongSum v_allWays v_torn v_now v_st) (wd_X10_order cy a_v a_v_now a_v_st a_v_isKept a_v_draft a_v_placedRow a_v_tape a_v_by a_v_told a_v_bestRow a_v_ways a_v_lanes a_v_sizes a_v_cells a_v_before v_hasOrder v_hasStart v_placed v_placedMany v_highest v_taped v_pos v_begun v_sort v_value v_fault v_wrongAt v_rightSum v_wrongSum v_allWays v_torn o.2 v_st) o.1 := by
  refine ct_I (cc := cX10_order) (maxL := 3) (plainFor_of_name (by decide)) rfl (Nat.le_of_ble_eq_true rfl) ?_
  intro p e s m below meth c A args QQ hx hb hml hown hts hE hDD hP KR ls hl
  have hl : lv_has ls 3 [(0, .ref a_v), (1, .int (zI x1)), (2, .int (zI x2))] := hl
  have hDD : DD A [a_v, a_v_now, a_v_st] := hDD
  have hS : va_S A s.heap s.heap [] := va_S.rf
  have q0 := hts (.fieldLink RX10 7 "HatHoursModel" "st" "[I") (List.mem_of_getElem? (i := 1) rfl)
  have iX10 : ∀ w ∈ u_ws RX10 TX10 30, w ∈ wsX10_order := in_slice 26 30 rfl
  refine lv_aload_n hx hb dX10_order_0 rfl (lv_at hl 0 rfl) ?_
  refine lv_iload_n hx hb dX10_order_1 rfl (lv_at hl 1 rfl) ?_
  obtain ⟨o1, hc2, h⟩ := bnd_some h
  refine cV_i (rest := []) (w2 := (wd_X10_order cy a_v a_v_now a_v_st a_v_isKept a_v_draft a_v_placedRow a_v_tape a_v_by a_v_told a_v_bestRow a_v_ways a_v_lanes a_v_sizes a_v_cells a_v_before v_hasOrder v_hasStart v_placed v_placedMany v_highest v_taped v_pos v_begun v_sort v_value v_fault v_wrongAt v_rightSum v_wrongSum v_allWays v_torn v_now v_st)) ⟨hx, hb, hml, hown, hts⟩ (c_X10_isBox l D cy sa a_v a_v_st a_v_now a_v_isKept a_v_draft a_v_placedRow a_v_tape a_v_by a_v_told a_v_bestRow a_v_ways a_v_lanes a_v_sizes a_v_cells a_v_before v_hasOrder v_hasStart v_placed v_placedMany v_highest v_taped v_pos v_begun v_sort v_value v_fault v_wrongAt v_rightSum v_wrongSum v_allWays v_torn v_st x1 o1 hc2) (cwV 1 hts gX10_order_X10_isBox rfl rfl rfl (by decide +kernel) ⟨Nat.le_of_ble_eq_true rfl, Nat.le_of_ble_eq_true rfl⟩) rfl rfl rfl hE hP hDD rfl hS [0, 2] rfl rfl rfl rfl hl.1 (Nat.le_of_ble_eq_true rfl) ⟨Nat.zero_le _, Nat.zero_le _⟩ rfl dX10_order_2 rfl (fun H locs hP hS => ?_)
  obtain ⟨hr3, h⟩ := chk_some h
  refine wi_if_eq (tgt := 15) hx hb dX10_order_5 (by decide) hr3 (fun c5 => ?_) (fun c5 => ?_)
  · have h := ite_t c5 h
    refine wi_ic hx hb dX10_order_15 ?_
    obtain rfl := Option.some.inj h
    exact KR _ _ _ _ hP hS dX10_order_16
  · have h := ite_f c5 h
    refine lv_iload_n hx hb dX10_order_8 rfl (lv_at hl 2 rfl) ?_
    obtain ⟨o6, hc7, h⟩ := bnd_some h
    refine cS_i (rest := []) (w2 := (wd_X10_order cy a_v a_v_now a_v_st a_v_isKept a_v_draft a_v_placedRow a_v_tape a_v_by a_v_told a_v_bestRow a_v_ways a_v_lanes a_v_sizes a_v_cells a_v_before v_hasOrder v_hasStart v_placed v_placedMany v_highest v_taped v_pos v_begun v_sort v_value v_fault v_wrongAt v_rightSum v_wrongSum v_allWays v_torn v_now v_st)) ⟨hx, hb, hml, hown, hts⟩ (c_X10_isPart l D cy sa x2 o6 hc7) (va_cwS 1 hts gX10_order_X10_isPart rfl rfl rfl (by decide +kernel) ⟨Nat.le_of_ble_eq_true rfl, Nat.le_of_ble_eq_true rfl⟩) hE hP hDD rfl hS [] rfl rfl rfl rfl hl.1 (Nat.le_of_ble_eq_true rfl) ⟨Nat.zero_le _, Nat.zero_le _⟩ rfl dX10_order_9 rfl (fun H locs hP hS => ?_)
    obtain ⟨hr8, h⟩ := chk_some h
    refine wi_if_ne (tgt := 17) hx hb dX10_order_12 (by decide) hr8 (fun c10 => ?_) (fun c10 => ?_)
    · have h := ite_f c10 h
      refine lv_aload_n hx hb dX10_order_17 rfl (lv_at hl 0 rfl) ?_
      obtain ⟨o11, hc12, h⟩ := bnd_some h
      refine cV_v (rest := []) (w2 := (wd_X10_order cy a_v a_v_now a_v_st a_v_isKept a_v_draft a_v_placedRow a_v_tape a_v_by a_v_told a_v_bestRow a_v_ways a_v_lanes a_v_sizes a_v_cells a_v_before v_hasOrder v_hasStart v_placed v_placedMany v_highest v_taped v_pos v_begun v_sort v_value v_fault v_wrongAt v_rightSum v_wrongSum v_allWays v_torn o11 v_st)) ⟨hx, hb, hml, hown, hts⟩ (c_X10_fetches l D cy sa a_v a_v_now a_v_st a_v_isKept a_v_draft a_v_placedRow a_v_tape a_v_by a_v_told a_v_bestRow a_v_ways a_v_lanes a_v_sizes a_v_cells a_v_before v_hasOrder v_hasStart v_placed v_placedMany v_highest v_taped v_pos v_begun v_sort v_value v_fault v_wrongAt v_rightSum v_wrongSum v_allWays v_torn v_now v_st o11 hc12) (cwV 0 hts gX10_order_X10_fetches rfl rfl rfl (by decide +kernel) ⟨Nat.le_of_ble_eq_true rfl, Nat.le_of_ble_eq_true rfl⟩) rfl rfl rfl hE hP hDD rfl hS [0, 1, 2] rfl rfl rfl rfl hl.1 (Nat.le_of_ble_eq_true rfl) ⟨Nat.zero_le _, Nat.zero_le _⟩ rfl dX10_order_18 rfl (fun H locs hP hS => ?_)
      refine lv_iload_n hx hb dX10_order_21 rfl (lv_at hl 2 rfl) ?_
      obtain ⟨hr13, h⟩ := chk_some h
      refine wi_if_ne (tgt := 37) hx hb dX10_order_22 (by decide) hr13 (fun c15 => ?_) (fun c15 => ?_)
      · have h := ite_f c15 h
        refine lv_aload_n hx hb dX10_order_37 rfl (lv_at hl 0 rfl) ?_
        refine lv_iload_n hx hb dX10_order_38 rfl (lv_at hl 1 rfl) ?_
        obtain ⟨o16, hc17, h⟩ := bnd_some h
        refine cV_i (rest := []) (w2 := (wd_X10_order cy a_v a_v_now a_v_st a_v_isKept a_v_draft a_v_placedRow a_v_tape a_v_by a_v_told a_v_bestRow a_v_ways a_v_lanes a_v_sizes a_v_cells a_v_before v_hasOrder v_hasStart v_placed v_placedMany v_highest v_taped v_pos v_begun v_sort v_value v_fault v_wrongAt v_rightSum v_wrongSum v_allWays v_torn o11 v_st)) ⟨hx, hb, hml, hown, hts⟩ (c_X10_doneIn l D cy sa a_v a_v_now a_v_st a_v_isKept a_v_draft a_v_placedRow a_v_tape a_v_by a_v_told a_v_bestRow a_v_ways a_v_lanes a_v_sizes a_v_cells a_v_before v_hasOrder v_hasStart v_placed v_placedMany v_highest v_taped v_pos v_begun v_sort v_value v_fault v_wrongAt v_rightSum v_wrongSum v_allWays v_torn o11 x1 o16 hc17) (cwV 1 hts gX10_order_X10_doneIn rfl rfl rfl (by decide +kernel) ⟨Nat.le_of_ble_eq_true rfl, Nat.le_of_ble_eq_true rfl⟩) rfl rfl rfl hE hP hDD rfl hS [0, 1] rfl rfl rfl rfl hl.1 (Nat.le_of_ble_eq_true rfl) ⟨Nat.zero_le _, Nat.zero_le _⟩ rfl dX10_order_39 rfl (fun H locs hP hS => ?_)
        obtain rfl := Option.some.inj h
        exact KR _ _ _ _ hP hS dX10_order_42
      · have h := ite_t c15 h
        refine lv_aload_n hx hb dX10_order_25 rfl (lv_at hl 0 rfl) ?_
        refine wi_get (v := .ref a_v_st) hx hb hts iX10 hown hE hP 0 rfl rfl 0 (by decide) q0 rfl dX10_order_26 ?_
        refine wi_bi hx hb dX10_order_29 (by decide) ?_
        refine lv_iload_n hx hb dX10_order_31 rfl (lv_at hl 1 rfl) ?_
        refine wi_iadd hx hb dX10_order_32 ?_
        obtain ⟨hk18, h⟩ := chk_some h
        refine wi_iald hx hb hE hP 2 rfl (by decide) hk18 dX10_order_33 ?_
        refine lv_goto (tgt := 42) hx hb dX10_order_34 (by decide) ?_
        obtain rfl := Option.some.inj h
        exact KR _ _ _ _ hP hS dX10_order_42
    · have h := ite_t c10 h
      refine wi_ic hx hb dX10_order_15 ?_
      obtain rfl := Option.some.inj h
      exact KR _ _ _ _ hP hS dX10_order_16
abbrev wd_X10_becomes (cy : Nat → ClassId) (a_v : Nat) (a_v_st : Nat) (a_v_now : Nat) (a_v_isKept : Nat) (a_v_draft : Nat) (a_v_placedRow : Nat) (a_v_tape : Nat) (a_v_by : Nat) (a_v_told : Nat) (a_v_bestRow : Nat) (a_v_ways : Nat) (a_v_lanes : Nat) (a_v_sizes : Nat) (a_v_cells : Nat) (a_v_before : Nat) (v_hasOrder : Int) (v_hasStart : Int) (v_placed : Int) (v_placedMany : Int) (v_highest : Int) (v_taped : Int) (v_pos : Int) (v_begun : Int) (v_sort : Int) (v_value : Int) (v_fault : Int) (v_wrongAt : Int) (v_rightSum : Int) (v_wrongSum : Int) (v_allWays : Int) (v_torn : Int) (v_st : Nat → Int) : va_W := [(a_v, .inr (10, [.ref a_v_st, .ref a_v_now, .ref a_v_isKept, .ref a_v_draft, .int (zI v_hasOrder), .int (zI v_hasStart), .int (zI v_placed), .int (zI v_placedMany), .ref a_v_placedRow, .int (zI v_highest), .ref a_v_tape, .int (zI v_taped), .int (zI v_pos), .int (zI v_begun), .int (zI v_sort), .int (zI v_value), .int (zI v_fault), .int (zI v_wrongAt), .ref a_v_by, .ref a_v_told, .ref a_v_bestRow, .long (zL v_rightSum), .long (zL v_wrongSum), .long (zL v_allWays), .ref a_v_ways, .ref a_v_lanes, .ref a_v_sizes, .ref a_v_cells, .int (zI v_torn), .ref a_v_before])), (a_v_st, .inl (cy 0, 168, .inl (fun j => zI (v_st j))))]
set_option maxHeartbeats 4000000 in
set_option maxRecDepth 100000 in
theorem c_X10_becomes (l : Launch) (D : va_G) (cy : Nat → ClassId) (sa : Nat → Nat) (a_v : Nat) (a_v_st : Nat) (a_v_now : Nat) (a_v_isKept : Nat) (a_v_draft : Nat) (a_v_placedRow : Nat) (a_v_tape : Nat) (a_v_by : Nat) (a_v_told : Nat) (a_v_bestRow : Nat) (a_v_ways : Nat) (a_v_lanes : Nat) (a_v_sizes : Nat) (a_v_cells : Nat) (a_v_before : Nat) (v_hasOrder : Int) (v_hasStart : Int) (v_placed : Int) (v_placedMany : Int) (v_highest : Int) (v_taped : Int) (v_pos : Int) (v_begun : Int) (v_sort : Int) (v_value : Int) (v_fault : Int) (v_wrongAt : Int) (v_rightSum : Int) (v_wrongSum : Int) (v_allWays : Int) (v_torn : Int) (v_st : Nat → Int) (x1 : Int) (x2 : Int) (o : Int × (Nat → Int)) (h : f_M_becomes v_st x1 x2 = some o) : CtI l yX10_becomes wsX10_becomes ({ frames := 0, cells := 0, slots := 0, locals := 0 }) D cy sa [.ref a_v, .int (zI x1), .int (zI x2)] (wd_X10_becomes cy a_v a_v_st a_v_now a_v_isKept a_v_draft a_v_placedRow a_v_tape a_v_by a_v_told a_v_bestRow a_v_ways a_v_lanes a_v_sizes a_v_cells a_v_before v_hasOrder v_hasStart v_placed v_placedMany v_highest v_taped v_pos v_begun v_sort v_value v_fault v_wrongAt v_rightSum v_wrongSum v_allWays v_torn v_st) (wd_X10_becomes cy a_v a_v_st a_v_now a_v_isKept a_v_draft a_v_placedRow a_v_tape a_v_by a_v_told a_v_bestRow a_v_ways a_v_lanes a_v_sizes a_v_cells a_v_before v_hasOrder v_hasStart v_placed v_placedMany v_highest v_taped v_pos v_begun v_sort v_value v_fault v_wrongAt v_rightSum v_wrongSum v_allWays v_torn o.2) o.1 := by
  refine ct_I (cc := cX10_becomes) (maxL := 4) (plainFor_of_name (by decide)) rfl (Nat.le_of_ble_eq_true rfl) ?_
  intro p e s m below meth c A args QQ hx hb hml hown hts hE hDD hP KR ls hl
  have hl : lv_has ls 4 [(0, .ref a_v), (1, .int (zI x1)), (2, .int (zI x2))] := hl
  have hDD : DD A [a_v, a_v_st] := hDD
  have hS : va_S A s.heap s.heap [] := va_S.rf
  have q0 := hts (.fieldLink RX10 7 "HatHoursModel" "st" "[I") (List.mem_of_getElem? (i := 1) rfl)
  have iX10 : ∀ w ∈ u_ws RX10 TX10 30, w ∈ wsX10_becomes := in_slice 2 30 rfl
  refine lv_aload_n hx hb dX10_becomes_0 rfl (lv_at hl 0 rfl) ?_
  refine wi_get (v := .ref a_v_st) hx hb hts iX10 hown hE hP 0 rfl rfl 0 (by decide) q0 rfl dX10_becomes_1 ?_
  refine lv_iload_n hx hb dX10_becomes_4 rfl (lv_at hl 1 rfl) ?_
  obtain ⟨hk1, h⟩ := chk_some h
  refine wi_iald hx hb hE hP 1 rfl (by decide) hk1 dX10_becomes_5 ?_
  refine lv_istore_n (lv' := [(3, .int (zI (v_st (x1).toNat))), (0, .ref a_v), (1, .int (zI x1)), (2, .int (zI x2))]) hx hb dX10_becomes_6 rfl hl (by decide) rfl (fun ls hl => ?_)
  refine lv_aload_n hx hb dX10_becomes_7 rfl (lv_at hl 1 rfl) ?_
  refine wi_get (v := .ref a_v_st) hx hb hts iX10 hown hE hP 0 rfl rfl 0 (by decide) q0 rfl dX10_becomes_8 ?_
  refine lv_iload_n hx hb dX10_becomes_11 rfl (lv_at hl 2 rfl) ?_
  refine lv_iload_n hx hb dX10_becomes_12 rfl (lv_at hl 3 rfl) ?_
  refine wi_iast (w2 := (wd_X10_becomes cy a_v a_v_st a_v_now a_v_isKept a_v_draft a_v_placedRow a_v_tape a_v_by a_v_told a_v_bestRow a_v_ways a_v_lanes a_v_sizes a_v_cells a_v_before v_hasOrder v_hasStart v_placed v_placedMany v_highest v_taped v_pos v_begun v_sort v_value v_fault v_wrongAt v_rightSum v_wrongSum v_allWays v_torn (upZ v_st (x1).toNat x2))) hx hb hE hP hDD rfl hS 1 rfl (by decide) hk1 dX10_becomes_13 rfl (fun H locs hP hS => ?_)
  refine lv_iload_n hx hb dX10_becomes_14 rfl (lv_at hl 0 rfl) ?_
  obtain rfl := Option.some.inj h
  exact KR _ _ _ _ hP hS dX10_becomes_15
abbrev wd_X10_canBe (cy : Nat → ClassId) : va_W := []
set_option maxHeartbeats 4000000 in
set_option maxRecDepth 100000 in
theorem c_X10_canBe (l : Launch) (D : va_G) (cy : Nat → ClassId) (sa : Nat → Nat) (x0 : Int) (x1 : Int) (o : Int) (h : f_M_canBe x0 x1 = some o) : CtI l yX10_canBe wsX10_canBe ({ frames := 2, cells := 0, slots := 0, locals := 45 }) D cy sa [.int (zI x0), .int (zI x1)] (wd_X10_canBe cy ) (wd_X10_canBe cy ) o := by
  refine ct_Z (cc := cX10_canBe) (maxL := 2) (plainFor_of_name (by decide)) rfl (Nat.le_of_ble_eq_true rfl) ?_
  intro p e s m below meth c A args QQ hx hb hml hown hts hE hDD hP KR ls hl
  have hl : lv_has ls 2 [(0, .int (zI x0)), (1, .int (zI x1))] := hl
  have hDD : DD A [] := hDD
  have hS : va_S A s.heap s.heap [] := va_S.rf
  have q0 := hts (.constantLong RX10 210 (3)) (List.mem_of_getElem? (i := 1) rfl)
  have q1 := hts (.constantLong RX10 212 (12)) (List.mem_of_getElem? (i := 2) rfl)
  have q2 := hts (.constantLong RX10 205 (9)) (List.mem_of_getElem? (i := 3) rfl)
  refine lv_iload_n hx hb dX10_canBe_0 rfl (lv_at hl 0 rfl) ?_
  obtain ⟨hr1, h⟩ := chk_some h
  by_cases c2 : x0 = 0
  · have h := ite_t c2 h
    refine wi_tIn (v := 0) (off := 39) (tgt := 40) hx hb dX10_canBe_1 c2 (by decide) (by decide) (by decide) (by decide) ?_
    refine lv_iload_n hx hb dX10_canBe_40 rfl (lv_at hl 1 rfl) ?_
    obtain ⟨hr3, h⟩ := chk_some h
    refine wi_i2l hx hb dX10_canBe_41 hr3 ?_
    refine wi_lc (v := 0) hx hb dX10_canBe_42 rfl ?_
    refine wi_ldc2 (n := 3) hx hb hown q0 dX10_canBe_43 rfl ?_
    obtain ⟨o4, hc5, h⟩ := bnd_some h
    refine cS_i (rest := []) (w2 := (wd_X10_canBe cy )) ⟨hx, hb, hml, hown, hts⟩ (c_X10_in l D cy sa x1 0 3 o4 hc5) (va_cwS 3 hts gX10_canBe_X10_in rfl rfl rfl (by decide +kernel) ⟨Nat.le_of_ble_eq_true rfl, Nat.le_of_ble_eq_true rfl⟩) hE hP hDD rfl hS [] rfl rfl rfl rfl hl.1 (Nat.le_of_ble_eq_true rfl) ⟨Nat.zero_le _, Nat.zero_le _⟩ rfl dX10_canBe_46 rfl (fun H locs hP hS => ?_)
    obtain ⟨hk6, h⟩ := chk_some h
    obtain rfl := Option.some.inj h
    exact KR _ _ _ _ (z01 hk6) hP hS dX10_canBe_49
  have h := ite_f c2 h
  by_cases c7 : x0 = 1
  · have h := ite_t c7 h
    refine wi_tIn (v := 1) (off := 49) (tgt := 50) hx hb dX10_canBe_1 c7 (by decide) (by decide) (by decide) (by decide) ?_
    refine lv_iload_n hx hb dX10_canBe_50 rfl (lv_at hl 1 rfl) ?_
    obtain ⟨hr8, h⟩ := chk_some h
    refine wi_i2l hx hb dX10_canBe_51 hr8 ?_
    refine wi_lc (v := 1) hx hb dX10_canBe_52 rfl ?_
    refine wi_ldc2 (n := 12) hx hb hown q1 dX10_canBe_53 rfl ?_
    obtain ⟨o9, hc10, h⟩ := bnd_some h
    refine cS_i (rest := []) (w2 := (wd_X10_canBe cy )) ⟨hx, hb, hml, hown, hts⟩ (c_X10_in l D cy sa x1 1 12 o9 hc10) (va_cwS 3 hts gX10_canBe_X10_in rfl rfl rfl (by decide +kernel) ⟨Nat.le_of_ble_eq_true rfl, Nat.le_of_ble_eq_true rfl⟩) hE hP hDD rfl hS [] rfl rfl rfl rfl hl.1 (Nat.le_of_ble_eq_true rfl) ⟨Nat.zero_le _, Nat.zero_le _⟩ rfl dX10_canBe_56 rfl (fun H locs hP hS => ?_)
    obtain ⟨hk11, h⟩ := chk_some h
    obtain rfl := Option.some.inj h
    exact KR _ _ _ _ (z01 hk11) hP hS dX10_canBe_59
  have h := ite_f c7 h
  by_cases c12 : x0 = 2
  · have h := ite_t c12 h
    refine wi_tIn (v := 2) (off := 59) (tgt := 60) hx hb dX10_canBe_1 c12 (by decide) (by decide) (by decide) (by decide) ?_
    refine lv_iload_n hx hb dX10_canBe_60 rfl (lv_at hl 1 rfl) ?_
    obtain ⟨o13, hc14, h⟩ := bnd_some h
    refine cS_i (rest := []) (w2 := (wd_X10_canBe cy )) ⟨hx, hb, hml, hown, hts⟩ (c_X10_isHour l D cy sa x1 o13 hc14) (va_cwS 1 hts gX10_canBe_X10_isHour rfl rfl rfl (by decide +kernel) ⟨Nat.le_of_ble_eq_true rfl, Nat.le_of_ble_eq_true rfl⟩) hE hP hDD rfl hS [] rfl rfl rfl rfl hl.1 (Nat.le_of_ble_eq_true rfl) ⟨Nat.zero_le _, Nat.zero_le _⟩ rfl dX10_canBe_61 rfl (fun H locs hP hS => ?_)
    obtain ⟨hk15, h⟩ := chk_some h
    obtain rfl := Option.some.inj h
    exact KR _ _ _ _ (z01 hk15) hP hS dX10_canBe_64
  have h := ite_f c12 h
  by_cases c16 : x0 = 3
  · have h := ite_t c16 h
    refine wi_tIn (v := 3) (off := 64) (tgt := 65) hx hb dX10_canBe_1 c16 (by decide) (by decide) (by decide) (by decide) ?_
    refine lv_iload_n hx hb dX10_canBe_65 rfl (lv_at hl 1 rfl) ?_
    obtain ⟨hr17, h⟩ := chk_some h
    refine wi_i2l hx hb dX10_canBe_66 hr17 ?_
    refine wi_lc (v := 1) hx hb dX10_canBe_67 rfl ?_
    refine wi_ldc2 (n := 9) hx hb hown q2 dX10_canBe_68 rfl ?_
    obtain ⟨o18, hc19, h⟩ := bnd_some h
    refine cS_i (rest := []) (w2 := (wd_X10_canBe cy )) ⟨hx, hb, hml, hown, hts⟩ (c_X10_in l D cy sa x1 1 9 o18 hc19) (va_cwS 3 hts gX10_canBe_X10_in rfl rfl rfl (by decide +kernel) ⟨Nat.le_of_ble_eq_true rfl, Nat.le_of_ble_eq_true rfl⟩) hE hP hDD rfl hS [] rfl rfl rfl rfl hl.1 (Nat.le_of_ble_eq_true rfl) ⟨Nat.zero_le _, Nat.zero_le _⟩ rfl dX10_canBe_71 rfl (fun H locs hP hS => ?_)
    obtain ⟨hk20, h⟩ := chk_some h
    obtain rfl := Option.some.inj h
    exact KR _ _ _ _ (z01 hk20) hP hS dX10_canBe_74
  have h := ite_f c16 h
  by_cases c21 : x0 = 4
  · have h := ite_t c21 h
    refine wi_tIn (v := 4) (off := 59) (tgt := 60) hx hb dX10_canBe_1 c21 (by decide) (by decide) (by decide) (by decide) ?_
    refine lv_iload_n hx hb dX10_canBe_60 rfl (lv_at hl 1 rfl) ?_
    obtain ⟨o22, hc23, h⟩ := bnd_some h
    refine cS_i (rest := []) (w2 := (wd_X10_canBe cy )) ⟨hx, hb, hml, hown, hts⟩ (c_X10_isHour l D cy sa x1 o22 hc23) (va_cwS 1 hts gX10_canBe_X10_isHour rfl rfl rfl (by decide +kernel) ⟨Nat.le_of_ble_eq_true rfl, Nat.le_of_ble_eq_true rfl⟩) hE hP hDD rfl hS [] rfl rfl rfl rfl hl.1 (Nat.le_of_ble_eq_true rfl) ⟨Nat.zero_le _, Nat.zero_le _⟩ rfl dX10_canBe_61 rfl (fun H locs hP hS => ?_)
    obtain ⟨hk24, h⟩ := chk_some h
    obtain rfl := Option.some.inj h
    exact KR _ _ _ _ (z01 hk24) hP hS dX10_canBe_64
  have h := ite_f c21 h
  by_cases c25 : x0 = 5
  · have h := ite_t c25 h
    refine wi_tIn (v := 5) (off := 74) (tgt := 75) hx hb dX10_canBe_1 c25 (by decide) (by decide) (by decide) (by decide) ?_
    refine lv_iload_n hx hb dX10_canBe_75 rfl (lv_at hl 1 rfl) ?_
    obtain ⟨o26, hc27, h⟩ := bnd_some h
    refine cS_i (rest := []) (w2 := (wd_X10_canBe cy )) ⟨hx, hb, hml, hown, hts⟩ (c_X10_isRoom l D cy sa x1 o26 hc27) (va_cwS 1 hts gX10_canBe_X10_isRoom rfl rfl rfl (by decide +kernel) ⟨Nat.le_of_ble_eq_true rfl, Nat.le_of_ble_eq_true rfl⟩) hE hP hDD rfl hS [] rfl rfl rfl rfl hl.1 (Nat.le_of_ble_eq_true rfl) ⟨Nat.zero_le _, Nat.zero_le _⟩ rfl dX10_canBe_76 rfl (fun H locs hP hS => ?_)
    obtain ⟨hk28, h⟩ := chk_some h
    obtain rfl := Option.some.inj h
    exact KR _ _ _ _ (z01 hk28) hP hS dX10_canBe_79
  have h := ite_f c25 h
  refine wi_tOut (tgt := 80) hx hb dX10_canBe_1 hr1 (by omega) (by decide) ?_
  refine wi_ic hx hb dX10_canBe_80 ?_
  obtain rfl := Option.some.inj h
  exact KR _ _ _ _ (z01 (Or.inl rfl)) hP hS dX10_canBe_81
