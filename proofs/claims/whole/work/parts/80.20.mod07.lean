abbrev wd_X10_first (cy : Nat → ClassId) (a_v : Nat) (a_v_by : Nat) (a_v_now : Nat) (a_v_st : Nat) (a_v_told : Nat) (a_v_isKept : Nat) (a_v_draft : Nat) (a_v_placedRow : Nat) (a_v_tape : Nat) (a_v_bestRow : Nat) (a_v_ways : Nat) (a_v_lanes : Nat) (a_v_sizes : Nat) (a_v_cells : Nat) (a_v_before : Nat) (v_hasOrder : Int) (v_hasStart : Int) (v_placed : Int) (v_placedMany : Int) (v_highest : Int) (v_taped : Int) (v_pos : Int) (v_begun : Int) (v_sort : Int) (v_value : Int) (v_fault : Int) (v_wrongAt : Int) (v_rightSum : Int) (v_wrongSum : Int) (v_allWays : Int) (v_torn : Int) (v_by : Nat → Int) (v_now : Nat → Int) (v_st : Nat → Int) (v_told : Nat → Int) : va_W := [(a_v, .inr (10, [.ref a_v_st, .ref a_v_now, .ref a_v_isKept, .ref a_v_draft, .int (zI v_hasOrder), .int (zI v_hasStart), .int (zI v_placed), .int (zI v_placedMany), .ref a_v_placedRow, .int (zI v_highest), .ref a_v_tape, .int (zI v_taped), .int (zI v_pos), .int (zI v_begun), .int (zI v_sort), .int (zI v_value), .int (zI v_fault), .int (zI v_wrongAt), .ref a_v_by, .ref a_v_told, .ref a_v_bestRow, .long (zL v_rightSum), .long (zL v_wrongSum), .long (zL v_allWays), .ref a_v_ways, .ref a_v_lanes, .ref a_v_sizes, .ref a_v_cells, .int (zI v_torn), .ref a_v_before])), (a_v_by, .inl (cy 0, 120, .inl (fun j => zI (v_by j)))), (a_v_now, .inl (cy 0, 56, .inl (fun j => zI (v_now j)))), (a_v_st, .inl (cy 0, 168, .inl (fun j => zI (v_st j)))), (a_v_told, .inl (cy 0, 120, .inl (fun j => zI (v_told j))))]
set_option maxHeartbeats 4000000 in
set_option maxRecDepth 100000 in
theorem c_X10_first (l : Launch) (D : va_G) (cy : Nat → ClassId) (sa : Nat → Nat) (a_v : Nat) (a_v_by : Nat) (a_v_now : Nat) (a_v_st : Nat) (a_v_told : Nat) (a_v_isKept : Nat) (a_v_draft : Nat) (a_v_placedRow : Nat) (a_v_tape : Nat) (a_v_bestRow : Nat) (a_v_ways : Nat) (a_v_lanes : Nat) (a_v_sizes : Nat) (a_v_cells : Nat) (a_v_before : Nat) (v_hasOrder : Int) (v_hasStart : Int) (v_placed : Int) (v_placedMany : Int) (v_highest : Int) (v_taped : Int) (v_pos : Int) (v_begun : Int) (v_sort : Int) (v_value : Int) (v_fault : Int) (v_wrongAt : Int) (v_rightSum : Int) (v_wrongSum : Int) (v_allWays : Int) (v_torn : Int) (v_by : Nat → Int) (v_now : Nat → Int) (v_st : Nat → Int) (v_told : Nat → Int) (x1 : Int) (x2 : Int) (o : Int × (Nat → Int) × (Nat → Int) × (Nat → Int)) (h : f_M_first v_by v_now v_st v_told x1 x2 = some o) : CtI l yX10_first wsX10_first ({ frames := 5, cells := 0, slots := 0, locals := 111 }) D cy sa [.ref a_v, .int (zI x1), .int (zI x2)] (wd_X10_first cy a_v a_v_by a_v_now a_v_st a_v_told a_v_isKept a_v_draft a_v_placedRow a_v_tape a_v_bestRow a_v_ways a_v_lanes a_v_sizes a_v_cells a_v_before v_hasOrder v_hasStart v_placed v_placedMany v_highest v_taped v_pos v_begun v_sort v_value v_fault v_wrongAt v_rightSum v_wrongSum v_allWays v_torn v_by v_now v_st v_told) (wd_X10_first cy a_v a_v_by a_v_now a_v_st a_v_told a_v_isKept a_v_draft a_v_placedRow a_v_tape a_v_bestRow a_v_ways a_v_lanes a_v_sizes a_v_cells a_v_before v_hasOrder v_hasStart v_placed v_placedMany v_highest v_taped v_pos v_begun v_sort v_value v_fault v_wrongAt v_rightSum v_wrongSum v_allWays v_torn o.2.1 o.2.2.1 v_st o.2.2.2) o.1 := by
  refine ct_I (cc := cX10_first) (maxL := 4) (plainFor_of_name (by decide)) rfl (Nat.le_of_ble_eq_true rfl) ?_
  intro p e s m below meth c A args QQ hx hb hml hown hts hE hDD hP KR ls hl
  have hl : lv_has ls 4 [(0, .ref a_v), (1, .int (zI x1)), (2, .int (zI x2))] := hl
  have hDD : DD A [a_v, a_v_by, a_v_now, a_v_st, a_v_told] := hDD
  have hS : va_S A s.heap s.heap [] := va_S.rf
  have q0 := hts (.fieldLink RX10 32 "HatHoursModel" "told" "[I") (List.mem_of_getElem? (i := 1) rfl)
  have iX10 : ∀ w ∈ u_ws RX10 TX10 30, w ∈ wsX10_first := in_slice 52 30 rfl
  have L22 : ∀ (fuel : Nat) (v_by : Nat → Int) (v_now : Nat → Int) (v_told : Nat → Int) (x1 : Int) (x2 : Int) (x3 : Int) (H : Heap) (locs : List Loc) (ls : Array Slot), va_P D vwCl (wd_X10_first cy a_v a_v_by a_v_now a_v_st a_v_told a_v_isKept a_v_draft a_v_placedRow a_v_tape a_v_bestRow a_v_ways a_v_lanes a_v_sizes a_v_cells a_v_before v_hasOrder v_hasStart v_placed v_placedMany v_highest v_taped v_pos v_begun v_sort v_value v_fault v_wrongAt v_rightSum v_wrongSum v_allWays v_torn v_by v_now v_st v_told) H → va_S A s.heap H locs → lv_has ls 4 [(0, .ref a_v), (1, .int (zI x1)), (2, .int (zI x2)), (3, .int (zI x3))] → f_M_first_L22 fuel v_by v_now v_st v_told x1 x2 x3 = some o → W p l e { frames := 5, cells := 0, slots := 0, locals := 111 } s m args below meth c H locs 0 0 QQ (F0 m 22 ls []) := by
    intro fuel
    induction fuel with
    | zero => intro _ _ _ _ _ _ H locs ls hP hS hl h; cases h
    | succ fuel ih =>
      intro v_by v_now v_told x1 x2 x3 H locs ls hP hS hl h
      refine lv_iload_n hx hb dX10_first_22 rfl (lv_at hl 3 rfl) ?_
      refine wi_bi hx hb dX10_first_23 (by decide) ?_
      obtain ⟨hr13, h⟩ := chk_some h
      refine wi_ic_ge (tgt := 51) hx hb dX10_first_25 (by decide) hr13 (by decide) (fun c15 => ?_) (fun c15 => ?_)
      · have h := ite_t c15 h
        refine wi_bi hx hb dX10_first_51 (by decide) ?_
        obtain rfl := Option.some.inj h
        exact KR _ _ _ _ hP hS dX10_first_53
      · have h := ite_f c15 h
        refine lv_aload_n hx hb dX10_first_28 rfl (lv_at hl 0 rfl) ?_
        refine wi_get (v := .ref a_v_told) hx hb hts iX10 hown hE hP 0 rfl rfl 19 (by decide) q0 rfl dX10_first_29 ?_
        refine wi_bi hx hb dX10_first_32 (by decide) ?_
        refine lv_iload_n hx hb dX10_first_34 rfl (lv_at hl 1 rfl) ?_
        refine wi_imul hx hb dX10_first_35 ?_
        refine lv_iload_n hx hb dX10_first_36 rfl (lv_at hl 3 rfl) ?_
        refine wi_iadd hx hb dX10_first_37 ?_
        obtain ⟨hk16, h⟩ := chk_some h
        refine wi_iald hx hb hE hP 4 rfl (by decide) hk16 dX10_first_38 ?_
        refine lv_iload_n hx hb dX10_first_39 rfl (lv_at hl 2 rfl) ?_
        obtain ⟨hr17, h⟩ := chk_some h
        obtain ⟨hr18, h⟩ := chk_some h
        refine wi_ic_ne (tgt := 45) hx hb dX10_first_40 (by decide) hr17 hr18 (fun c20 => ?_) (fun c20 => ?_)
        · have h := ite_f c20 h
          refine wi_iinc (k := 3) (lv' := [(3, .int (zI (x3 + 1))), (0, .ref a_v), (1, .int (zI x1)), (2, .int (zI x2))]) hx hb dX10_first_45 hl rfl (by decide) rfl (fun ls hl => ?_)
          refine lv_goto (tgt := 22) hx hb dX10_first_48 (by decide) ?_
          exact ih v_by v_now v_told x1 x2 (x3 + 1) _ _ _ hP hS (lv_sub hl [1, 2, 3, 0] rfl) h
        · have h := ite_t c20 h
          refine lv_iload_n hx hb dX10_first_43 rfl (lv_at hl 3 rfl) ?_
          obtain rfl := Option.some.inj h
          exact KR _ _ _ _ hP hS dX10_first_44
  refine lv_iload_n hx hb dX10_first_0 rfl (lv_at hl 1 rfl) ?_
  obtain ⟨o1, hc2, h⟩ := bnd_some h
  refine cS_i (rest := []) (w2 := (wd_X10_first cy a_v a_v_by a_v_now a_v_st a_v_told a_v_isKept a_v_draft a_v_placedRow a_v_tape a_v_bestRow a_v_ways a_v_lanes a_v_sizes a_v_cells a_v_before v_hasOrder v_hasStart v_placed v_placedMany v_highest v_taped v_pos v_begun v_sort v_value v_fault v_wrongAt v_rightSum v_wrongSum v_allWays v_torn v_by v_now v_st v_told)) ⟨hx, hb, hml, hown, hts⟩ (c_X10_isRoom l D cy sa x1 o1 hc2) (va_cwS 1 hts gX10_first_X10_isRoom rfl rfl rfl (by decide +kernel) ⟨Nat.le_of_ble_eq_true rfl, Nat.le_of_ble_eq_true rfl⟩) hE hP hDD rfl hS [] rfl rfl rfl rfl hl.1 (Nat.le_of_ble_eq_true rfl) ⟨Nat.zero_le _, Nat.zero_le _⟩ rfl dX10_first_1 rfl (fun H locs hP hS => ?_)
  obtain ⟨hr3, h⟩ := chk_some h
  refine wi_if_eq (tgt := 14) hx hb dX10_first_4 (by decide) hr3 (fun c5 => ?_) (fun c5 => ?_)
  · have h := ite_t c5 h
    refine wi_ic hx hb dX10_first_14 ?_
    obtain rfl := Option.some.inj h
    exact KR _ _ _ _ hP hS dX10_first_15
  · have h := ite_f c5 h
    refine lv_iload_n hx hb dX10_first_7 rfl (lv_at hl 2 rfl) ?_
    obtain ⟨o6, hc7, h⟩ := bnd_some h
    refine cS_i (rest := []) (w2 := (wd_X10_first cy a_v a_v_by a_v_now a_v_st a_v_told a_v_isKept a_v_draft a_v_placedRow a_v_tape a_v_bestRow a_v_ways a_v_lanes a_v_sizes a_v_cells a_v_before v_hasOrder v_hasStart v_placed v_placedMany v_highest v_taped v_pos v_begun v_sort v_value v_fault v_wrongAt v_rightSum v_wrongSum v_allWays v_torn v_by v_now v_st v_told)) ⟨hx, hb, hml, hown, hts⟩ (c_X10_isHour l D cy sa x2 o6 hc7) (va_cwS 1 hts gX10_first_X10_isHour rfl rfl rfl (by decide +kernel) ⟨Nat.le_of_ble_eq_true rfl, Nat.le_of_ble_eq_true rfl⟩) hE hP hDD rfl hS [] rfl rfl rfl rfl hl.1 (Nat.le_of_ble_eq_true rfl) ⟨Nat.zero_le _, Nat.zero_le _⟩ rfl dX10_first_8 rfl (fun H locs hP hS => ?_)
    obtain ⟨hr8, h⟩ := chk_some h
    refine wi_if_ne (tgt := 16) hx hb dX10_first_11 (by decide) hr8 (fun c10 => ?_) (fun c10 => ?_)
    · have h := ite_f c10 h
      refine lv_aload_n hx hb dX10_first_16 rfl (lv_at hl 0 rfl) ?_
      obtain ⟨o11, hc12, h⟩ := bnd_some h
      refine cV_v (rest := []) (w2 := (wd_X10_first cy a_v a_v_by a_v_now a_v_st a_v_told a_v_isKept a_v_draft a_v_placedRow a_v_tape a_v_bestRow a_v_ways a_v_lanes a_v_sizes a_v_cells a_v_before v_hasOrder v_hasStart v_placed v_placedMany v_highest v_taped v_pos v_begun v_sort v_value v_fault v_wrongAt v_rightSum v_wrongSum v_allWays v_torn o11.1 o11.2.1 v_st o11.2.2)) ⟨hx, hb, hml, hown, hts⟩ (c_X10_looksAtDay l D cy sa a_v a_v_by a_v_now a_v_st a_v_told a_v_isKept a_v_draft a_v_placedRow a_v_tape a_v_bestRow a_v_ways a_v_lanes a_v_sizes a_v_cells a_v_before v_hasOrder v_hasStart v_placed v_placedMany v_highest v_taped v_pos v_begun v_sort v_value v_fault v_wrongAt v_rightSum v_wrongSum v_allWays v_torn v_by v_now v_st v_told o11 hc12) (cwV 0 hts gX10_first_X10_looksAtDay rfl rfl rfl (by decide +kernel) ⟨Nat.le_of_ble_eq_true rfl, Nat.le_of_ble_eq_true rfl⟩) rfl rfl rfl hE hP hDD rfl hS [0, 1, 2, 3, 4] rfl rfl rfl rfl hl.1 (Nat.le_of_ble_eq_true rfl) ⟨Nat.zero_le _, Nat.zero_le _⟩ rfl dX10_first_17 rfl (fun H locs hP hS => ?_)
      refine wi_ic hx hb dX10_first_20 ?_
      refine lv_istore_n (lv' := [(3, .int (zI 0)), (0, .ref a_v), (1, .int (zI x1)), (2, .int (zI x2))]) hx hb dX10_first_21 rfl hl (by decide) rfl (fun ls hl => ?_)
      exact L22 5000 o11.1 o11.2.1 o11.2.2 x1 x2 0 _ _ _ hP hS (lv_sub hl [1, 2, 3, 0] rfl) h
    · have h := ite_t c10 h
      refine wi_ic hx hb dX10_first_14 ?_
      obtain rfl := Option.some.inj h
      exact KR _ _ _ _ hP hS dX10_first_15
abbrev wd_X10_isOrderBy (cy : Nat → ClassId) (a_v : Nat) (a_v_now : Nat) (a_v_st : Nat) (a_v_isKept : Nat) (a_v_draft : Nat) (a_v_placedRow : Nat) (a_v_tape : Nat) (a_v_by : Nat) (a_v_told : Nat) (a_v_bestRow : Nat) (a_v_ways : Nat) (a_v_lanes : Nat) (a_v_sizes : Nat) (a_v_cells : Nat) (a_v_before : Nat) (v_hasOrder : Int) (v_hasStart : Int) (v_placed : Int) (v_placedMany : Int) (v_highest : Int) (v_taped : Int) (v_pos : Int) (v_begun : Int) (v_sort : Int) (v_value : Int) (v_fault : Int) (v_wrongAt : Int) (v_rightSum : Int) (v_wrongSum : Int) (v_allWays : Int) (v_torn : Int) (v_now : Nat → Int) : va_W := [(a_v, .inr (10, [.ref a_v_st, .ref a_v_now, .ref a_v_isKept, .ref a_v_draft, .int (zI v_hasOrder), .int (zI v_hasStart), .int (zI v_placed), .int (zI v_placedMany), .ref a_v_placedRow, .int (zI v_highest), .ref a_v_tape, .int (zI v_taped), .int (zI v_pos), .int (zI v_begun), .int (zI v_sort), .int (zI v_value), .int (zI v_fault), .int (zI v_wrongAt), .ref a_v_by, .ref a_v_told, .ref a_v_bestRow, .long (zL v_rightSum), .long (zL v_wrongSum), .long (zL v_allWays), .ref a_v_ways, .ref a_v_lanes, .ref a_v_sizes, .ref a_v_cells, .int (zI v_torn), .ref a_v_before])), (a_v_now, .inl (cy 0, 56, .inl (fun j => zI (v_now j))))]
set_option maxHeartbeats 4000000 in
set_option maxRecDepth 100000 in
theorem c_X10_isOrderBy (l : Launch) (D : va_G) (cy : Nat → ClassId) (sa : Nat → Nat) (a_v : Nat) (a_v_now : Nat) (a_v_st : Nat) (a_v_isKept : Nat) (a_v_draft : Nat) (a_v_placedRow : Nat) (a_v_tape : Nat) (a_v_by : Nat) (a_v_told : Nat) (a_v_bestRow : Nat) (a_v_ways : Nat) (a_v_lanes : Nat) (a_v_sizes : Nat) (a_v_cells : Nat) (a_v_before : Nat) (v_hasOrder : Int) (v_hasStart : Int) (v_placed : Int) (v_placedMany : Int) (v_highest : Int) (v_taped : Int) (v_pos : Int) (v_begun : Int) (v_sort : Int) (v_value : Int) (v_fault : Int) (v_wrongAt : Int) (v_rightSum : Int) (v_wrongSum : Int) (v_allWays : Int) (v_torn : Int) (v_now : Nat → Int) (x1 : Int) (o : Int × (Nat → Int)) (h : f_M_isOrderBy v_now x1 = some o) : CtI l yX10_isOrderBy wsX10_isOrderBy ({ frames := 0, cells := 0, slots := 0, locals := 0 }) D cy sa [.ref a_v, .int (zI x1)] (wd_X10_isOrderBy cy a_v a_v_now a_v_st a_v_isKept a_v_draft a_v_placedRow a_v_tape a_v_by a_v_told a_v_bestRow a_v_ways a_v_lanes a_v_sizes a_v_cells a_v_before v_hasOrder v_hasStart v_placed v_placedMany v_highest v_taped v_pos v_begun v_sort v_value v_fault v_wrongAt v_rightSum v_wrongSum v_allWays v_torn v_now) (wd_X10_isOrderBy cy a_v a_v_now a_v_st a_v_isKept a_v_draft a_v_placedRow a_v_tape a_v_by a_v_told a_v_bestRow a_v_ways a_v_lanes a_v_sizes a_v_cells a_v_before v_hasOrder v_hasStart v_placed v_placedMany v_highest v_taped v_pos v_begun v_sort v_value v_fault v_wrongAt v_rightSum v_wrongSum v_allWays v_torn o.2) o.1 := by
  refine ct_Z (cc := cX10_isOrderBy) (maxL := 5) (plainFor_of_name (by decide)) rfl (Nat.le_of_ble_eq_true rfl) ?_
  intro p e s m below meth c A args QQ hx hb hml hown hts hE hDD hP KR ls hl
  have hl : lv_has ls 5 [(0, .ref a_v), (1, .int (zI x1))] := hl
  have hDD : DD A [a_v, a_v_now] := hDD
  have hS : va_S A s.heap s.heap [] := va_S.rf
  have q0 := hts (.fieldLink RX10 13 "HatHoursModel" "now" "[I") (List.mem_of_getElem? (i := 1) rfl)
  have iX10 : ∀ w ∈ u_ws RX10 TX10 30, w ∈ wsX10_isOrderBy := in_slice 2 30 rfl
  have L15 : ∀ (fuel : Nat) (v_now : Nat → Int) (x2 : Int) (x3 : Int) (x4 : Int) (H : Heap) (locs : List Loc) (ls : Array Slot) (ex : Int × (Nat → Int)), va_P D vwCl (wd_X10_isOrderBy cy a_v a_v_now a_v_st a_v_isKept a_v_draft a_v_placedRow a_v_tape a_v_by a_v_told a_v_bestRow a_v_ways a_v_lanes a_v_sizes a_v_cells a_v_before v_hasOrder v_hasStart v_placed v_placedMany v_highest v_taped v_pos v_begun v_sort v_value v_fault v_wrongAt v_rightSum v_wrongSum v_allWays v_torn v_now) H → va_S A s.heap H locs → lv_has ls 5 [(0, .ref a_v), (2, .int (zI x2)), (3, .int (zI x3)), (4, .int (zI x4))] → f_M_isOrderBy_L15 fuel v_now x2 x3 x4 = some ex → (∀ (H : Heap) (locs : List Loc) (ls : Array Slot), va_P D vwCl (wd_X10_isOrderBy cy a_v a_v_now a_v_st a_v_isKept a_v_draft a_v_placedRow a_v_tape a_v_by a_v_told a_v_bestRow a_v_ways a_v_lanes a_v_sizes a_v_cells a_v_before v_hasOrder v_hasStart v_placed v_placedMany v_highest v_taped v_pos v_begun v_sort v_value v_fault v_wrongAt v_rightSum v_wrongSum v_allWays v_torn ex.2) H → va_S A s.heap H locs → lv_has ls 5 [(0, .ref a_v), (3, .int (zI ex.1))] → W p l e { frames := 0, cells := 0, slots := 0, locals := 0 } s m args below meth c H locs 0 0 QQ (F0 m 51 ls [])) → W p l e { frames := 0, cells := 0, slots := 0, locals := 0 } s m args below meth c H locs 0 0 QQ (F0 m 15 ls []) := by
    intro fuel
    induction fuel with
    | zero => intro _ _ _ _ H locs ls ex hP hS hl h K; cases h
    | succ fuel ih =>
      intro v_now x2 x3 x4 H locs ls ex hP hS hl h K
      refine lv_iload hx hb dX10_isOrderBy_15 (lv_at hl 3 rfl) ?_
      obtain ⟨hr1, h⟩ := chk_some h
      refine wi_if_lt (tgt := 51) hx hb dX10_isOrderBy_17 (by decide) hr1 (fun c3 => ?_) (fun c3 => ?_)
      · have h := ite_t c3 h
        obtain rfl := Option.some.inj h
        exact K _ _ _ hP hS (lv_sub hl [0, 2] rfl)
      · have h := ite_f c3 h
        refine lv_aload_n hx hb dX10_isOrderBy_20 rfl (lv_at hl 0 rfl) ?_
        refine wi_get (v := .ref a_v_now) hx hb hts iX10 hown hE hP 0 rfl rfl 1 (by decide) q0 rfl dX10_isOrderBy_21 ?_
        refine wi_bi hx hb dX10_isOrderBy_24 (by decide) ?_
        refine lv_iload hx hb dX10_isOrderBy_26 (lv_at hl 3 rfl) ?_
        refine wi_iadd hx hb dX10_isOrderBy_28 ?_
        refine lv_iload_n hx hb dX10_isOrderBy_29 rfl (lv_at hl 1 rfl) ?_
        refine wi_ic hx hb dX10_isOrderBy_30 ?_
        obtain ⟨hk4, h⟩ := chk_some h
        refine wi_irem hx hb dX10_isOrderBy_31 ⟨hk4, by decide⟩ ?_
        obtain ⟨hk5, h⟩ := chk_some h
        refine wi_iast (w2 := (wd_X10_isOrderBy cy a_v a_v_now a_v_st a_v_isKept a_v_draft a_v_placedRow a_v_tape a_v_by a_v_told a_v_bestRow a_v_ways a_v_lanes a_v_sizes a_v_cells a_v_before v_hasOrder v_hasStart v_placed v_placedMany v_highest v_taped v_pos v_begun v_sort v_value v_fault v_wrongAt v_rightSum v_wrongSum v_allWays v_torn (upZ v_now (31 + x4).toNat (x2 % 5)))) hx hb hE hP hDD rfl hS 1 rfl (by decide) hk5 dX10_isOrderBy_32 rfl (fun H locs hP hS => ?_)
        refine lv_iload_n hx hb dX10_isOrderBy_33 rfl (lv_at hl 2 rfl) ?_
        refine wi_ic hx hb dX10_isOrderBy_34 ?_
        refine lv_iload_n hx hb dX10_isOrderBy_35 rfl (lv_at hl 1 rfl) ?_
        refine wi_ic hx hb dX10_isOrderBy_36 ?_
        refine wi_irem hx hb dX10_isOrderBy_37 ⟨hk4, by decide⟩ ?_
        refine wi_ishl hx hb dX10_isOrderBy_38 ?_
        refine wi_ior hx hb dX10_isOrderBy_39 ?_
        refine lv_istore_n (lv' := [(3, .int (zI (zor x3 (zshl 1 (x2 % 5))))), (0, .ref a_v), (2, .int (zI x2)), (4, .int (zI x4))]) hx hb dX10_isOrderBy_40 rfl hl (by decide) rfl (fun ls hl => ?_)
        refine lv_iload_n hx hb dX10_isOrderBy_41 rfl (lv_at hl 2 rfl) ?_
        refine wi_ic hx hb dX10_isOrderBy_42 ?_
        refine wi_idiv hx hb dX10_isOrderBy_43 ⟨hk4, by decide⟩ ?_
        refine lv_istore_n (lv' := [(2, .int (zI (x2 / 5))), (3, .int (zI (zor x3 (zshl 1 (x2 % 5))))), (0, .ref a_v), (4, .int (zI x4))]) hx hb dX10_isOrderBy_44 rfl hl (by decide) rfl (fun ls hl => ?_)
        refine wi_iinc (k := 3) (lv' := [(4, .int (zI (x4 + (-1)))), (2, .int (zI (x2 / 5))), (3, .int (zI (zor x3 (zshl 1 (x2 % 5))))), (0, .ref a_v)]) hx hb dX10_isOrderBy_45 hl rfl (by decide) rfl (fun ls hl => ?_)
        refine lv_goto (tgt := 15) hx hb dX10_isOrderBy_48 (by decide) ?_
        exact ih (upZ v_now (31 + x4).toNat (x2 % 5)) (x2 / 5) (zor x3 (zshl 1 (x2 % 5))) (x4 + (-1)) _ _ _ _ hP hS (lv_sub hl [3, 1, 2, 0] rfl) h K
  refine lv_iload_n hx hb dX10_isOrderBy_0 rfl (lv_at hl 1 rfl) ?_
  refine lv_istore_n (lv' := [(2, .int (zI x1)), (0, .ref a_v), (1, .int (zI x1))]) hx hb dX10_isOrderBy_1 rfl hl (by decide) rfl (fun ls hl => ?_)
  refine wi_ic hx hb dX10_isOrderBy_2 ?_
  refine lv_istore_n (lv' := [(3, .int (zI 0)), (2, .int (zI x1)), (0, .ref a_v), (1, .int (zI x1))]) hx hb dX10_isOrderBy_3 rfl hl (by decide) rfl (fun ls hl => ?_)
  refine lv_aload_n hx hb dX10_isOrderBy_4 rfl (lv_at hl 2 rfl) ?_
  refine wi_get (v := .ref a_v_now) hx hb hts iX10 hown hE hP 0 rfl rfl 1 (by decide) q0 rfl dX10_isOrderBy_5 ?_
  refine wi_bi hx hb dX10_isOrderBy_8 (by decide) ?_
  refine wi_iald hx hb hE hP 1 rfl (by decide) (by decide) dX10_isOrderBy_10 ?_
  refine wi_ic hx hb dX10_isOrderBy_11 ?_
  refine wi_isub hx hb dX10_isOrderBy_12 ?_
  refine lv_istore (lv' := [(4, .int (zI ((v_now 30) - 1))), (3, .int (zI 0)), (2, .int (zI x1)), (0, .ref a_v), (1, .int (zI x1))]) hx hb dX10_isOrderBy_13 hl (by decide) rfl (fun ls hl => ?_)
  obtain ⟨o6, hx7, h⟩ := bnd_some h
  refine L15 5000 v_now x1 0 ((v_now 30) - 1) _ _ _ _ hP hS (lv_sub hl [3, 2, 1, 0] rfl) hx7 ?_
  clear hx7
  intro H locs ls hP hS hl
  refine lv_iload_n hx hb dX10_isOrderBy_51 rfl (lv_at hl 1 rfl) ?_
  refine wi_ic hx hb dX10_isOrderBy_52 ?_
  refine lv_aload_n hx hb dX10_isOrderBy_53 rfl (lv_at hl 0 rfl) ?_
  refine wi_get (v := .ref a_v_now) hx hb hts iX10 hown hE hP 0 rfl rfl 1 (by decide) q0 rfl dX10_isOrderBy_54 ?_
  refine wi_bi hx hb dX10_isOrderBy_57 (by decide) ?_
  refine wi_iald hx hb hE hP 1 rfl (by decide) (by decide) dX10_isOrderBy_59 ?_
  refine wi_ishl hx hb dX10_isOrderBy_60 ?_
  refine wi_ic hx hb dX10_isOrderBy_61 ?_
  refine wi_isub hx hb dX10_isOrderBy_62 ?_
  obtain ⟨hr8, h⟩ := chk_some h
  obtain ⟨hr9, h⟩ := chk_some h
  refine wi_ic_ne (tgt := 70) hx hb dX10_isOrderBy_63 (by decide) hr8 hr9 (fun c11 => ?_) (fun c11 => ?_)
  · have h := ite_f c11 h
    refine wi_ic hx hb dX10_isOrderBy_70 ?_
    obtain rfl := Option.some.inj h
    exact KR _ _ _ _ (z01 (Or.inl rfl)) hP hS dX10_isOrderBy_71
  · have h := ite_t c11 h
    refine wi_ic hx hb dX10_isOrderBy_66 ?_
    refine lv_goto (tgt := 71) hx hb dX10_isOrderBy_67 (by decide) ?_
    obtain rfl := Option.some.inj h
    exact KR _ _ _ _ (z01 (Or.inr rfl)) hP hS dX10_isOrderBy_71
abbrev wd_X10_findBest (cy : Nat → ClassId) (a_v : Nat) (a_v_bestRow : Nat) (a_v_now : Nat) (a_v_st : Nat) (a_v_isKept : Nat) (a_v_draft : Nat) (a_v_placedRow : Nat) (a_v_tape : Nat) (a_v_by : Nat) (a_v_told : Nat) (a_v_ways : Nat) (a_v_lanes : Nat) (a_v_sizes : Nat) (a_v_cells : Nat) (a_v_before : Nat) (v_hasOrder : Int) (v_hasStart : Int) (v_placed : Int) (v_placedMany : Int) (v_highest : Int) (v_taped : Int) (v_pos : Int) (v_begun : Int) (v_sort : Int) (v_value : Int) (v_fault : Int) (v_wrongAt : Int) (v_rightSum : Int) (v_wrongSum : Int) (v_allWays : Int) (v_torn : Int) (v_bestRow : Nat → Int) (v_now : Nat → Int) (v_st : Nat → Int) : va_W := [(a_v, .inr (10, [.ref a_v_st, .ref a_v_now, .ref a_v_isKept, .ref a_v_draft, .int (zI v_hasOrder), .int (zI v_hasStart), .int (zI v_placed), .int (zI v_placedMany), .ref a_v_placedRow, .int (zI v_highest), .ref a_v_tape, .int (zI v_taped), .int (zI v_pos), .int (zI v_begun), .int (zI v_sort), .int (zI v_value), .int (zI v_fault), .int (zI v_wrongAt), .ref a_v_by, .ref a_v_told, .ref a_v_bestRow, .long (zL v_rightSum), .long (zL v_wrongSum), .long (zL v_allWays), .ref a_v_ways, .ref a_v_lanes, .ref a_v_sizes, .ref a_v_cells, .int (zI v_torn), .ref a_v_before])), (a_v_bestRow, .inl (cy 0, 5, .inl (fun j => zI (v_bestRow j)))), (a_v_now, .inl (cy 0, 56, .inl (fun j => zI (v_now j)))), (a_v_st, .inl (cy 0, 168, .inl (fun j => zI (v_st j))))]
set_option maxHeartbeats 4000000 in
set_option maxRecDepth 100000 in
theorem c_X10_findBest (l : Launch) (D : va_G) (cy : Nat → ClassId) (sa : Nat → Nat) (a_v : Nat) (a_v_bestRow : Nat) (a_v_now : Nat) (a_v_st : Nat) (a_v_isKept : Nat) (a_v_draft : Nat) (a_v_placedRow : Nat) (a_v_tape : Nat) (a_v_by : Nat) (a_v_told : Nat) (a_v_ways : Nat) (a_v_lanes : Nat) (a_v_sizes : Nat) (a_v_cells : Nat) (a_v_before : Nat) (v_hasOrder : Int) (v_hasStart : Int) (v_placed : Int) (v_placedMany : Int) (v_highest : Int) (v_taped : Int) (v_pos : Int) (v_begun : Int) (v_sort : Int) (v_value : Int) (v_fault : Int) (v_wrongAt : Int) (v_rightSum : Int) (v_wrongSum : Int) (v_allWays : Int) (v_torn : Int) (v_bestRow : Nat → Int) (v_now : Nat → Int) (v_st : Nat → Int) (o : Int × (Nat → Int) × (Nat → Int)) (h : f_M_findBest v_bestRow v_now v_st = some o) : CtI l yX10_findBest wsX10_findBest ({ frames := 5, cells := 0, slots := 0, locals := 111 }) D cy sa [.ref a_v] (wd_X10_findBest cy a_v a_v_bestRow a_v_now a_v_st a_v_isKept a_v_draft a_v_placedRow a_v_tape a_v_by a_v_told a_v_ways a_v_lanes a_v_sizes a_v_cells a_v_before v_hasOrder v_hasStart v_placed v_placedMany v_highest v_taped v_pos v_begun v_sort v_value v_fault v_wrongAt v_rightSum v_wrongSum v_allWays v_torn v_bestRow v_now v_st) (wd_X10_findBest cy a_v a_v_bestRow a_v_now a_v_st a_v_isKept a_v_draft a_v_placedRow a_v_tape a_v_by a_v_told a_v_ways a_v_lanes a_v_sizes a_v_cells a_v_before v_hasOrder v_hasStart v_placed v_placedMany v_highest v_taped v_pos v_begun v_sort v_value v_fault v_wrongAt v_rightSum v_wrongSum v_allWays v_torn o.2.1 o.2.2 v_st) o.1 := by
  refine ct_I (cc := cX10_findBest) (maxL := 6) (plainFor_of_name (by decide)) rfl (Nat.le_of_ble_eq_true rfl) ?_
  intro p e s m below meth c A args QQ hx hb hml hown hts hE hDD hP KR ls hl
  have hl : lv_has ls 6 [(0, .ref a_v)] := hl
  have hDD : DD A [a_v, a_v_bestRow, a_v_now, a_v_st] := hDD
  have hS : va_S A s.heap s.heap [] := va_S.rf
  have q0 := hts (.constant RX10 229 (1000000)) (List.mem_of_getElem? (i := 1) rfl)
  have q1 := hts (.fieldLink RX10 13 "HatHoursModel" "now" "[I") (List.mem_of_getElem? (i := 2) rfl)
  have q2 := hts (.fieldLink RX10 35 "HatHoursModel" "bestRow" "[I") (List.mem_of_getElem? (i := 3) rfl)
  have iX10 : ∀ w ∈ u_ws RX10 TX10 30, w ∈ wsX10_findBest := in_slice 41 30 rfl
  have L11 : ∀ (fuel : Nat) (v_bestRow : Nat → Int) (v_now : Nat → Int) (x1 : Int) (x2 : Int) (x3 : Int) (H : Heap) (locs : List Loc) (ls : Array Slot) (ex : Int), va_P D vwCl (wd_X10_findBest cy a_v a_v_bestRow a_v_now a_v_st a_v_isKept a_v_draft a_v_placedRow a_v_tape a_v_by a_v_told a_v_ways a_v_lanes a_v_sizes a_v_cells a_v_before v_hasOrder v_hasStart v_placed v_placedMany v_highest v_taped v_pos v_begun v_sort v_value v_fault v_wrongAt v_rightSum v_wrongSum v_allWays v_torn v_bestRow v_now v_st) H → va_S A s.heap H locs → lv_has ls 6 [(0, .ref a_v), (1, .int (zI x1)), (2, .int (zI x2)), (3, .int (zI x3))] → f_M_findBest_L11 fuel v_now x1 x3 = some ex → (∀ (H : Heap) (locs : List Loc) (ls : Array Slot), va_P D vwCl (wd_X10_findBest cy a_v a_v_bestRow a_v_now a_v_st a_v_isKept a_v_draft a_v_placedRow a_v_tape a_v_by a_v_told a_v_ways a_v_lanes a_v_sizes a_v_cells a_v_before v_hasOrder v_hasStart v_placed v_placedMany v_highest v_taped v_pos v_begun v_sort v_value v_fault v_wrongAt v_rightSum v_wrongSum v_allWays v_torn v_bestRow v_now v_st) H → va_S A s.heap H locs → lv_has ls 6 [(0, .ref a_v), (1, .int (zI ex)), (2, .int (zI x2))] → W p l e { frames := 5, cells := 0, slots := 0, locals := 111 } s m args below meth c H locs 0 0 QQ (F0 m 32 ls [])) → W p l e { frames := 5, cells := 0, slots := 0, locals := 111 } s m args below meth c H locs 0 0 QQ (F0 m 11 ls []) := by
    intro fuel
    induction fuel with
    | zero => intro _ _ _ _ _ H locs ls ex hP hS hl h K; cases h
    | succ fuel ih =>
      intro v_bestRow v_now x1 x2 x3 H locs ls ex hP hS hl h K
      refine lv_iload_n hx hb dX10_findBest_11 rfl (lv_at hl 3 rfl) ?_
      refine lv_aload_n hx hb dX10_findBest_12 rfl (lv_at hl 0 rfl) ?_
      refine wi_get (v := .ref a_v_now) hx hb hts iX10 hown hE hP 0 rfl rfl 1 (by decide) q1 rfl dX10_findBest_13 ?_
      refine wi_bi hx hb dX10_findBest_16 (by decide) ?_
      refine wi_iald hx hb hE hP 2 rfl (by decide) (by decide) dX10_findBest_18 ?_
      obtain ⟨hr3, h⟩ := chk_some h
      obtain ⟨hr4, h⟩ := chk_some h
      refine wi_ic_ge (tgt := 32) hx hb dX10_findBest_19 (by decide) hr3 hr4 (fun c6 => ?_) (fun c6 => ?_)
      · have h := ite_t c6 h
        obtain rfl := Option.some.inj h
        exact K _ _ _ hP hS (lv_sub hl [0, 1, 2] rfl)
      · have h := ite_f c6 h
        refine lv_iload_n hx hb dX10_findBest_22 rfl (lv_at hl 1 rfl) ?_
        refine wi_ic hx hb dX10_findBest_23 ?_
        refine wi_imul hx hb dX10_findBest_24 ?_
        refine lv_istore_n (lv' := [(1, .int (zI (x1 * 5))), (0, .ref a_v), (2, .int (zI x2)), (3, .int (zI x3))]) hx hb dX10_findBest_25 rfl hl (by decide) rfl (fun ls hl => ?_)
        refine wi_iinc (k := 3) (lv' := [(3, .int (zI (x3 + 1))), (1, .int (zI (x1 * 5))), (0, .ref a_v), (2, .int (zI x2))]) hx hb dX10_findBest_26 hl rfl (by decide) rfl (fun ls hl => ?_)
        refine lv_goto (tgt := 11) hx hb dX10_findBest_29 (by decide) ?_
        exact ih v_bestRow v_now (x1 * 5) x2 (x3 + 1) _ _ _ _ hP hS (lv_sub hl [2, 1, 3, 0] rfl) h K
  have L70 : ∀ (fuel : Nat) (v_bestRow : Nat → Int) (v_now : Nat → Int) (x1 : Int) (x2 : Int) (x3 : Int) (x5 : Int) (H : Heap) (locs : List Loc) (ls : Array Slot) (ex : (Nat → Int)), va_P D vwCl (wd_X10_findBest cy a_v a_v_bestRow a_v_now a_v_st a_v_isKept a_v_draft a_v_placedRow a_v_tape a_v_by a_v_told a_v_ways a_v_lanes a_v_sizes a_v_cells a_v_before v_hasOrder v_hasStart v_placed v_placedMany v_highest v_taped v_pos v_begun v_sort v_value v_fault v_wrongAt v_rightSum v_wrongSum v_allWays v_torn v_bestRow v_now v_st) H → va_S A s.heap H locs → lv_has ls 6 [(0, .ref a_v), (1, .int (zI x1)), (2, .int (zI x2)), (3, .int (zI x3)), (5, .int (zI x5))] → f_M_findBest_L70 fuel v_bestRow v_now x5 = some ex → (∀ (H : Heap) (locs : List Loc) (ls : Array Slot), va_P D vwCl (wd_X10_findBest cy a_v a_v_bestRow a_v_now a_v_st a_v_isKept a_v_draft a_v_placedRow a_v_tape a_v_by a_v_told a_v_ways a_v_lanes a_v_sizes a_v_cells a_v_before v_hasOrder v_hasStart v_placed v_placedMany v_highest v_taped v_pos v_begun v_sort v_value v_fault v_wrongAt v_rightSum v_wrongSum v_allWays v_torn ex v_now v_st) H → va_S A s.heap H locs → lv_has ls 6 [(0, .ref a_v), (1, .int (zI x1)), (2, .int (zI x2)), (3, .int (zI x3))] → W p l e { frames := 5, cells := 0, slots := 0, locals := 111 } s m args below meth c H locs 0 0 QQ (F0 m 105 ls [])) → W p l e { frames := 5, cells := 0, slots := 0, locals := 111 } s m args below meth c H locs 0 0 QQ (F0 m 70 ls []) := by
    intro fuel
    induction fuel with
    | zero => intro _ _ _ _ _ _ H locs ls ex hP hS hl h K; cases h
    | succ fuel ih =>
      intro v_bestRow v_now x1 x2 x3 x5 H locs ls ex hP hS hl h K
      refine lv_iload hx hb dX10_findBest_70 (lv_at hl 4 rfl) ?_
      refine lv_aload_n hx hb dX10_findBest_72 rfl (lv_at hl 0 rfl) ?_
      refine wi_get (v := .ref a_v_now) hx hb hts iX10 hown hE hP 0 rfl rfl 1 (by decide) q1 rfl dX10_findBest_73 ?_
      refine wi_bi hx hb dX10_findBest_76 (by decide) ?_
      refine wi_iald hx hb hE hP 2 rfl (by decide) (by decide) dX10_findBest_78 ?_
      obtain ⟨hr23, h⟩ := chk_some h
      obtain ⟨hr24, h⟩ := chk_some h
      refine wi_ic_ge (tgt := 105) hx hb dX10_findBest_79 (by decide) hr23 hr24 (fun c26 => ?_) (fun c26 => ?_)
      · have h := ite_t c26 h
        obtain rfl := Option.some.inj h
        exact K _ _ _ hP hS (lv_sub hl [0, 1, 2, 3] rfl)
      · have h := ite_f c26 h
        refine lv_aload_n hx hb dX10_findBest_82 rfl (lv_at hl 0 rfl) ?_
        refine wi_get (v := .ref a_v_bestRow) hx hb hts iX10 hown hE hP 0 rfl rfl 20 (by decide) q2 rfl dX10_findBest_83 ?_
        refine lv_iload hx hb dX10_findBest_86 (lv_at hl 4 rfl) ?_
        refine lv_aload_n hx hb dX10_findBest_88 rfl (lv_at hl 0 rfl) ?_
        refine wi_get (v := .ref a_v_now) hx hb hts iX10 hown hE hP 0 rfl rfl 1 (by decide) q1 rfl dX10_findBest_89 ?_
        refine wi_bi hx hb dX10_findBest_92 (by decide) ?_
        refine lv_iload hx hb dX10_findBest_94 (lv_at hl 4 rfl) ?_
        refine wi_iadd hx hb dX10_findBest_96 ?_
        obtain ⟨hk27, h⟩ := chk_some h
        refine wi_iald hx hb hE hP 2 rfl (by decide) hk27 dX10_findBest_97 ?_
        obtain ⟨hk28, h⟩ := chk_some h
        refine wi_iast (w2 := (wd_X10_findBest cy a_v a_v_bestRow a_v_now a_v_st a_v_isKept a_v_draft a_v_placedRow a_v_tape a_v_by a_v_told a_v_ways a_v_lanes a_v_sizes a_v_cells a_v_before v_hasOrder v_hasStart v_placed v_placedMany v_highest v_taped v_pos v_begun v_sort v_value v_fault v_wrongAt v_rightSum v_wrongSum v_allWays v_torn (upZ v_bestRow (x5).toNat (v_now (31 + x5).toNat)) v_now v_st)) hx hb hE hP hDD rfl hS 1 rfl (by decide) hk28 dX10_findBest_98 rfl (fun H locs hP hS => ?_)
        refine wi_iinc (k := 4) (lv' := [(5, .int (zI (x5 + 1))), (0, .ref a_v), (1, .int (zI x1)), (2, .int (zI x2)), (3, .int (zI x3))]) hx hb dX10_findBest_99 hl rfl (by decide) rfl (fun ls hl => ?_)
        refine lv_goto (tgt := 70) hx hb dX10_findBest_102 (by decide) ?_
        exact ih (upZ v_bestRow (x5).toNat (v_now (31 + x5).toNat)) v_now x1 x2 x3 (x5 + 1) _ _ _ _ hP hS (lv_sub hl [1, 2, 3, 4, 0] rfl) h K
  have L34 : ∀ (fuel : Nat) (v_bestRow : Nat → Int) (v_now : Nat → Int) (x1 : Int) (x2 : Int) (x3 : Int) (H : Heap) (locs : List Loc) (ls : Array Slot) (ex : Int × (Nat → Int) × (Nat → Int)), va_P D vwCl (wd_X10_findBest cy a_v a_v_bestRow a_v_now a_v_st a_v_isKept a_v_draft a_v_placedRow a_v_tape a_v_by a_v_told a_v_ways a_v_lanes a_v_sizes a_v_cells a_v_before v_hasOrder v_hasStart v_placed v_placedMany v_highest v_taped v_pos v_begun v_sort v_value v_fault v_wrongAt v_rightSum v_wrongSum v_allWays v_torn v_bestRow v_now v_st) H → va_S A s.heap H locs → lv_has ls 6 [(0, .ref a_v), (1, .int (zI x1)), (2, .int (zI x2)), (3, .int (zI x3))] → f_M_findBest_L34 fuel v_bestRow v_now x1 x2 x3 = some ex → (∀ (H : Heap) (locs : List Loc) (ls : Array Slot), va_P D vwCl (wd_X10_findBest cy a_v a_v_bestRow a_v_now a_v_st a_v_isKept a_v_draft a_v_placedRow a_v_tape a_v_by a_v_told a_v_ways a_v_lanes a_v_sizes a_v_cells a_v_before v_hasOrder v_hasStart v_placed v_placedMany v_highest v_taped v_pos v_begun v_sort v_value v_fault v_wrongAt v_rightSum v_wrongSum v_allWays v_torn ex.2.1 ex.2.2 v_st) H → va_S A s.heap H locs → lv_has ls 6 [(2, .int (zI ex.1))] → W p l e { frames := 5, cells := 0, slots := 0, locals := 111 } s m args below meth c H locs 0 0 QQ (F0 m 111 ls [])) → W p l e { frames := 5, cells := 0, slots := 0, locals := 111 } s m args below meth c H locs 0 0 QQ (F0 m 34 ls []) := by
    intro fuel
    induction fuel with
    | zero => intro _ _ _ _ _ H locs ls ex hP hS hl h K; cases h
    | succ fuel ih =>
      intro v_bestRow v_now x1 x2 x3 H locs ls ex hP hS hl h K
      refine lv_iload_n hx hb dX10_findBest_34 rfl (lv_at hl 3 rfl) ?_
      refine lv_iload_n hx hb dX10_findBest_35 rfl (lv_at hl 1 rfl) ?_
      obtain ⟨hr9, h⟩ := chk_some h
      obtain ⟨hr10, h⟩ := chk_some h
      refine wi_ic_ge (tgt := 111) hx hb dX10_findBest_36 (by decide) hr9 hr10 (fun c12 => ?_) (fun c12 => ?_)
      · have h := ite_t c12 h
        obtain rfl := Option.some.inj h
        exact K _ _ _ hP hS (lv_sub hl [2] rfl)
      · have h := ite_f c12 h
        refine lv_aload_n hx hb dX10_findBest_39 rfl (lv_at hl 0 rfl) ?_
        refine lv_iload_n hx hb dX10_findBest_40 rfl (lv_at hl 3 rfl) ?_
        obtain ⟨o13, hc14, h⟩ := bnd_some h
        refine cV_i (rest := []) (w2 := (wd_X10_findBest cy a_v a_v_bestRow a_v_now a_v_st a_v_isKept a_v_draft a_v_placedRow a_v_tape a_v_by a_v_told a_v_ways a_v_lanes a_v_sizes a_v_cells a_v_before v_hasOrder v_hasStart v_placed v_placedMany v_highest v_taped v_pos v_begun v_sort v_value v_fault v_wrongAt v_rightSum v_wrongSum v_allWays v_torn v_bestRow o13.2 v_st)) ⟨hx, hb, hml, hown, hts⟩ (c_X10_isOrderBy l D cy sa a_v a_v_now a_v_st a_v_isKept a_v_draft a_v_placedRow a_v_tape a_v_by a_v_told a_v_bestRow a_v_ways a_v_lanes a_v_sizes a_v_cells a_v_before v_hasOrder v_hasStart v_placed v_placedMany v_highest v_taped v_pos v_begun v_sort v_value v_fault v_wrongAt v_rightSum v_wrongSum v_allWays v_torn v_now x3 o13 hc14) (cwV 1 hts gX10_findBest_X10_isOrderBy rfl rfl rfl (by decide +kernel) ⟨Nat.le_of_ble_eq_true rfl, Nat.le_of_ble_eq_true rfl⟩) rfl rfl rfl hE hP hDD rfl hS [0, 2] rfl rfl rfl rfl hl.1 (Nat.le_of_ble_eq_true rfl) ⟨Nat.zero_le _, Nat.zero_le _⟩ rfl dX10_findBest_41 rfl (fun H locs hP hS => ?_)
        obtain ⟨hr15, h⟩ := chk_some h
        obtain ⟨o16, hx17, h⟩ := bnd_some h
        have J18 : ∀ (H : Heap) (locs : List Loc) (ls : Array Slot), va_P D vwCl (wd_X10_findBest cy a_v a_v_bestRow a_v_now a_v_st a_v_isKept a_v_draft a_v_placedRow a_v_tape a_v_by a_v_told a_v_ways a_v_lanes a_v_sizes a_v_cells a_v_before v_hasOrder v_hasStart v_placed v_placedMany v_highest v_taped v_pos v_begun v_sort v_value v_fault v_wrongAt v_rightSum v_wrongSum v_allWays v_torn v_bestRow o13.2 v_st) H → va_S A s.heap H locs → lv_has ls 6 [(0, .ref a_v), (1, .int (zI x1)), (2, .int (zI x2)), (3, .int (zI x3))] → W p l e { frames := 5, cells := 0, slots := 0, locals := 111 } s m args below meth c H locs 0 0 QQ (F0 m 56 ls [.int (zI o16)]) := by
          intro H locs ls hP hS hl
          refine lv_istore (lv' := [(4, .int (zI o16)), (0, .ref a_v), (1, .int (zI x1)), (2, .int (zI x2)), (3, .int (zI x3))]) hx hb dX10_findBest_56 hl (by decide) rfl (fun ls hl => ?_)
          refine lv_iload hx hb dX10_findBest_58 (lv_at hl 0 rfl) ?_
          refine lv_iload_n hx hb dX10_findBest_60 rfl (lv_at hl 3 rfl) ?_
          obtain ⟨hr19, h⟩ := chk_some h
          obtain ⟨hr20, h⟩ := chk_some h
          refine wi_ic_ge (tgt := 105) hx hb dX10_findBest_61 (by decide) hr19 hr20 (fun c22 => ?_) (fun c22 => ?_)
          · have h := ite_t c22 h
            refine wi_iinc (k := 4) (lv' := [(3, .int (zI (x3 + 1))), (4, .int (zI o16)), (0, .ref a_v), (1, .int (zI x1)), (2, .int (zI x2))]) hx hb dX10_findBest_105 hl rfl (by decide) rfl (fun ls hl => ?_)
            refine lv_goto (tgt := 34) hx hb dX10_findBest_108 (by decide) ?_
            exact ih v_bestRow o13.2 x1 x2 (x3 + 1) _ _ _ _ hP hS (lv_sub hl [2, 3, 4, 0] rfl) h K
          · have h := ite_f c22 h
            refine lv_iload hx hb dX10_findBest_64 (lv_at hl 0 rfl) ?_
            refine lv_istore_n (lv' := [(2, .int (zI o16)), (4, .int (zI o16)), (0, .ref a_v), (1, .int (zI x1)), (3, .int (zI x3))]) hx hb dX10_findBest_66 rfl hl (by decide) rfl (fun ls hl => ?_)
            refine wi_ic hx hb dX10_findBest_67 ?_
            refine lv_istore (lv' := [(5, .int (zI 0)), (2, .int (zI o16)), (4, .int (zI o16)), (0, .ref a_v), (1, .int (zI x1)), (3, .int (zI x3))]) hx hb dX10_findBest_68 hl (by decide) rfl (fun ls hl => ?_)
            obtain ⟨o29, hx30, h⟩ := bnd_some h
            refine L70 5000 v_bestRow o13.2 x1 o16 x3 0 _ _ _ _ hP hS (lv_sub hl [3, 4, 1, 5, 0] rfl) hx30 ?_
            clear hx30
            intro H locs ls hP hS hl
            refine wi_iinc (k := 3) (lv' := [(3, .int (zI (x3 + 1))), (0, .ref a_v), (1, .int (zI x1)), (2, .int (zI o16))]) hx hb dX10_findBest_105 hl rfl (by decide) rfl (fun ls hl => ?_)
            refine lv_goto (tgt := 34) hx hb dX10_findBest_108 (by decide) ?_
            exact ih o29 o13.2 x1 o16 (x3 + 1) _ _ _ _ hP hS (lv_sub hl [1, 2, 3, 0] rfl) h K
        clear h
        have h := hx17
        clear hx17
        refine wi_if_eq (tgt := 54) hx hb dX10_findBest_44 (by decide) hr15 (fun c31 => ?_) (fun c31 => ?_)
        · have h := ite_t c31 h
          refine wi_ldc (n := 1000000) hx hb hown q0 dX10_findBest_54 rfl ?_
          obtain rfl := Option.some.inj h
          exact J18 _ _ _ hP hS (lv_sub hl [0, 1, 2, 3] rfl)
        · have h := ite_f c31 h
          refine lv_aload_n hx hb dX10_findBest_47 rfl (lv_at hl 0 rfl) ?_
          obtain ⟨o32, hc33, h⟩ := bnd_some h
          refine cV_i (rest := []) (w2 := (wd_X10_findBest cy a_v a_v_bestRow a_v_now a_v_st a_v_isKept a_v_draft a_v_placedRow a_v_tape a_v_by a_v_told a_v_ways a_v_lanes a_v_sizes a_v_cells a_v_before v_hasOrder v_hasStart v_placed v_placedMany v_highest v_taped v_pos v_begun v_sort v_value v_fault v_wrongAt v_rightSum v_wrongSum v_allWays v_torn v_bestRow o13.2 v_st)) ⟨hx, hb, hml, hown, hts⟩ (c_X10_allWrong l D cy sa a_v a_v_now a_v_st a_v_isKept a_v_draft a_v_placedRow a_v_tape a_v_by a_v_told a_v_bestRow a_v_ways a_v_lanes a_v_sizes a_v_cells a_v_before v_hasOrder v_hasStart v_placed v_placedMany v_highest v_taped v_pos v_begun v_sort v_value v_fault v_wrongAt v_rightSum v_wrongSum v_allWays v_torn o13.2 o32 hc33) (cwV 0 hts gX10_findBest_X10_allWrong rfl rfl rfl (by decide +kernel) ⟨Nat.le_of_ble_eq_true rfl, Nat.le_of_ble_eq_true rfl⟩) rfl rfl rfl hE hP hDD rfl hS [0, 2] rfl rfl rfl rfl hl.1 (Nat.le_of_ble_eq_true rfl) ⟨Nat.zero_le _, Nat.zero_le _⟩ rfl dX10_findBest_48 rfl (fun H locs hP hS => ?_)
          refine lv_goto (tgt := 56) hx hb dX10_findBest_51 (by decide) ?_
          obtain rfl := Option.some.inj h
          exact J18 _ _ _ hP hS (lv_sub hl [0, 1, 2, 3] rfl)
  refine wi_ic hx hb dX10_findBest_0 ?_
  refine lv_istore_n (lv' := [(1, .int (zI 1)), (0, .ref a_v)]) hx hb dX10_findBest_1 rfl hl (by decide) rfl (fun ls hl => ?_)
  refine wi_ldc (n := 1000000) hx hb hown q0 dX10_findBest_2 rfl ?_
  refine lv_istore_n (lv' := [(2, .int (zI 1000000)), (1, .int (zI 1)), (0, .ref a_v)]) hx hb dX10_findBest_4 rfl hl (by decide) rfl (fun ls hl => ?_)
  refine lv_aload_n hx hb dX10_findBest_5 rfl (lv_at hl 2 rfl) ?_
  obtain ⟨o1, hc2, h⟩ := bnd_some h
  refine cV_v (rest := []) (w2 := (wd_X10_findBest cy a_v a_v_bestRow a_v_now a_v_st a_v_isKept a_v_draft a_v_placedRow a_v_tape a_v_by a_v_told a_v_ways a_v_lanes a_v_sizes a_v_cells a_v_before v_hasOrder v_hasStart v_placed v_placedMany v_highest v_taped v_pos v_begun v_sort v_value v_fault v_wrongAt v_rightSum v_wrongSum v_allWays v_torn v_bestRow o1 v_st)) ⟨hx, hb, hml, hown, hts⟩ (c_X10_fetches l D cy sa a_v a_v_now a_v_st a_v_isKept a_v_draft a_v_placedRow a_v_tape a_v_by a_v_told a_v_bestRow a_v_ways a_v_lanes a_v_sizes a_v_cells a_v_before v_hasOrder v_hasStart v_placed v_placedMany v_highest v_taped v_pos v_begun v_sort v_value v_fault v_wrongAt v_rightSum v_wrongSum v_allWays v_torn v_now v_st o1 hc2) (cwV 0 hts gX10_findBest_X10_fetches rfl rfl rfl (by decide +kernel) ⟨Nat.le_of_ble_eq_true rfl, Nat.le_of_ble_eq_true rfl⟩) rfl rfl rfl hE hP hDD rfl hS [0, 2, 3] rfl rfl rfl rfl hl.1 (Nat.le_of_ble_eq_true rfl) ⟨Nat.zero_le _, Nat.zero_le _⟩ rfl dX10_findBest_6 rfl (fun H locs hP hS => ?_)
  refine wi_ic hx hb dX10_findBest_9 ?_
  refine lv_istore_n (lv' := [(3, .int (zI 0)), (2, .int (zI 1000000)), (1, .int (zI 1)), (0, .ref a_v)]) hx hb dX10_findBest_10 rfl hl (by decide) rfl (fun ls hl => ?_)
  obtain ⟨o7, hx8, h⟩ := bnd_some h
  refine L11 5000 v_bestRow o1 1 1000000 0 _ _ _ _ hP hS (lv_sub hl [3, 2, 1, 0] rfl) hx8 ?_
  clear hx8
  intro H locs ls hP hS hl
  refine wi_ic hx hb dX10_findBest_32 ?_
  refine lv_istore_n (lv' := [(3, .int (zI 0)), (0, .ref a_v), (1, .int (zI o7)), (2, .int (zI 1000000))]) hx hb dX10_findBest_33 rfl hl (by decide) rfl (fun ls hl => ?_)
  obtain ⟨o34, hx35, h⟩ := bnd_some h
  refine L34 5000 v_bestRow o1 o7 1000000 0 _ _ _ _ hP hS (lv_sub hl [1, 2, 3, 0] rfl) hx35 ?_
  clear hx35
  intro H locs ls hP hS hl
  refine lv_iload_n hx hb dX10_findBest_111 rfl (lv_at hl 0 rfl) ?_
  obtain rfl := Option.some.inj h
  exact KR _ _ _ _ hP hS dX10_findBest_112
abbrev wd_X10_best (cy : Nat → ClassId) (a_v : Nat) (a_v_bestRow : Nat) (a_v_now : Nat) (a_v_st : Nat) (a_v_isKept : Nat) (a_v_draft : Nat) (a_v_placedRow : Nat) (a_v_tape : Nat) (a_v_by : Nat) (a_v_told : Nat) (a_v_ways : Nat) (a_v_lanes : Nat) (a_v_sizes : Nat) (a_v_cells : Nat) (a_v_before : Nat) (v_hasOrder : Int) (v_hasStart : Int) (v_placed : Int) (v_placedMany : Int) (v_highest : Int) (v_taped : Int) (v_pos : Int) (v_begun : Int) (v_sort : Int) (v_value : Int) (v_fault : Int) (v_wrongAt : Int) (v_rightSum : Int) (v_wrongSum : Int) (v_allWays : Int) (v_torn : Int) (v_bestRow : Nat → Int) (v_now : Nat → Int) (v_st : Nat → Int) : va_W := [(a_v, .inr (10, [.ref a_v_st, .ref a_v_now, .ref a_v_isKept, .ref a_v_draft, .int (zI v_hasOrder), .int (zI v_hasStart), .int (zI v_placed), .int (zI v_placedMany), .ref a_v_placedRow, .int (zI v_highest), .ref a_v_tape, .int (zI v_taped), .int (zI v_pos), .int (zI v_begun), .int (zI v_sort), .int (zI v_value), .int (zI v_fault), .int (zI v_wrongAt), .ref a_v_by, .ref a_v_told, .ref a_v_bestRow, .long (zL v_rightSum), .long (zL v_wrongSum), .long (zL v_allWays), .ref a_v_ways, .ref a_v_lanes, .ref a_v_sizes, .ref a_v_cells, .int (zI v_torn), .ref a_v_before])), (a_v_bestRow, .inl (cy 0, 5, .inl (fun j => zI (v_bestRow j)))), (a_v_now, .inl (cy 0, 56, .inl (fun j => zI (v_now j)))), (a_v_st, .inl (cy 0, 168, .inl (fun j => zI (v_st j))))]
set_option maxHeartbeats 4000000 in
set_option maxRecDepth 100000 in
theorem c_X10_best (l : Launch) (D : va_G) (cy : Nat → ClassId) (sa : Nat → Nat) (a_v : Nat) (a_v_bestRow : Nat) (a_v_now : Nat) (a_v_st : Nat) (a_v_isKept : Nat) (a_v_draft : Nat) (a_v_placedRow : Nat) (a_v_tape : Nat) (a_v_by : Nat) (a_v_told : Nat) (a_v_ways : Nat) (a_v_lanes : Nat) (a_v_sizes : Nat) (a_v_cells : Nat) (a_v_before : Nat) (v_hasOrder : Int) (v_hasStart : Int) (v_placed : Int) (v_placedMany : Int) (v_highest : Int) (v_taped : Int) (v_pos : Int) (v_begun : Int) (v_sort : Int) (v_value : Int) (v_fault : Int) (v_wrongAt : Int) (v_rightSum : Int) (v_wrongSum : Int) (v_allWays : Int) (v_torn : Int) (v_bestRow : Nat → Int) (v_now : Nat → Int) (v_st : Nat → Int) (x1 : Int) (o : Int × (Nat → Int) × (Nat → Int)) (h : f_M_best v_bestRow v_now v_st x1 = some o) : CtI l yX10_best wsX10_best ({ frames := 6, cells := 0, slots := 0, locals := 136 }) D cy sa [.ref a_v, .int (zI x1)] (wd_X10_best cy a_v a_v_bestRow a_v_now a_v_st a_v_isKept a_v_draft a_v_placedRow a_v_tape a_v_by a_v_told a_v_ways a_v_lanes a_v_sizes a_v_cells a_v_before v_hasOrder v_hasStart v_placed v_placedMany v_highest v_taped v_pos v_begun v_sort v_value v_fault v_wrongAt v_rightSum v_wrongSum v_allWays v_torn v_bestRow v_now v_st) (wd_X10_best cy a_v a_v_bestRow a_v_now a_v_st a_v_isKept a_v_draft a_v_placedRow a_v_tape a_v_by a_v_told a_v_ways a_v_lanes a_v_sizes a_v_cells a_v_before v_hasOrder v_hasStart v_placed v_placedMany v_highest v_taped v_pos v_begun v_sort v_value v_fault v_wrongAt v_rightSum v_wrongSum v_allWays v_torn o.2.1 o.2.2 v_st) o.1 := by
  refine ct_I (cc := cX10_best) (maxL := 3) (plainFor_of_name (by decide)) rfl (Nat.le_of_ble_eq_true rfl) ?_
  intro p e s m below meth c A args QQ hx hb hml hown hts hE hDD hP KR ls hl
  have hl : lv_has ls 3 [(0, .ref a_v), (1, .int (zI x1))] := hl
  have hDD : DD A [a_v, a_v_bestRow, a_v_now, a_v_st] := hDD
  have hS : va_S A s.heap s.heap [] := va_S.rf
  have q0 := hts (.fieldLink RX10 35 "HatHoursModel" "bestRow" "[I") (List.mem_of_getElem? (i := 1) rfl)
  have iX10 : ∀ w ∈ u_ws RX10 TX10 30, w ∈ wsX10_best := in_slice 52 30 rfl
  have B17 : ∀ (v_bestRow : Nat → Int) (v_now : Nat → Int) (x1 : Int) (H : Heap) (locs : List Loc) (ls : Array Slot), va_P D vwCl (wd_X10_best cy a_v a_v_bestRow a_v_now a_v_st a_v_isKept a_v_draft a_v_placedRow a_v_tape a_v_by a_v_told a_v_ways a_v_lanes a_v_sizes a_v_cells a_v_before v_hasOrder v_hasStart v_placed v_placedMany v_highest v_taped v_pos v_begun v_sort v_value v_fault v_wrongAt v_rightSum v_wrongSum v_allWays v_torn v_bestRow v_now v_st) H → va_S A s.heap H locs → lv_has ls 3 [(0, .ref a_v), (1, .int (zI x1))] → f_M_best_b17 v_bestRow v_now v_st x1 = some o → W p l e { frames := 6, cells := 0, slots := 0, locals := 136 } s m args below meth c H locs 0 0 QQ (F0 m 17 ls []) := by
    intro v_bestRow v_now x1 H locs ls hP hS hl h
    refine lv_aload_n hx hb dX10_best_17 rfl (lv_at hl 0 rfl) ?_
    obtain ⟨o4, hc5, h⟩ := bnd_some h
    refine cV_i (rest := []) (w2 := (wd_X10_best cy a_v a_v_bestRow a_v_now a_v_st a_v_isKept a_v_draft a_v_placedRow a_v_tape a_v_by a_v_told a_v_ways a_v_lanes a_v_sizes a_v_cells a_v_before v_hasOrder v_hasStart v_placed v_placedMany v_highest v_taped v_pos v_begun v_sort v_value v_fault v_wrongAt v_rightSum v_wrongSum v_allWays v_torn o4.2.1 o4.2.2 v_st)) ⟨hx, hb, hml, hown, hts⟩ (c_X10_findBest l D cy sa a_v a_v_bestRow a_v_now a_v_st a_v_isKept a_v_draft a_v_placedRow a_v_tape a_v_by a_v_told a_v_ways a_v_lanes a_v_sizes a_v_cells a_v_before v_hasOrder v_hasStart v_placed v_placedMany v_highest v_taped v_pos v_begun v_sort v_value v_fault v_wrongAt v_rightSum v_wrongSum v_allWays v_torn v_bestRow v_now v_st o4 hc5) (cwV 0 hts gX10_best_X10_findBest rfl rfl rfl (by decide +kernel) ⟨Nat.le_of_ble_eq_true rfl, Nat.le_of_ble_eq_true rfl⟩) rfl rfl rfl hE hP hDD rfl hS [0, 1, 2, 3] rfl rfl rfl rfl hl.1 (Nat.le_of_ble_eq_true rfl) ⟨Nat.zero_le _, Nat.zero_le _⟩ rfl dX10_best_18 rfl (fun H locs hP hS => ?_)
    refine lv_istore_n (lv' := [(2, .int (zI o4.1)), (0, .ref a_v), (1, .int (zI x1))]) hx hb dX10_best_21 rfl hl (by decide) rfl (fun ls hl => ?_)
    refine lv_iload_n hx hb dX10_best_22 rfl (lv_at hl 2 rfl) ?_
    obtain ⟨hr6, h⟩ := chk_some h
    refine wi_if_ne (tgt := 30) hx hb dX10_best_23 (by decide) hr6 (fun c8 => ?_) (fun c8 => ?_)
    · have h := ite_f c8 h
      refine lv_aload_n hx hb dX10_best_30 rfl (lv_at hl 1 rfl) ?_
      refine wi_get (v := .ref a_v_bestRow) hx hb hts iX10 hown hE hP 0 rfl rfl 20 (by decide) q0 rfl dX10_best_31 ?_
      refine lv_iload_n hx hb dX10_best_34 rfl (lv_at hl 2 rfl) ?_
      refine wi_bi hx hb dX10_best_35 (by decide) ?_
      refine wi_isub hx hb dX10_best_37 ?_
      obtain ⟨hk9, h⟩ := chk_some h
      refine wi_iald hx hb hE hP 1 rfl (by decide) hk9 dX10_best_38 ?_
      obtain rfl := Option.some.inj h
      exact KR _ _ _ _ hP hS dX10_best_39
    · have h := ite_t c8 h
      refine lv_iload_n hx hb dX10_best_26 rfl (lv_at hl 0 rfl) ?_
      refine lv_goto (tgt := 39) hx hb dX10_best_27 (by decide) ?_
      obtain rfl := Option.some.inj h
      exact KR _ _ _ _ hP hS dX10_best_39
  refine lv_iload_n hx hb dX10_best_0 rfl (lv_at hl 1 rfl) ?_
  obtain ⟨hr1, h⟩ := chk_some h
  refine wi_if_eq (tgt := 17) hx hb dX10_best_1 (by decide) hr1 (fun c3 => ?_) (fun c3 => ?_)
  · have h := ite_t c3 h
    exact B17 v_bestRow v_now x1 _ _ _ hP hS (lv_sub hl [0, 1] rfl) h
  · have h := ite_f c3 h
    refine lv_aload_n hx hb dX10_best_4 rfl (lv_at hl 0 rfl) ?_
    refine lv_iload_n hx hb dX10_best_5 rfl (lv_at hl 1 rfl) ?_
    refine wi_bi hx hb dX10_best_6 (by decide) ?_
    refine wi_isubW hx hb dX10_best_8 ?_
    obtain ⟨o10, hc11, h⟩ := bnd_some h
    refine cV_i (rest := []) (w2 := (wd_X10_best cy a_v a_v_bestRow a_v_now a_v_st a_v_isKept a_v_draft a_v_placedRow a_v_tape a_v_by a_v_told a_v_ways a_v_lanes a_v_sizes a_v_cells a_v_before v_hasOrder v_hasStart v_placed v_placedMany v_highest v_taped v_pos v_begun v_sort v_value v_fault v_wrongAt v_rightSum v_wrongSum v_allWays v_torn v_bestRow v_now v_st)) ⟨hx, hb, hml, hown, hts⟩ (c_X10_isBox l D cy sa a_v a_v_st a_v_now a_v_isKept a_v_draft a_v_placedRow a_v_tape a_v_by a_v_told a_v_bestRow a_v_ways a_v_lanes a_v_sizes a_v_cells a_v_before v_hasOrder v_hasStart v_placed v_placedMany v_highest v_taped v_pos v_begun v_sort v_value v_fault v_wrongAt v_rightSum v_wrongSum v_allWays v_torn v_st (zwr (x1 - 10)) o10 hc11) (cwV 1 hts gX10_best_X10_isBox rfl rfl rfl (by decide +kernel) ⟨Nat.le_of_ble_eq_true rfl, Nat.le_of_ble_eq_true rfl⟩) rfl rfl rfl hE hP hDD rfl hS [0, 3] rfl rfl rfl rfl hl.1 (Nat.le_of_ble_eq_true rfl) ⟨Nat.zero_le _, Nat.zero_le _⟩ rfl dX10_best_9 rfl (fun H locs hP hS => ?_)
    obtain ⟨hr12, h⟩ := chk_some h
    refine wi_if_ne (tgt := 17) hx hb dX10_best_12 (by decide) hr12 (fun c14 => ?_) (fun c14 => ?_)
    · have h := ite_f c14 h
      exact B17 v_bestRow v_now x1 _ _ _ hP hS (lv_sub hl [0, 1] rfl) h
    · have h := ite_t c14 h
      refine wi_ic hx hb dX10_best_15 ?_
      obtain rfl := Option.some.inj h
      exact KR _ _ _ _ hP hS dX10_best_16
abbrev wd_X10_begin (cy : Nat → ClassId) (a_v : Nat) (a_v_now : Nat) (a_v_st : Nat) (a_v_isKept : Nat) (a_v_draft : Nat) (a_v_placedRow : Nat) (a_v_tape : Nat) (a_v_by : Nat) (a_v_told : Nat) (a_v_bestRow : Nat) (a_v_ways : Nat) (a_v_lanes : Nat) (a_v_sizes : Nat) (a_v_cells : Nat) (a_v_before : Nat) (v_hasOrder : Int) (v_hasStart : Int) (v_placed : Int) (v_placedMany : Int) (v_highest : Int) (v_taped : Int) (v_pos : Int) (v_begun : Int) (v_sort : Int) (v_value : Int) (v_fault : Int) (v_wrongAt : Int) (v_rightSum : Int) (v_wrongSum : Int) (v_allWays : Int) (v_torn : Int) (v_now : Nat → Int) (v_st : Nat → Int) : va_W := [(a_v, .inr (10, [.ref a_v_st, .ref a_v_now, .ref a_v_isKept, .ref a_v_draft, .int (zI v_hasOrder), .int (zI v_hasStart), .int (zI v_placed), .int (zI v_placedMany), .ref a_v_placedRow, .int (zI v_highest), .ref a_v_tape, .int (zI v_taped), .int (zI v_pos), .int (zI v_begun), .int (zI v_sort), .int (zI v_value), .int (zI v_fault), .int (zI v_wrongAt), .ref a_v_by, .ref a_v_told, .ref a_v_bestRow, .long (zL v_rightSum), .long (zL v_wrongSum), .long (zL v_allWays), .ref a_v_ways, .ref a_v_lanes, .ref a_v_sizes, .ref a_v_cells, .int (zI v_torn), .ref a_v_before])), (a_v_now, .inl (cy 0, 56, .inl (fun j => zI (v_now j)))), (a_v_st, .inl (cy 0, 168, .inl (fun j => zI (v_st j))))]
set_option maxHeartbeats 4000000 in
set_option maxRecDepth 100000 in
theorem c_X10_begin (l : Launch) (D : va_G) (cy : Nat → ClassId) (sa : Nat → Nat) (a_v : Nat) (a_v_now : Nat) (a_v_st : Nat) (a_v_isKept : Nat) (a_v_draft : Nat) (a_v_placedRow : Nat) (a_v_tape : Nat) (a_v_by : Nat) (a_v_told : Nat) (a_v_bestRow : Nat) (a_v_ways : Nat) (a_v_lanes : Nat) (a_v_sizes : Nat) (a_v_cells : Nat) (a_v_before : Nat) (v_hasOrder : Int) (v_hasStart : Int) (v_placed : Int) (v_placedMany : Int) (v_highest : Int) (v_taped : Int) (v_pos : Int) (v_begun : Int) (v_sort : Int) (v_value : Int) (v_fault : Int) (v_wrongAt : Int) (v_rightSum : Int) (v_wrongSum : Int) (v_allWays : Int) (v_torn : Int) (v_now : Nat → Int) (v_st : Nat → Int) (x1 : Int) (o : Int × (Nat → Int)) (h : f_M_begin v_now v_st x1 = some o) : CtI l yX10_begin wsX10_begin ({ frames := 5, cells := 0, slots := 0, locals := 111 }) D cy sa [.ref a_v, .int (zI x1)] (wd_X10_begin cy a_v a_v_now a_v_st a_v_isKept a_v_draft a_v_placedRow a_v_tape a_v_by a_v_told a_v_bestRow a_v_ways a_v_lanes a_v_sizes a_v_cells a_v_before v_hasOrder v_hasStart v_placed v_placedMany v_highest v_taped v_pos v_begun v_sort v_value v_fault v_wrongAt v_rightSum v_wrongSum v_allWays v_torn v_now v_st) (wd_X10_begin cy a_v a_v_now a_v_st a_v_isKept a_v_draft a_v_placedRow a_v_tape a_v_by a_v_told a_v_bestRow a_v_ways a_v_lanes a_v_sizes a_v_cells a_v_before v_hasOrder v_hasStart v_placed v_placedMany v_highest v_taped v_pos v_begun v_sort v_value v_fault v_wrongAt v_rightSum v_wrongSum v_allWays v_torn o.2 v_st) o.1 := by
  refine ct_I (cc := cX10_begin) (maxL := 6) (plainFor_of_name (by decide)) rfl (Nat.le_of_ble_eq_true rfl) ?_
  intro p e s m below meth c A args QQ hx hb hml hown hts hE hDD hP KR ls hl
  have hl : lv_has ls 6 [(0, .ref a_v), (1, .int (zI x1))] := hl
  have hDD : DD A [a_v, a_v_now, a_v_st] := hDD
  have hS : va_S A s.heap s.heap [] := va_S.rf
  have q0 := hts (.constant RX10 229 (1000000)) (List.mem_of_getElem? (i := 1) rfl)
  have q1 := hts (.fieldLink RX10 13 "HatHoursModel" "now" "[I") (List.mem_of_getElem? (i := 2) rfl)
  have iX10 : ∀ w ∈ u_ws RX10 TX10 30, w ∈ wsX10_begin := in_slice 42 30 rfl
  have L21 : ∀ (fuel : Nat) (v_now : Nat → Int) (x1 : Int) (x2 : Int) (x3 : Int) (x4 : Int) (H : Heap) (locs : List Loc) (ls : Array Slot) (ex : Int × Int × (Nat → Int)), va_P D vwCl (wd_X10_begin cy a_v a_v_now a_v_st a_v_isKept a_v_draft a_v_placedRow a_v_tape a_v_by a_v_told a_v_bestRow a_v_ways a_v_lanes a_v_sizes a_v_cells a_v_before v_hasOrder v_hasStart v_placed v_placedMany v_highest v_taped v_pos v_begun v_sort v_value v_fault v_wrongAt v_rightSum v_wrongSum v_allWays v_torn v_now v_st) H → va_S A s.heap H locs → lv_has ls 6 [(0, .ref a_v), (1, .int (zI x1)), (2, .int (zI x2)), (3, .int (zI x3)), (4, .int (zI x4))] → f_M_begin_L21 fuel v_now x2 x3 x4 = some ex → (∀ (H : Heap) (locs : List Loc) (ls : Array Slot), va_P D vwCl (wd_X10_begin cy a_v a_v_now a_v_st a_v_isKept a_v_draft a_v_placedRow a_v_tape a_v_by a_v_told a_v_bestRow a_v_ways a_v_lanes a_v_sizes a_v_cells a_v_before v_hasOrder v_hasStart v_placed v_placedMany v_highest v_taped v_pos v_begun v_sort v_value v_fault v_wrongAt v_rightSum v_wrongSum v_allWays v_torn ex.2.2 v_st) H → va_S A s.heap H locs → lv_has ls 6 [(1, .int (zI x1)), (2, .int (zI ex.1)), (3, .int (zI ex.2.1))] → W p l e { frames := 5, cells := 0, slots := 0, locals := 111 } s m args below meth c H locs 0 0 QQ (F0 m 69 ls [])) → W p l e { frames := 5, cells := 0, slots := 0, locals := 111 } s m args below meth c H locs 0 0 QQ (F0 m 21 ls []) := by
    intro fuel
    induction fuel with
    | zero => intro _ _ _ _ _ H locs ls ex hP hS hl h K; cases h
    | succ fuel ih =>
      intro v_now x1 x2 x3 x4 H locs ls ex hP hS hl h K
      refine lv_iload hx hb dX10_begin_21 (lv_at hl 4 rfl) ?_
      refine wi_bi hx hb dX10_begin_23 (by decide) ?_
      obtain ⟨hr8, h⟩ := chk_some h
      refine wi_ic_ge (tgt := 69) hx hb dX10_begin_25 (by decide) hr8 (by decide) (fun c10 => ?_) (fun c10 => ?_)
      · have h := ite_t c10 h
        obtain rfl := Option.some.inj h
        exact K _ _ _ hP hS (lv_sub hl [1, 2, 3] rfl)
      · have h := ite_f c10 h
        refine lv_aload_n hx hb dX10_begin_28 rfl (lv_at hl 0 rfl) ?_
        refine wi_get (v := .ref a_v_now) hx hb hts iX10 hown hE hP 0 rfl rfl 1 (by decide) q1 rfl dX10_begin_29 ?_
        refine wi_bi hx hb dX10_begin_32 (by decide) ?_
        refine lv_iload hx hb dX10_begin_34 (lv_at hl 4 rfl) ?_
        refine wi_iast (w2 := (wd_X10_begin cy a_v a_v_now a_v_st a_v_isKept a_v_draft a_v_placedRow a_v_tape a_v_by a_v_told a_v_bestRow a_v_ways a_v_lanes a_v_sizes a_v_cells a_v_before v_hasOrder v_hasStart v_placed v_placedMany v_highest v_taped v_pos v_begun v_sort v_value v_fault v_wrongAt v_rightSum v_wrongSum v_allWays v_torn (upZ v_now 36 x4) v_st)) hx hb hE hP hDD rfl hS 1 rfl (by decide) (by decide) dX10_begin_36 rfl (fun H locs hP hS => ?_)
        refine lv_aload_n hx hb dX10_begin_37 rfl (lv_at hl 0 rfl) ?_
        obtain ⟨o11, hc12, h⟩ := bnd_some h
        refine cV_i (rest := []) (w2 := (wd_X10_begin cy a_v a_v_now a_v_st a_v_isKept a_v_draft a_v_placedRow a_v_tape a_v_by a_v_told a_v_bestRow a_v_ways a_v_lanes a_v_sizes a_v_cells a_v_before v_hasOrder v_hasStart v_placed v_placedMany v_highest v_taped v_pos v_begun v_sort v_value v_fault v_wrongAt v_rightSum v_wrongSum v_allWays v_torn (upZ v_now 36 x4) v_st)) ⟨hx, hb, hml, hown, hts⟩ (c_X10_allWrong l D cy sa a_v a_v_now a_v_st a_v_isKept a_v_draft a_v_placedRow a_v_tape a_v_by a_v_told a_v_bestRow a_v_ways a_v_lanes a_v_sizes a_v_cells a_v_before v_hasOrder v_hasStart v_placed v_placedMany v_highest v_taped v_pos v_begun v_sort v_value v_fault v_wrongAt v_rightSum v_wrongSum v_allWays v_torn (upZ v_now 36 x4) o11 hc12) (cwV 0 hts gX10_begin_X10_allWrong rfl rfl rfl (by decide +kernel) ⟨Nat.le_of_ble_eq_true rfl, Nat.le_of_ble_eq_true rfl⟩) rfl rfl rfl hE hP hDD rfl hS [0, 1] rfl rfl rfl rfl hl.1 (Nat.le_of_ble_eq_true rfl) ⟨Nat.zero_le _, Nat.zero_le _⟩ rfl dX10_begin_38 rfl (fun H locs hP hS => ?_)
        refine lv_istore (lv' := [(5, .int (zI o11)), (0, .ref a_v), (1, .int (zI x1)), (2, .int (zI x2)), (3, .int (zI x3)), (4, .int (zI x4))]) hx hb dX10_begin_41 hl (by decide) rfl (fun ls hl => ?_)
        refine lv_iload hx hb dX10_begin_43 (lv_at hl 0 rfl) ?_
        refine lv_iload_n hx hb dX10_begin_45 rfl (lv_at hl 3 rfl) ?_
        obtain ⟨hr13, h⟩ := chk_some h
        obtain ⟨hr14, h⟩ := chk_some h
        obtain ⟨o15, hx16, h⟩ := bnd_some h
        have J17 : ∀ (H : Heap) (locs : List Loc) (ls : Array Slot), va_P D vwCl (wd_X10_begin cy a_v a_v_now a_v_st a_v_isKept a_v_draft a_v_placedRow a_v_tape a_v_by a_v_told a_v_bestRow a_v_ways a_v_lanes a_v_sizes a_v_cells a_v_before v_hasOrder v_hasStart v_placed v_placedMany v_highest v_taped v_pos v_begun v_sort v_value v_fault v_wrongAt v_rightSum v_wrongSum v_allWays v_torn (upZ v_now 36 x4) v_st) H → va_S A s.heap H locs → lv_has ls 6 [(0, .ref a_v), (1, .int (zI x1)), (2, .int (zI x2)), (4, .int (zI x4)), (5, .int (zI o11))] → W p l e { frames := 5, cells := 0, slots := 0, locals := 111 } s m args below meth c H locs 0 0 QQ (F0 m 55 ls [.int (zI o15)]) := by
          intro H locs ls hP hS hl
          refine lv_istore_n (lv' := [(3, .int (zI o15)), (0, .ref a_v), (1, .int (zI x1)), (2, .int (zI x2)), (4, .int (zI x4)), (5, .int (zI o11))]) hx hb dX10_begin_55 rfl hl (by decide) rfl (fun ls hl => ?_)
          refine lv_iload hx hb dX10_begin_56 (lv_at hl 5 rfl) ?_
          refine lv_iload_n hx hb dX10_begin_58 rfl (lv_at hl 3 rfl) ?_
          obtain ⟨o18, hc19, h⟩ := bnd_some h
          refine cS_i (rest := []) (w2 := (wd_X10_begin cy a_v a_v_now a_v_st a_v_isKept a_v_draft a_v_placedRow a_v_tape a_v_by a_v_told a_v_bestRow a_v_ways a_v_lanes a_v_sizes a_v_cells a_v_before v_hasOrder v_hasStart v_placed v_placedMany v_highest v_taped v_pos v_begun v_sort v_value v_fault v_wrongAt v_rightSum v_wrongSum v_allWays v_torn (upZ v_now 36 x4) v_st)) ⟨hx, hb, hml, hown, hts⟩ (c_X10_lesser l D cy sa o11 x2 o18 hc19) (va_cwS 2 hts gX10_begin_X10_lesser rfl rfl rfl (by decide +kernel) ⟨Nat.le_of_ble_eq_true rfl, Nat.le_of_ble_eq_true rfl⟩) hE hP hDD rfl hS [] rfl rfl rfl rfl hl.1 (Nat.le_of_ble_eq_true rfl) ⟨Nat.zero_le _, Nat.zero_le _⟩ rfl dX10_begin_59 rfl (fun H locs hP hS => ?_)
          refine lv_istore_n (lv' := [(2, .int (zI o18)), (3, .int (zI o15)), (0, .ref a_v), (1, .int (zI x1)), (4, .int (zI x4)), (5, .int (zI o11))]) hx hb dX10_begin_62 rfl hl (by decide) rfl (fun ls hl => ?_)
          refine wi_iinc (k := 4) (lv' := [(4, .int (zI (x4 + 1))), (2, .int (zI o18)), (3, .int (zI o15)), (0, .ref a_v), (1, .int (zI x1)), (5, .int (zI o11))]) hx hb dX10_begin_63 hl rfl (by decide) rfl (fun ls hl => ?_)
          refine lv_goto (tgt := 21) hx hb dX10_begin_66 (by decide) ?_
          exact ih (upZ v_now 36 x4) x1 o18 o15 (x4 + 1) _ _ _ _ hP hS (lv_sub hl [3, 4, 1, 2, 0] rfl) h K
        clear h
        have h := hx16
        clear hx16
        refine wi_ic_ge (tgt := 54) hx hb dX10_begin_46 (by decide) hr13 hr14 (fun c20 => ?_) (fun c20 => ?_)
        · have h := ite_t c20 h
          refine lv_iload_n hx hb dX10_begin_54 rfl (lv_at hl 4 rfl) ?_
          obtain rfl := Option.some.inj h
          exact J17 _ _ _ hP hS (lv_sub hl [1, 2, 3, 5, 0] rfl)
        · have h := ite_f c20 h
          refine lv_iload hx hb dX10_begin_49 (lv_at hl 5 rfl) ?_
          refine lv_goto (tgt := 55) hx hb dX10_begin_51 (by decide) ?_
          obtain rfl := Option.some.inj h
          exact J17 _ _ _ hP hS (lv_sub hl [1, 2, 3, 5, 0] rfl)
  refine lv_iload_n hx hb dX10_begin_0 rfl (lv_at hl 1 rfl) ?_
  obtain ⟨o1, hc2, h⟩ := bnd_some h
  refine cS_i (rest := []) (w2 := (wd_X10_begin cy a_v a_v_now a_v_st a_v_isKept a_v_draft a_v_placedRow a_v_tape a_v_by a_v_told a_v_bestRow a_v_ways a_v_lanes a_v_sizes a_v_cells a_v_before v_hasOrder v_hasStart v_placed v_placedMany v_highest v_taped v_pos v_begun v_sort v_value v_fault v_wrongAt v_rightSum v_wrongSum v_allWays v_torn v_now v_st)) ⟨hx, hb, hml, hown, hts⟩ (c_X10_isPart l D cy sa x1 o1 hc2) (va_cwS 1 hts gX10_begin_X10_isPart rfl rfl rfl (by decide +kernel) ⟨Nat.le_of_ble_eq_true rfl, Nat.le_of_ble_eq_true rfl⟩) hE hP hDD rfl hS [] rfl rfl rfl rfl hl.1 (Nat.le_of_ble_eq_true rfl) ⟨Nat.zero_le _, Nat.zero_le _⟩ rfl dX10_begin_1 rfl (fun H locs hP hS => ?_)
  obtain ⟨hr3, h⟩ := chk_some h
  refine wi_if_ne (tgt := 9) hx hb dX10_begin_4 (by decide) hr3 (fun c5 => ?_) (fun c5 => ?_)
  · have h := ite_f c5 h
    refine wi_ldc (n := 1000000) hx hb hown q0 dX10_begin_9 rfl ?_
    refine lv_istore_n (lv' := [(2, .int (zI 1000000)), (0, .ref a_v), (1, .int (zI x1))]) hx hb dX10_begin_11 rfl hl (by decide) rfl (fun ls hl => ?_)
    refine wi_ic hx hb dX10_begin_12 ?_
    refine lv_istore_n (lv' := [(3, .int (zI 0)), (2, .int (zI 1000000)), (0, .ref a_v), (1, .int (zI x1))]) hx hb dX10_begin_13 rfl hl (by decide) rfl (fun ls hl => ?_)
    refine lv_aload_n hx hb dX10_begin_14 rfl (lv_at hl 2 rfl) ?_
    obtain ⟨o6, hc7, h⟩ := bnd_some h
    refine cV_v (rest := []) (w2 := (wd_X10_begin cy a_v a_v_now a_v_st a_v_isKept a_v_draft a_v_placedRow a_v_tape a_v_by a_v_told a_v_bestRow a_v_ways a_v_lanes a_v_sizes a_v_cells a_v_before v_hasOrder v_hasStart v_placed v_placedMany v_highest v_taped v_pos v_begun v_sort v_value v_fault v_wrongAt v_rightSum v_wrongSum v_allWays v_torn o6 v_st)) ⟨hx, hb, hml, hown, hts⟩ (c_X10_fetches l D cy sa a_v a_v_now a_v_st a_v_isKept a_v_draft a_v_placedRow a_v_tape a_v_by a_v_told a_v_bestRow a_v_ways a_v_lanes a_v_sizes a_v_cells a_v_before v_hasOrder v_hasStart v_placed v_placedMany v_highest v_taped v_pos v_begun v_sort v_value v_fault v_wrongAt v_rightSum v_wrongSum v_allWays v_torn v_now v_st o6 hc7) (cwV 0 hts gX10_begin_X10_fetches rfl rfl rfl (by decide +kernel) ⟨Nat.le_of_ble_eq_true rfl, Nat.le_of_ble_eq_true rfl⟩) rfl rfl rfl hE hP hDD rfl hS [0, 1, 2] rfl rfl rfl rfl hl.1 (Nat.le_of_ble_eq_true rfl) ⟨Nat.zero_le _, Nat.zero_le _⟩ rfl dX10_begin_15 rfl (fun H locs hP hS => ?_)
    refine wi_ic hx hb dX10_begin_18 ?_
    refine lv_istore (lv' := [(4, .int (zI 0)), (3, .int (zI 0)), (2, .int (zI 1000000)), (0, .ref a_v), (1, .int (zI x1))]) hx hb dX10_begin_19 hl (by decide) rfl (fun ls hl => ?_)
    obtain ⟨o21, hx22, h⟩ := bnd_some h
    refine L21 5000 o6 x1 1000000 0 0 _ _ _ _ hP hS (lv_sub hl [3, 4, 2, 1, 0] rfl) hx22 ?_
    clear hx22
    intro H locs ls hP hS hl
    refine lv_iload_n hx hb dX10_begin_69 rfl (lv_at hl 0 rfl) ?_
    obtain ⟨hr23, h⟩ := chk_some h
    refine wi_if_ne (tgt := 77) hx hb dX10_begin_70 (by decide) hr23 (fun c25 => ?_) (fun c25 => ?_)
    · have h := ite_f c25 h
      refine lv_iload_n hx hb dX10_begin_77 rfl (lv_at hl 1 rfl) ?_
      obtain rfl := Option.some.inj h
      exact KR _ _ _ _ hP hS dX10_begin_78
    · have h := ite_t c25 h
      refine lv_iload_n hx hb dX10_begin_73 rfl (lv_at hl 2 rfl) ?_
      refine lv_goto (tgt := 78) hx hb dX10_begin_74 (by decide) ?_
      obtain rfl := Option.some.inj h
      exact KR _ _ _ _ hP hS dX10_begin_78
  · have h := ite_t c5 h
    refine wi_ic hx hb dX10_begin_7 ?_
    obtain rfl := Option.some.inj h
    exact KR _ _ _ _ hP hS dX10_begin_8
abbrev wd_X10_swap (cy : Nat → ClassId) (a_v : Nat) (a_v_now : Nat) (a_v_st : Nat) (a_v_isKept : Nat) (a_v_draft : Nat) (a_v_placedRow : Nat) (a_v_tape : Nat) (a_v_by : Nat) (a_v_told : Nat) (a_v_bestRow : Nat) (a_v_ways : Nat) (a_v_lanes : Nat) (a_v_sizes : Nat) (a_v_cells : Nat) (a_v_before : Nat) (v_hasOrder : Int) (v_hasStart : Int) (v_placed : Int) (v_placedMany : Int) (v_highest : Int) (v_taped : Int) (v_pos : Int) (v_begun : Int) (v_sort : Int) (v_value : Int) (v_fault : Int) (v_wrongAt : Int) (v_rightSum : Int) (v_wrongSum : Int) (v_allWays : Int) (v_torn : Int) (v_now : Nat → Int) (v_st : Nat → Int) : va_W := [(a_v, .inr (10, [.ref a_v_st, .ref a_v_now, .ref a_v_isKept, .ref a_v_draft, .int (zI v_hasOrder), .int (zI v_hasStart), .int (zI v_placed), .int (zI v_placedMany), .ref a_v_placedRow, .int (zI v_highest), .ref a_v_tape, .int (zI v_taped), .int (zI v_pos), .int (zI v_begun), .int (zI v_sort), .int (zI v_value), .int (zI v_fault), .int (zI v_wrongAt), .ref a_v_by, .ref a_v_told, .ref a_v_bestRow, .long (zL v_rightSum), .long (zL v_wrongSum), .long (zL v_allWays), .ref a_v_ways, .ref a_v_lanes, .ref a_v_sizes, .ref a_v_cells, .int (zI v_torn), .ref a_v_before])), (a_v_now, .inl (cy 0, 56, .inl (fun j => zI (v_now j)))), (a_v_st, .inl (cy 0, 168, .inl (fun j => zI (v_st j))))]
set_option maxHeartbeats 4000000 in
set_option maxRecDepth 100000 in
theorem c_X10_swap (l : Launch) (D : va_G) (cy : Nat → ClassId) (sa : Nat → Nat) (a_v : Nat) (a_v_now : Nat) (a_v_st : Nat) (a_v_isKept : Nat) (a_v_draft : Nat) (a_v_placedRow : Nat) (a_v_tape : Nat) (a_v_by : Nat) (a_v_told : Nat) (a_v_bestRow : Nat) (a_v_ways : Nat) (a_v_lanes : Nat) (a_v_sizes : Nat) (a_v_cells : Nat) (a_v_before : Nat) (v_hasOrder : Int) (v_hasStart : Int) (v_placed : Int) (v_placedMany : Int) (v_highest : Int) (v_taped : Int) (v_pos : Int) (v_begun : Int) (v_sort : Int) (v_value : Int) (v_fault : Int) (v_wrongAt : Int) (v_rightSum : Int) (v_wrongSum : Int) (v_allWays : Int) (v_torn : Int) (v_now : Nat → Int) (v_st : Nat → Int) (x1 : Int) (o : Int × (Nat → Int)) (h : f_M_swap v_now v_st x1 = some o) : CtI l yX10_swap wsX10_swap ({ frames := 5, cells := 0, slots := 0, locals := 111 }) D cy sa [.ref a_v, .int (zI x1)] (wd_X10_swap cy a_v a_v_now a_v_st a_v_isKept a_v_draft a_v_placedRow a_v_tape a_v_by a_v_told a_v_bestRow a_v_ways a_v_lanes a_v_sizes a_v_cells a_v_before v_hasOrder v_hasStart v_placed v_placedMany v_highest v_taped v_pos v_begun v_sort v_value v_fault v_wrongAt v_rightSum v_wrongSum v_allWays v_torn v_now v_st) (wd_X10_swap cy a_v a_v_now a_v_st a_v_isKept a_v_draft a_v_placedRow a_v_tape a_v_by a_v_told a_v_bestRow a_v_ways a_v_lanes a_v_sizes a_v_cells a_v_before v_hasOrder v_hasStart v_placed v_placedMany v_highest v_taped v_pos v_begun v_sort v_value v_fault v_wrongAt v_rightSum v_wrongSum v_allWays v_torn o.2 v_st) o.1 := by
  refine ct_I (cc := cX10_swap) (maxL := 7) (plainFor_of_name (by decide)) rfl (Nat.le_of_ble_eq_true rfl) ?_
  intro p e s m below meth c A args QQ hx hb hml hown hts hE hDD hP KR ls hl
  have hl : lv_has ls 7 [(0, .ref a_v), (1, .int (zI x1))] := hl
  have hDD : DD A [a_v, a_v_now, a_v_st] := hDD
  have hS : va_S A s.heap s.heap [] := va_S.rf
  have q0 := hts (.fieldLink RX10 7 "HatHoursModel" "st" "[I") (List.mem_of_getElem? (i := 1) rfl)
  have q1 := hts (.fieldLink RX10 13 "HatHoursModel" "now" "[I") (List.mem_of_getElem? (i := 2) rfl)
  have iX10 : ∀ w ∈ u_ws RX10 TX10 30, w ∈ wsX10_swap := in_slice 41 30 rfl
  have L42 : ∀ (fuel : Nat) (v_now : Nat → Int) (x1 : Int) (x2 : Int) (x3 : Int) (x4 : Int) (x5 : Int) (H : Heap) (locs : List Loc) (ls : Array Slot) (ex : Int × Int × (Nat → Int)), va_P D vwCl (wd_X10_swap cy a_v a_v_now a_v_st a_v_isKept a_v_draft a_v_placedRow a_v_tape a_v_by a_v_told a_v_bestRow a_v_ways a_v_lanes a_v_sizes a_v_cells a_v_before v_hasOrder v_hasStart v_placed v_placedMany v_highest v_taped v_pos v_begun v_sort v_value v_fault v_wrongAt v_rightSum v_wrongSum v_allWays v_torn v_now v_st) H → va_S A s.heap H locs → lv_has ls 7 [(0, .ref a_v), (1, .int (zI x1)), (2, .int (zI x2)), (3, .int (zI x3)), (4, .int (zI x4)), (5, .int (zI x5))] → f_M_swap_L42 fuel v_now v_st x2 x3 x4 x5 = some ex → (∀ (H : Heap) (locs : List Loc) (ls : Array Slot), va_P D vwCl (wd_X10_swap cy a_v a_v_now a_v_st a_v_isKept a_v_draft a_v_placedRow a_v_tape a_v_by a_v_told a_v_bestRow a_v_ways a_v_lanes a_v_sizes a_v_cells a_v_before v_hasOrder v_hasStart v_placed v_placedMany v_highest v_taped v_pos v_begun v_sort v_value v_fault v_wrongAt v_rightSum v_wrongSum v_allWays v_torn ex.2.2 v_st) H → va_S A s.heap H locs → lv_has ls 7 [(0, .ref a_v), (1, .int (zI x1)), (2, .int (zI ex.1)), (3, .int (zI ex.2.1)), (4, .int (zI x4))] → W p l e { frames := 5, cells := 0, slots := 0, locals := 111 } s m args below meth c H locs 0 0 QQ (F0 m 136 ls [])) → W p l e { frames := 5, cells := 0, slots := 0, locals := 111 } s m args below meth c H locs 0 0 QQ (F0 m 42 ls []) := by
    intro fuel
    induction fuel with
    | zero => intro _ _ _ _ _ _ H locs ls ex hP hS hl h K; cases h
    | succ fuel ih =>
      intro v_now x1 x2 x3 x4 x5 H locs ls ex hP hS hl h K
      refine lv_iload hx hb dX10_swap_42 (lv_at hl 5 rfl) ?_
      refine lv_aload_n hx hb dX10_swap_44 rfl (lv_at hl 0 rfl) ?_
      refine wi_get (v := .ref a_v_st) hx hb hts iX10 hown hE hP 0 rfl rfl 0 (by decide) q0 rfl dX10_swap_45 ?_
      refine wi_bi hx hb dX10_swap_48 (by decide) ?_
      refine wi_iald hx hb hE hP 2 rfl (by decide) (by decide) dX10_swap_50 ?_
      obtain ⟨hr14, h⟩ := chk_some h
      obtain ⟨hr15, h⟩ := chk_some h
      refine wi_ic_ge (tgt := 136) hx hb dX10_swap_51 (by decide) hr14 hr15 (fun c17 => ?_) (fun c17 => ?_)
      · have h := ite_t c17 h
        obtain rfl := Option.some.inj h
        exact K _ _ _ hP hS (lv_sub hl [0, 1, 2, 3, 4] rfl)
      · have h := ite_f c17 h
        refine lv_aload_n hx hb dX10_swap_54 rfl (lv_at hl 0 rfl) ?_
        obtain ⟨o18, hc19, h⟩ := bnd_some h
        refine cV_v (rest := []) (w2 := (wd_X10_swap cy a_v a_v_now a_v_st a_v_isKept a_v_draft a_v_placedRow a_v_tape a_v_by a_v_told a_v_bestRow a_v_ways a_v_lanes a_v_sizes a_v_cells a_v_before v_hasOrder v_hasStart v_placed v_placedMany v_highest v_taped v_pos v_begun v_sort v_value v_fault v_wrongAt v_rightSum v_wrongSum v_allWays v_torn o18 v_st)) ⟨hx, hb, hml, hown, hts⟩ (c_X10_fetches l D cy sa a_v a_v_now a_v_st a_v_isKept a_v_draft a_v_placedRow a_v_tape a_v_by a_v_told a_v_bestRow a_v_ways a_v_lanes a_v_sizes a_v_cells a_v_before v_hasOrder v_hasStart v_placed v_placedMany v_highest v_taped v_pos v_begun v_sort v_value v_fault v_wrongAt v_rightSum v_wrongSum v_allWays v_torn v_now v_st o18 hc19) (cwV 0 hts gX10_swap_X10_fetches rfl rfl rfl (by decide +kernel) ⟨Nat.le_of_ble_eq_true rfl, Nat.le_of_ble_eq_true rfl⟩) rfl rfl rfl hE hP hDD rfl hS [0, 1, 2] rfl rfl rfl rfl hl.1 (Nat.le_of_ble_eq_true rfl) ⟨Nat.zero_le _, Nat.zero_le _⟩ rfl dX10_swap_55 rfl (fun H locs hP hS => ?_)
        refine lv_aload_n hx hb dX10_swap_58 rfl (lv_at hl 0 rfl) ?_
        refine wi_get (v := .ref a_v_now) hx hb hts iX10 hown hE hP 0 rfl rfl 1 (by decide) q1 rfl dX10_swap_59 ?_
        refine wi_bi hx hb dX10_swap_62 (by decide) ?_
        refine lv_iload hx hb dX10_swap_64 (lv_at hl 4 rfl) ?_
        refine wi_iadd hx hb dX10_swap_66 ?_
        refine lv_aload_n hx hb dX10_swap_67 rfl (lv_at hl 0 rfl) ?_
        refine wi_get (v := .ref a_v_st) hx hb hts iX10 hown hE hP 0 rfl rfl 0 (by decide) q0 rfl dX10_swap_68 ?_
        refine wi_bi hx hb dX10_swap_71 (by decide) ?_
        refine lv_iload hx hb dX10_swap_73 (lv_at hl 5 rfl) ?_
        refine wi_iadd hx hb dX10_swap_75 ?_
        obtain ⟨hk20, h⟩ := chk_some h
        refine wi_iald hx hb hE hP 2 rfl (by decide) hk20 dX10_swap_76 ?_
        obtain ⟨hk21, h⟩ := chk_some h
        refine wi_iast (w2 := (wd_X10_swap cy a_v a_v_now a_v_st a_v_isKept a_v_draft a_v_placedRow a_v_tape a_v_by a_v_told a_v_bestRow a_v_ways a_v_lanes a_v_sizes a_v_cells a_v_before v_hasOrder v_hasStart v_placed v_placedMany v_highest v_taped v_pos v_begun v_sort v_value v_fault v_wrongAt v_rightSum v_wrongSum v_allWays v_torn (upZ o18 (31 + x4).toNat (v_st (31 + x5).toNat)) v_st)) hx hb hE hP hDD rfl hS 1 rfl (by decide) hk21 dX10_swap_77 rfl (fun H locs hP hS => ?_)
        refine lv_aload_n hx hb dX10_swap_78 rfl (lv_at hl 0 rfl) ?_
        refine wi_get (v := .ref a_v_now) hx hb hts iX10 hown hE hP 0 rfl rfl 1 (by decide) q1 rfl dX10_swap_79 ?_
        refine wi_bi hx hb dX10_swap_82 (by decide) ?_
        refine lv_iload hx hb dX10_swap_84 (lv_at hl 5 rfl) ?_
        refine wi_iadd hx hb dX10_swap_86 ?_
        refine lv_aload_n hx hb dX10_swap_87 rfl (lv_at hl 0 rfl) ?_
        refine wi_get (v := .ref a_v_st) hx hb hts iX10 hown hE hP 0 rfl rfl 0 (by decide) q0 rfl dX10_swap_88 ?_
        refine wi_bi hx hb dX10_swap_91 (by decide) ?_
        refine lv_iload hx hb dX10_swap_93 (lv_at hl 4 rfl) ?_
        refine wi_iadd hx hb dX10_swap_95 ?_
        obtain ⟨hk22, h⟩ := chk_some h
        refine wi_iald hx hb hE hP 2 rfl (by decide) hk22 dX10_swap_96 ?_
        obtain ⟨hk23, h⟩ := chk_some h
        refine wi_iast (w2 := (wd_X10_swap cy a_v a_v_now a_v_st a_v_isKept a_v_draft a_v_placedRow a_v_tape a_v_by a_v_told a_v_bestRow a_v_ways a_v_lanes a_v_sizes a_v_cells a_v_before v_hasOrder v_hasStart v_placed v_placedMany v_highest v_taped v_pos v_begun v_sort v_value v_fault v_wrongAt v_rightSum v_wrongSum v_allWays v_torn (upZ (upZ o18 (31 + x4).toNat (v_st (31 + x5).toNat)) (31 + x5).toNat (v_st (31 + x4).toNat)) v_st)) hx hb hE hP hDD rfl hS 1 rfl (by decide) hk23 dX10_swap_97 rfl (fun H locs hP hS => ?_)
        refine lv_aload_n hx hb dX10_swap_98 rfl (lv_at hl 0 rfl) ?_
        obtain ⟨o24, hc25, h⟩ := bnd_some h
        refine cV_i (rest := []) (w2 := (wd_X10_swap cy a_v a_v_now a_v_st a_v_isKept a_v_draft a_v_placedRow a_v_tape a_v_by a_v_told a_v_bestRow a_v_ways a_v_lanes a_v_sizes a_v_cells a_v_before v_hasOrder v_hasStart v_placed v_placedMany v_highest v_taped v_pos v_begun v_sort v_value v_fault v_wrongAt v_rightSum v_wrongSum v_allWays v_torn (upZ (upZ o18 (31 + x4).toNat (v_st (31 + x5).toNat)) (31 + x5).toNat (v_st (31 + x4).toNat)) v_st)) ⟨hx, hb, hml, hown, hts⟩ (c_X10_allWrong l D cy sa a_v a_v_now a_v_st a_v_isKept a_v_draft a_v_placedRow a_v_tape a_v_by a_v_told a_v_bestRow a_v_ways a_v_lanes a_v_sizes a_v_cells a_v_before v_hasOrder v_hasStart v_placed v_placedMany v_highest v_taped v_pos v_begun v_sort v_value v_fault v_wrongAt v_rightSum v_wrongSum v_allWays v_torn (upZ (upZ o18 (31 + x4).toNat (v_st (31 + x5).toNat)) (31 + x5).toNat (v_st (31 + x4).toNat)) o24 hc25) (cwV 0 hts gX10_swap_X10_allWrong rfl rfl rfl (by decide +kernel) ⟨Nat.le_of_ble_eq_true rfl, Nat.le_of_ble_eq_true rfl⟩) rfl rfl rfl hE hP hDD rfl hS [0, 1] rfl rfl rfl rfl hl.1 (Nat.le_of_ble_eq_true rfl) ⟨Nat.zero_le _, Nat.zero_le _⟩ rfl dX10_swap_99 rfl (fun H locs hP hS => ?_)
        refine lv_istore (lv' := [(6, .int (zI o24)), (0, .ref a_v), (1, .int (zI x1)), (2, .int (zI x2)), (3, .int (zI x3)), (4, .int (zI x4)), (5, .int (zI x5))]) hx hb dX10_swap_102 hl (by decide) rfl (fun ls hl => ?_)
        refine lv_iload hx hb dX10_swap_104 (lv_at hl 0 rfl) ?_
        refine lv_iload_n hx hb dX10_swap_106 rfl (lv_at hl 3 rfl) ?_
        obtain ⟨hr26, h⟩ := chk_some h
        obtain ⟨hr27, h⟩ := chk_some h
        obtain ⟨o28, hx29, h⟩ := bnd_some h
        have J30 : ∀ (H : Heap) (locs : List Loc) (ls : Array Slot), va_P D vwCl (wd_X10_swap cy a_v a_v_now a_v_st a_v_isKept a_v_draft a_v_placedRow a_v_tape a_v_by a_v_told a_v_bestRow a_v_ways a_v_lanes a_v_sizes a_v_cells a_v_before v_hasOrder v_hasStart v_placed v_placedMany v_highest v_taped v_pos v_begun v_sort v_value v_fault v_wrongAt v_rightSum v_wrongSum v_allWays v_torn (upZ (upZ o18 (31 + x4).toNat (v_st (31 + x5).toNat)) (31 + x5).toNat (v_st (31 + x4).toNat)) v_st) H → va_S A s.heap H locs → lv_has ls 7 [(0, .ref a_v), (1, .int (zI x1)), (2, .int (zI x2)), (4, .int (zI x4)), (5, .int (zI x5)), (6, .int (zI o24))] → W p l e { frames := 5, cells := 0, slots := 0, locals := 111 } s m args below meth c H locs 0 0 QQ (F0 m 122 ls [.int (zI o28)]) := by
          intro H locs ls hP hS hl
          refine lv_istore_n (lv' := [(3, .int (zI o28)), (0, .ref a_v), (1, .int (zI x1)), (2, .int (zI x2)), (4, .int (zI x4)), (5, .int (zI x5)), (6, .int (zI o24))]) hx hb dX10_swap_122 rfl hl (by decide) rfl (fun ls hl => ?_)
          refine lv_iload hx hb dX10_swap_123 (lv_at hl 6 rfl) ?_
          refine lv_iload_n hx hb dX10_swap_125 rfl (lv_at hl 3 rfl) ?_
          obtain ⟨o31, hc32, h⟩ := bnd_some h
          refine cS_i (rest := []) (w2 := (wd_X10_swap cy a_v a_v_now a_v_st a_v_isKept a_v_draft a_v_placedRow a_v_tape a_v_by a_v_told a_v_bestRow a_v_ways a_v_lanes a_v_sizes a_v_cells a_v_before v_hasOrder v_hasStart v_placed v_placedMany v_highest v_taped v_pos v_begun v_sort v_value v_fault v_wrongAt v_rightSum v_wrongSum v_allWays v_torn (upZ (upZ o18 (31 + x4).toNat (v_st (31 + x5).toNat)) (31 + x5).toNat (v_st (31 + x4).toNat)) v_st)) ⟨hx, hb, hml, hown, hts⟩ (c_X10_lesser l D cy sa o24 x2 o31 hc32) (va_cwS 2 hts gX10_swap_X10_lesser rfl rfl rfl (by decide +kernel) ⟨Nat.le_of_ble_eq_true rfl, Nat.le_of_ble_eq_true rfl⟩) hE hP hDD rfl hS [] rfl rfl rfl rfl hl.1 (Nat.le_of_ble_eq_true rfl) ⟨Nat.zero_le _, Nat.zero_le _⟩ rfl dX10_swap_126 rfl (fun H locs hP hS => ?_)
          refine lv_istore_n (lv' := [(2, .int (zI o31)), (3, .int (zI o28)), (0, .ref a_v), (1, .int (zI x1)), (4, .int (zI x4)), (5, .int (zI x5)), (6, .int (zI o24))]) hx hb dX10_swap_129 rfl hl (by decide) rfl (fun ls hl => ?_)
          refine wi_iinc (k := 5) (lv' := [(5, .int (zI (x5 + 1))), (2, .int (zI o31)), (3, .int (zI o28)), (0, .ref a_v), (1, .int (zI x1)), (4, .int (zI x4)), (6, .int (zI o24))]) hx hb dX10_swap_130 hl rfl (by decide) rfl (fun ls hl => ?_)
          refine lv_goto (tgt := 42) hx hb dX10_swap_133 (by decide) ?_
          exact ih (upZ (upZ o18 (31 + x4).toNat (v_st (31 + x5).toNat)) (31 + x5).toNat (v_st (31 + x4).toNat)) x1 o31 o28 x4 (x5 + 1) _ _ _ _ hP hS (lv_sub hl [3, 4, 1, 2, 5, 0] rfl) h K
        clear h
        have h := hx29
        clear hx29
        refine wi_ic_ge (tgt := 121) hx hb dX10_swap_107 (by decide) hr26 hr27 (fun c33 => ?_) (fun c33 => ?_)
        · have h := ite_t c33 h
          refine lv_iload_n hx hb dX10_swap_121 rfl (lv_at hl 4 rfl) ?_
          obtain rfl := Option.some.inj h
          exact J30 _ _ _ hP hS (lv_sub hl [1, 2, 3, 5, 6, 0] rfl)
        · have h := ite_f c33 h
          refine wi_bi hx hb dX10_swap_110 (by decide) ?_
          refine lv_iload hx hb dX10_swap_112 (lv_at hl 5 rfl) ?_
          refine wi_imul hx hb dX10_swap_114 ?_
          refine lv_iload hx hb dX10_swap_115 (lv_at hl 6 rfl) ?_
          refine wi_iadd hx hb dX10_swap_117 ?_
          refine lv_goto (tgt := 122) hx hb dX10_swap_118 (by decide) ?_
          obtain rfl := Option.some.inj h
          exact J30 _ _ _ hP hS (lv_sub hl [1, 2, 3, 5, 6, 0] rfl)
  have L24 : ∀ (fuel : Nat) (v_now : Nat → Int) (x1 : Int) (x2 : Int) (x3 : Int) (x4 : Int) (H : Heap) (locs : List Loc) (ls : Array Slot) (ex : Int × Int × (Nat → Int)), va_P D vwCl (wd_X10_swap cy a_v a_v_now a_v_st a_v_isKept a_v_draft a_v_placedRow a_v_tape a_v_by a_v_told a_v_bestRow a_v_ways a_v_lanes a_v_sizes a_v_cells a_v_before v_hasOrder v_hasStart v_placed v_placedMany v_highest v_taped v_pos v_begun v_sort v_value v_fault v_wrongAt v_rightSum v_wrongSum v_allWays v_torn v_now v_st) H → va_S A s.heap H locs → lv_has ls 7 [(0, .ref a_v), (1, .int (zI x1)), (2, .int (zI x2)), (3, .int (zI x3)), (4, .int (zI x4))] → f_M_swap_L24 fuel v_now v_st x2 x3 x4 = some ex → (∀ (H : Heap) (locs : List Loc) (ls : Array Slot), va_P D vwCl (wd_X10_swap cy a_v a_v_now a_v_st a_v_isKept a_v_draft a_v_placedRow a_v_tape a_v_by a_v_told a_v_bestRow a_v_ways a_v_lanes a_v_sizes a_v_cells a_v_before v_hasOrder v_hasStart v_placed v_placedMany v_highest v_taped v_pos v_begun v_sort v_value v_fault v_wrongAt v_rightSum v_wrongSum v_allWays v_torn ex.2.2 v_st) H → va_S A s.heap H locs → lv_has ls 7 [(1, .int (zI x1)), (2, .int (zI ex.1)), (3, .int (zI ex.2.1))] → W p l e { frames := 5, cells := 0, slots := 0, locals := 111 } s m args below meth c H locs 0 0 QQ (F0 m 142 ls [])) → W p l e { frames := 5, cells := 0, slots := 0, locals := 111 } s m args below meth c H locs 0 0 QQ (F0 m 24 ls []) := by
    intro fuel
    induction fuel with
    | zero => intro _ _ _ _ _ H locs ls ex hP hS hl h K; cases h
    | succ fuel ih =>
      intro v_now x1 x2 x3 x4 H locs ls ex hP hS hl h K
      refine lv_iload hx hb dX10_swap_24 (lv_at hl 4 rfl) ?_
      refine lv_aload_n hx hb dX10_swap_26 rfl (lv_at hl 0 rfl) ?_
      refine wi_get (v := .ref a_v_st) hx hb hts iX10 hown hE hP 0 rfl rfl 0 (by decide) q0 rfl dX10_swap_27 ?_
      refine wi_bi hx hb dX10_swap_30 (by decide) ?_
      refine wi_iald hx hb hE hP 2 rfl (by decide) (by decide) dX10_swap_32 ?_
      obtain ⟨hr10, h⟩ := chk_some h
      obtain ⟨hr11, h⟩ := chk_some h
      refine wi_ic_ge (tgt := 142) hx hb dX10_swap_33 (by decide) hr10 hr11 (fun c13 => ?_) (fun c13 => ?_)
      · have h := ite_t c13 h
        obtain rfl := Option.some.inj h
        exact K _ _ _ hP hS (lv_sub hl [1, 2, 3] rfl)
      · have h := ite_f c13 h
        refine lv_iload hx hb dX10_swap_36 (lv_at hl 4 rfl) ?_
        refine wi_ic hx hb dX10_swap_38 ?_
        refine wi_iadd hx hb dX10_swap_39 ?_
        refine lv_istore (lv' := [(5, .int (zI (x4 + 1))), (0, .ref a_v), (1, .int (zI x1)), (2, .int (zI x2)), (3, .int (zI x3)), (4, .int (zI x4))]) hx hb dX10_swap_40 hl (by decide) rfl (fun ls hl => ?_)
        obtain ⟨o34, hx35, h⟩ := bnd_some h
        refine L42 5000 v_now x1 x2 x3 x4 (x4 + 1) _ _ _ _ hP hS (lv_sub hl [1, 2, 3, 4, 5, 0] rfl) hx35 ?_
        clear hx35
        intro H locs ls hP hS hl
        refine wi_iinc (k := 4) (lv' := [(4, .int (zI (x4 + 1))), (0, .ref a_v), (1, .int (zI x1)), (2, .int (zI o34.1)), (3, .int (zI o34.2.1))]) hx hb dX10_swap_136 hl rfl (by decide) rfl (fun ls hl => ?_)
        refine lv_goto (tgt := 24) hx hb dX10_swap_139 (by decide) ?_
        exact ih o34.2.2 x1 o34.1 o34.2.1 (x4 + 1) _ _ _ _ hP hS (lv_sub hl [1, 2, 3, 4, 0] rfl) h K
  refine lv_iload_n hx hb dX10_swap_0 rfl (lv_at hl 1 rfl) ?_
  obtain ⟨o1, hc2, h⟩ := bnd_some h
  refine cS_i (rest := []) (w2 := (wd_X10_swap cy a_v a_v_now a_v_st a_v_isKept a_v_draft a_v_placedRow a_v_tape a_v_by a_v_told a_v_bestRow a_v_ways a_v_lanes a_v_sizes a_v_cells a_v_before v_hasOrder v_hasStart v_placed v_placedMany v_highest v_taped v_pos v_begun v_sort v_value v_fault v_wrongAt v_rightSum v_wrongSum v_allWays v_torn v_now v_st)) ⟨hx, hb, hml, hown, hts⟩ (c_X10_isPart l D cy sa x1 o1 hc2) (va_cwS 1 hts gX10_swap_X10_isPart rfl rfl rfl (by decide +kernel) ⟨Nat.le_of_ble_eq_true rfl, Nat.le_of_ble_eq_true rfl⟩) hE hP hDD rfl hS [] rfl rfl rfl rfl hl.1 (Nat.le_of_ble_eq_true rfl) ⟨Nat.zero_le _, Nat.zero_le _⟩ rfl dX10_swap_1 rfl (fun H locs hP hS => ?_)
  obtain ⟨hr3, h⟩ := chk_some h
  refine wi_if_ne (tgt := 9) hx hb dX10_swap_4 (by decide) hr3 (fun c5 => ?_) (fun c5 => ?_)
  · have h := ite_f c5 h
    refine lv_aload_n hx hb dX10_swap_9 rfl (lv_at hl 0 rfl) ?_
    obtain ⟨o6, hc7, h⟩ := bnd_some h
    refine cV_v (rest := []) (w2 := (wd_X10_swap cy a_v a_v_now a_v_st a_v_isKept a_v_draft a_v_placedRow a_v_tape a_v_by a_v_told a_v_bestRow a_v_ways a_v_lanes a_v_sizes a_v_cells a_v_before v_hasOrder v_hasStart v_placed v_placedMany v_highest v_taped v_pos v_begun v_sort v_value v_fault v_wrongAt v_rightSum v_wrongSum v_allWays v_torn o6 v_st)) ⟨hx, hb, hml, hown, hts⟩ (c_X10_fetches l D cy sa a_v a_v_now a_v_st a_v_isKept a_v_draft a_v_placedRow a_v_tape a_v_by a_v_told a_v_bestRow a_v_ways a_v_lanes a_v_sizes a_v_cells a_v_before v_hasOrder v_hasStart v_placed v_placedMany v_highest v_taped v_pos v_begun v_sort v_value v_fault v_wrongAt v_rightSum v_wrongSum v_allWays v_torn v_now v_st o6 hc7) (cwV 0 hts gX10_swap_X10_fetches rfl rfl rfl (by decide +kernel) ⟨Nat.le_of_ble_eq_true rfl, Nat.le_of_ble_eq_true rfl⟩) rfl rfl rfl hE hP hDD rfl hS [0, 1, 2] rfl rfl rfl rfl hl.1 (Nat.le_of_ble_eq_true rfl) ⟨Nat.zero_le _, Nat.zero_le _⟩ rfl dX10_swap_10 rfl (fun H locs hP hS => ?_)
    refine lv_aload_n hx hb dX10_swap_13 rfl (lv_at hl 0 rfl) ?_
    obtain ⟨o8, hc9, h⟩ := bnd_some h
    refine cV_i (rest := []) (w2 := (wd_X10_swap cy a_v a_v_now a_v_st a_v_isKept a_v_draft a_v_placedRow a_v_tape a_v_by a_v_told a_v_bestRow a_v_ways a_v_lanes a_v_sizes a_v_cells a_v_before v_hasOrder v_hasStart v_placed v_placedMany v_highest v_taped v_pos v_begun v_sort v_value v_fault v_wrongAt v_rightSum v_wrongSum v_allWays v_torn o6 v_st)) ⟨hx, hb, hml, hown, hts⟩ (c_X10_allWrong l D cy sa a_v a_v_now a_v_st a_v_isKept a_v_draft a_v_placedRow a_v_tape a_v_by a_v_told a_v_bestRow a_v_ways a_v_lanes a_v_sizes a_v_cells a_v_before v_hasOrder v_hasStart v_placed v_placedMany v_highest v_taped v_pos v_begun v_sort v_value v_fault v_wrongAt v_rightSum v_wrongSum v_allWays v_torn o6 o8 hc9) (cwV 0 hts gX10_swap_X10_allWrong rfl rfl rfl (by decide +kernel) ⟨Nat.le_of_ble_eq_true rfl, Nat.le_of_ble_eq_true rfl⟩) rfl rfl rfl hE hP hDD rfl hS [0, 1] rfl rfl rfl rfl hl.1 (Nat.le_of_ble_eq_true rfl) ⟨Nat.zero_le _, Nat.zero_le _⟩ rfl dX10_swap_14 rfl (fun H locs hP hS => ?_)
    refine lv_istore_n (lv' := [(2, .int (zI o8)), (0, .ref a_v), (1, .int (zI x1))]) hx hb dX10_swap_17 rfl hl (by decide) rfl (fun ls hl => ?_)
    refine wi_bi hx hb dX10_swap_18 (by decide) ?_
    refine lv_istore_n (lv' := [(3, .int (zI (-4))), (2, .int (zI o8)), (0, .ref a_v), (1, .int (zI x1))]) hx hb dX10_swap_20 rfl hl (by decide) rfl (fun ls hl => ?_)
    refine wi_ic hx hb dX10_swap_21 ?_
    refine lv_istore (lv' := [(4, .int (zI 0)), (3, .int (zI (-4))), (2, .int (zI o8)), (0, .ref a_v), (1, .int (zI x1))]) hx hb dX10_swap_22 hl (by decide) rfl (fun ls hl => ?_)
    obtain ⟨o36, hx37, h⟩ := bnd_some h
    refine L24 5000 o6 x1 o8 (-4) 0 _ _ _ _ hP hS (lv_sub hl [3, 4, 2, 1, 0] rfl) hx37 ?_
    clear hx37
    intro H locs ls hP hS hl
    refine lv_iload_n hx hb dX10_swap_142 rfl (lv_at hl 2 rfl) ?_
    refine wi_bi hx hb dX10_swap_143 (by decide) ?_
    obtain ⟨hr38, h⟩ := chk_some h
    refine wi_ic_ne (tgt := 153) hx hb dX10_swap_145 (by decide) hr38 (by decide) (fun c40 => ?_) (fun c40 => ?_)
    · have h := ite_f c40 h
      refine lv_iload_n hx hb dX10_swap_153 rfl (lv_at hl 0 rfl) ?_
      obtain ⟨hr41, h⟩ := chk_some h
      refine wi_if_ne (tgt := 161) hx hb dX10_swap_154 (by decide) hr41 (fun c43 => ?_) (fun c43 => ?_)
      · have h := ite_f c43 h
        refine lv_iload_n hx hb dX10_swap_161 rfl (lv_at hl 1 rfl) ?_
        obtain rfl := Option.some.inj h
        exact KR _ _ _ _ hP hS dX10_swap_162
      · have h := ite_t c43 h
        refine lv_iload_n hx hb dX10_swap_157 rfl (lv_at hl 2 rfl) ?_
        refine lv_goto (tgt := 162) hx hb dX10_swap_158 (by decide) ?_
        obtain rfl := Option.some.inj h
        exact KR _ _ _ _ hP hS dX10_swap_162
    · have h := ite_t c40 h
      refine wi_bi hx hb dX10_swap_148 (by decide) ?_
      refine lv_goto (tgt := 162) hx hb dX10_swap_150 (by decide) ?_
      obtain rfl := Option.some.inj h
      exact KR _ _ _ _ hP hS dX10_swap_162
  · have h := ite_t c5 h
    refine wi_ic hx hb dX10_swap_7 ?_
    obtain rfl := Option.some.inj h
    exact KR _ _ _ _ hP hS dX10_swap_8
