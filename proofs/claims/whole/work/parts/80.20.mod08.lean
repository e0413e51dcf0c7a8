abbrev wd_X10_longer (cy : Nat → ClassId) (a_v : Nat) (a_v_now : Nat) (a_v_st : Nat) (a_v_isKept : Nat) (a_v_draft : Nat) (a_v_placedRow : Nat) (a_v_tape : Nat) (a_v_by : Nat) (a_v_told : Nat) (a_v_bestRow : Nat) (a_v_ways : Nat) (a_v_lanes : Nat) (a_v_sizes : Nat) (a_v_cells : Nat) (a_v_before : Nat) (v_hasOrder : Int) (v_hasStart : Int) (v_placed : Int) (v_placedMany : Int) (v_highest : Int) (v_taped : Int) (v_pos : Int) (v_begun : Int) (v_sort : Int) (v_value : Int) (v_fault : Int) (v_wrongAt : Int) (v_rightSum : Int) (v_wrongSum : Int) (v_allWays : Int) (v_torn : Int) (v_now : Nat → Int) (v_st : Nat → Int) : va_W := [(a_v, .inr (10, [.ref a_v_st, .ref a_v_now, .ref a_v_isKept, .ref a_v_draft, .int (zI v_hasOrder), .int (zI v_hasStart), .int (zI v_placed), .int (zI v_placedMany), .ref a_v_placedRow, .int (zI v_highest), .ref a_v_tape, .int (zI v_taped), .int (zI v_pos), .int (zI v_begun), .int (zI v_sort), .int (zI v_value), .int (zI v_fault), .int (zI v_wrongAt), .ref a_v_by, .ref a_v_told, .ref a_v_bestRow, .long (zL v_rightSum), .long (zL v_wrongSum), .long (zL v_allWays), .ref a_v_ways, .ref a_v_lanes, .ref a_v_sizes, .ref a_v_cells, .int (zI v_torn), .ref a_v_before])), (a_v_now, .inl (cy 0, 56, .inl (fun j => zI (v_now j)))), (a_v_st, .inl (cy 0, 168, .inl (fun j => zI (v_st j))))]
set_option maxHeartbeats 4000000 in
set_option maxRecDepth 100000 in
theorem c_X10_longer (l : Launch) (D : va_G) (cy : Nat → ClassId) (sa : Nat → Nat) (a_v : Nat) (a_v_now : Nat) (a_v_st : Nat) (a_v_isKept : Nat) (a_v_draft : Nat) (a_v_placedRow : Nat) (a_v_tape : Nat) (a_v_by : Nat) (a_v_told : Nat) (a_v_bestRow : Nat) (a_v_ways : Nat) (a_v_lanes : Nat) (a_v_sizes : Nat) (a_v_cells : Nat) (a_v_before : Nat) (v_hasOrder : Int) (v_hasStart : Int) (v_placed : Int) (v_placedMany : Int) (v_highest : Int) (v_taped : Int) (v_pos : Int) (v_begun : Int) (v_sort : Int) (v_value : Int) (v_fault : Int) (v_wrongAt : Int) (v_rightSum : Int) (v_wrongSum : Int) (v_allWays : Int) (v_torn : Int) (v_now : Nat → Int) (v_st : Nat → Int) (x1 : Int) (o : Int × (Nat → Int)) (h : f_M_longer v_now v_st x1 = some o) : CtI l yX10_longer wsX10_longer ({ frames := 3, cells := 0, slots := 0, locals := 66 }) D cy sa [.ref a_v, .int (zI x1)] (wd_X10_longer cy a_v a_v_now a_v_st a_v_isKept a_v_draft a_v_placedRow a_v_tape a_v_by a_v_told a_v_bestRow a_v_ways a_v_lanes a_v_sizes a_v_cells a_v_before v_hasOrder v_hasStart v_placed v_placedMany v_highest v_taped v_pos v_begun v_sort v_value v_fault v_wrongAt v_rightSum v_wrongSum v_allWays v_torn v_now v_st) (wd_X10_longer cy a_v a_v_now a_v_st a_v_isKept a_v_draft a_v_placedRow a_v_tape a_v_by a_v_told a_v_bestRow a_v_ways a_v_lanes a_v_sizes a_v_cells a_v_before v_hasOrder v_hasStart v_placed v_placedMany v_highest v_taped v_pos v_begun v_sort v_value v_fault v_wrongAt v_rightSum v_wrongSum v_allWays v_torn o.2 v_st) o.1 := by
  refine ct_I (cc := cX10_longer) (maxL := 3) (plainFor_of_name (by decide)) rfl (Nat.le_of_ble_eq_true rfl) ?_
  intro p e s m below meth c A args QQ hx hb hml hown hts hE hDD hP KR ls hl
  have hl : lv_has ls 3 [(0, .ref a_v), (1, .int (zI x1))] := hl
  have hDD : DD A [a_v, a_v_now, a_v_st] := hDD
  have hS : va_S A s.heap s.heap [] := va_S.rf
  have q0 := hts (.fieldLink RX10 7 "HatHoursModel" "st" "[I") (List.mem_of_getElem? (i := 1) rfl)
  have iX10 : ∀ w ∈ u_ws RX10 TX10 30, w ∈ wsX10_longer := in_slice 35 30 rfl
  have L26 : ∀ (fuel : Nat) (v_now : Nat → Int) (x1 : Int) (x2 : Int) (H : Heap) (locs : List Loc) (ls : Array Slot), va_P D vwCl (wd_X10_longer cy a_v a_v_now a_v_st a_v_isKept a_v_draft a_v_placedRow a_v_tape a_v_by a_v_told a_v_bestRow a_v_ways a_v_lanes a_v_sizes a_v_cells a_v_before v_hasOrder v_hasStart v_placed v_placedMany v_highest v_taped v_pos v_begun v_sort v_value v_fault v_wrongAt v_rightSum v_wrongSum v_allWays v_torn v_now v_st) H → va_S A s.heap H locs → lv_has ls 3 [(0, .ref a_v), (1, .int (zI x1)), (2, .int (zI x2))] → f_M_longer_L26 fuel v_now v_st x1 x2 = some o → W p l e { frames := 3, cells := 0, slots := 0, locals := 66 } s m args below meth c H locs 0 0 QQ (F0 m 26 ls []) := by
    intro fuel
    induction fuel with
    | zero => intro _ _ _ H locs ls hP hS hl h; cases h
    | succ fuel ih =>
      intro v_now x1 x2 H locs ls hP hS hl h
      refine lv_iload_n hx hb dX10_longer_26 rfl (lv_at hl 2 rfl) ?_
      refine wi_bi hx hb dX10_longer_27 (by decide) ?_
      obtain ⟨hr9, h⟩ := chk_some h
      refine wi_ic_gt (tgt := 73) hx hb dX10_longer_29 (by decide) hr9 (by decide) (fun c11 => ?_) (fun c11 => ?_)
      · have h := ite_t c11 h
        refine wi_bi hx hb dX10_longer_73 (by decide) ?_
        obtain rfl := Option.some.inj h
        exact KR _ _ _ _ hP hS dX10_longer_75
      · have h := ite_f c11 h
        refine lv_aload_n hx hb dX10_longer_32 rfl (lv_at hl 0 rfl) ?_
        refine lv_iload_n hx hb dX10_longer_33 rfl (lv_at hl 1 rfl) ?_
        refine wi_ic hx hb dX10_longer_34 ?_
        refine lv_iload_n hx hb dX10_longer_35 rfl (lv_at hl 2 rfl) ?_
        obtain ⟨o12, hc13, h⟩ := bnd_some h
        refine cV_v (rest := []) (w2 := (wd_X10_longer cy a_v a_v_now a_v_st a_v_isKept a_v_draft a_v_placedRow a_v_tape a_v_by a_v_told a_v_bestRow a_v_ways a_v_lanes a_v_sizes a_v_cells a_v_before v_hasOrder v_hasStart v_placed v_placedMany v_highest v_taped v_pos v_begun v_sort v_value v_fault v_wrongAt v_rightSum v_wrongSum v_allWays v_torn o12 v_st)) ⟨hx, hb, hml, hown, hts⟩ (c_X10_becomesOf l D cy sa a_v a_v_now a_v_st a_v_isKept a_v_draft a_v_placedRow a_v_tape a_v_by a_v_told a_v_bestRow a_v_ways a_v_lanes a_v_sizes a_v_cells a_v_before v_hasOrder v_hasStart v_placed v_placedMany v_highest v_taped v_pos v_begun v_sort v_value v_fault v_wrongAt v_rightSum v_wrongSum v_allWays v_torn v_now x1 1 x2 o12 hc13) (cwV 3 hts gX10_longer_X10_becomesOf rfl rfl rfl (by decide +kernel) ⟨Nat.le_of_ble_eq_true rfl, Nat.le_of_ble_eq_true rfl⟩) rfl rfl rfl hE hP hDD rfl hS [0, 1] rfl rfl rfl rfl hl.1 (Nat.le_of_ble_eq_true rfl) ⟨Nat.zero_le _, Nat.zero_le _⟩ rfl dX10_longer_36 rfl (fun H locs hP hS => ?_)
        refine lv_aload_n hx hb dX10_longer_39 rfl (lv_at hl 0 rfl) ?_
        refine lv_iload_n hx hb dX10_longer_40 rfl (lv_at hl 1 rfl) ?_
        obtain ⟨o14, hc15, h⟩ := bnd_some h
        refine cV_i (rest := []) (w2 := (wd_X10_longer cy a_v a_v_now a_v_st a_v_isKept a_v_draft a_v_placedRow a_v_tape a_v_by a_v_told a_v_bestRow a_v_ways a_v_lanes a_v_sizes a_v_cells a_v_before v_hasOrder v_hasStart v_placed v_placedMany v_highest v_taped v_pos v_begun v_sort v_value v_fault v_wrongAt v_rightSum v_wrongSum v_allWays v_torn o12 v_st)) ⟨hx, hb, hml, hown, hts⟩ (c_X10_ownHour l D cy sa a_v a_v_now a_v_st a_v_isKept a_v_draft a_v_placedRow a_v_tape a_v_by a_v_told a_v_bestRow a_v_ways a_v_lanes a_v_sizes a_v_cells a_v_before v_hasOrder v_hasStart v_placed v_placedMany v_highest v_taped v_pos v_begun v_sort v_value v_fault v_wrongAt v_rightSum v_wrongSum v_allWays v_torn o12 x1 o14 hc15) (cwV 1 hts gX10_longer_X10_ownHour rfl rfl rfl (by decide +kernel) ⟨Nat.le_of_ble_eq_true rfl, Nat.le_of_ble_eq_true rfl⟩) rfl rfl rfl hE hP hDD rfl hS [0, 1] rfl rfl rfl rfl hl.1 (Nat.le_of_ble_eq_true rfl) ⟨Nat.zero_le _, Nat.zero_le _⟩ rfl dX10_longer_41 rfl (fun H locs hP hS => ?_)
        refine lv_aload_n hx hb dX10_longer_44 rfl (lv_at hl 0 rfl) ?_
        refine lv_iload_n hx hb dX10_longer_45 rfl (lv_at hl 1 rfl) ?_
        refine wi_ic hx hb dX10_longer_46 ?_
        obtain ⟨o16, hc17, h⟩ := bnd_some h
        refine cV_i (rest := [.int (zI o14)]) (w2 := (wd_X10_longer cy a_v a_v_now a_v_st a_v_isKept a_v_draft a_v_placedRow a_v_tape a_v_by a_v_told a_v_bestRow a_v_ways a_v_lanes a_v_sizes a_v_cells a_v_before v_hasOrder v_hasStart v_placed v_placedMany v_highest v_taped v_pos v_begun v_sort v_value v_fault v_wrongAt v_rightSum v_wrongSum v_allWays v_torn o12 v_st)) ⟨hx, hb, hml, hown, hts⟩ (c_X10_of l D cy sa a_v a_v_now a_v_st a_v_isKept a_v_draft a_v_placedRow a_v_tape a_v_by a_v_told a_v_bestRow a_v_ways a_v_lanes a_v_sizes a_v_cells a_v_before v_hasOrder v_hasStart v_placed v_placedMany v_highest v_taped v_pos v_begun v_sort v_value v_fault v_wrongAt v_rightSum v_wrongSum v_allWays v_torn o12 x1 2 o16 hc17) (cwV 2 hts gX10_longer_X10_of rfl rfl rfl (by decide +kernel) ⟨Nat.le_of_ble_eq_true rfl, Nat.le_of_ble_eq_true rfl⟩) rfl rfl rfl hE hP hDD rfl hS [0, 1] rfl rfl rfl rfl hl.1 (Nat.le_of_ble_eq_true rfl) ⟨Nat.zero_le _, Nat.zero_le _⟩ rfl dX10_longer_47 rfl (fun H locs hP hS => ?_)
        obtain ⟨hr18, h⟩ := chk_some h
        obtain ⟨hr19, h⟩ := chk_some h
        refine wi_ic_ne (tgt := 67) hx hb dX10_longer_50 (by decide) hr18 hr19 (fun c21 => ?_) (fun c21 => ?_)
        · have h := ite_f c21 h
          refine wi_iinc (k := 2) (lv' := [(2, .int (zI (x2 + 1))), (0, .ref a_v), (1, .int (zI x1))]) hx hb dX10_longer_67 hl rfl (by decide) rfl (fun ls hl => ?_)
          refine lv_goto (tgt := 26) hx hb dX10_longer_70 (by decide) ?_
          exact ih o12 x1 (x2 + 1) _ _ _ hP hS (lv_sub hl [1, 2, 0] rfl) h
        · have h := ite_t c21 h
          refine lv_iload_n hx hb dX10_longer_53 rfl (lv_at hl 2 rfl) ?_
          refine lv_aload_n hx hb dX10_longer_54 rfl (lv_at hl 0 rfl) ?_
          refine wi_get (v := .ref a_v_st) hx hb hts iX10 hown hE hP 0 rfl rfl 0 (by decide) q0 rfl dX10_longer_55 ?_
          refine wi_bi hx hb dX10_longer_58 (by decide) ?_
          refine lv_iload_n hx hb dX10_longer_60 rfl (lv_at hl 1 rfl) ?_
          refine wi_imul hx hb dX10_longer_61 ?_
          refine wi_ic hx hb dX10_longer_62 ?_
          refine wi_iadd hx hb dX10_longer_63 ?_
          obtain ⟨hk22, h⟩ := chk_some h
          refine wi_iald hx hb hE hP 2 rfl (by decide) hk22 dX10_longer_64 ?_
          refine wi_isub hx hb dX10_longer_65 ?_
          obtain rfl := Option.some.inj h
          exact KR _ _ _ _ hP hS dX10_longer_66
  refine lv_aload_n hx hb dX10_longer_0 rfl (lv_at hl 0 rfl) ?_
  refine lv_iload_n hx hb dX10_longer_1 rfl (lv_at hl 1 rfl) ?_
  obtain ⟨o1, hc2, h⟩ := bnd_some h
  refine cV_i (rest := []) (w2 := (wd_X10_longer cy a_v a_v_now a_v_st a_v_isKept a_v_draft a_v_placedRow a_v_tape a_v_by a_v_told a_v_bestRow a_v_ways a_v_lanes a_v_sizes a_v_cells a_v_before v_hasOrder v_hasStart v_placed v_placedMany v_highest v_taped v_pos v_begun v_sort v_value v_fault v_wrongAt v_rightSum v_wrongSum v_allWays v_torn v_now v_st)) ⟨hx, hb, hml, hown, hts⟩ (c_X10_isBox l D cy sa a_v a_v_st a_v_now a_v_isKept a_v_draft a_v_placedRow a_v_tape a_v_by a_v_told a_v_bestRow a_v_ways a_v_lanes a_v_sizes a_v_cells a_v_before v_hasOrder v_hasStart v_placed v_placedMany v_highest v_taped v_pos v_begun v_sort v_value v_fault v_wrongAt v_rightSum v_wrongSum v_allWays v_torn v_st x1 o1 hc2) (cwV 1 hts gX10_longer_X10_isBox rfl rfl rfl (by decide +kernel) ⟨Nat.le_of_ble_eq_true rfl, Nat.le_of_ble_eq_true rfl⟩) rfl rfl rfl hE hP hDD rfl hS [0, 2] rfl rfl rfl rfl hl.1 (Nat.le_of_ble_eq_true rfl) ⟨Nat.zero_le _, Nat.zero_le _⟩ rfl dX10_longer_2 rfl (fun H locs hP hS => ?_)
  obtain ⟨hr3, h⟩ := chk_some h
  refine wi_if_ne (tgt := 10) hx hb dX10_longer_5 (by decide) hr3 (fun c5 => ?_) (fun c5 => ?_)
  · have h := ite_f c5 h
    refine lv_aload_n hx hb dX10_longer_10 rfl (lv_at hl 0 rfl) ?_
    obtain ⟨o6, hc7, h⟩ := bnd_some h
    refine cV_v (rest := []) (w2 := (wd_X10_longer cy a_v a_v_now a_v_st a_v_isKept a_v_draft a_v_placedRow a_v_tape a_v_by a_v_told a_v_bestRow a_v_ways a_v_lanes a_v_sizes a_v_cells a_v_before v_hasOrder v_hasStart v_placed v_placedMany v_highest v_taped v_pos v_begun v_sort v_value v_fault v_wrongAt v_rightSum v_wrongSum v_allWays v_torn o6 v_st)) ⟨hx, hb, hml, hown, hts⟩ (c_X10_fetches l D cy sa a_v a_v_now a_v_st a_v_isKept a_v_draft a_v_placedRow a_v_tape a_v_by a_v_told a_v_bestRow a_v_ways a_v_lanes a_v_sizes a_v_cells a_v_before v_hasOrder v_hasStart v_placed v_placedMany v_highest v_taped v_pos v_begun v_sort v_value v_fault v_wrongAt v_rightSum v_wrongSum v_allWays v_torn v_now v_st o6 hc7) (cwV 0 hts gX10_longer_X10_fetches rfl rfl rfl (by decide +kernel) ⟨Nat.le_of_ble_eq_true rfl, Nat.le_of_ble_eq_true rfl⟩) rfl rfl rfl hE hP hDD rfl hS [0, 1, 2] rfl rfl rfl rfl hl.1 (Nat.le_of_ble_eq_true rfl) ⟨Nat.zero_le _, Nat.zero_le _⟩ rfl dX10_longer_11 rfl (fun H locs hP hS => ?_)
    refine lv_aload_n hx hb dX10_longer_14 rfl (lv_at hl 0 rfl) ?_
    refine wi_get (v := .ref a_v_st) hx hb hts iX10 hown hE hP 0 rfl rfl 0 (by decide) q0 rfl dX10_longer_15 ?_
    refine wi_bi hx hb dX10_longer_18 (by decide) ?_
    refine lv_iload_n hx hb dX10_longer_20 rfl (lv_at hl 1 rfl) ?_
    refine wi_imul hx hb dX10_longer_21 ?_
    refine wi_ic hx hb dX10_longer_22 ?_
    refine wi_iadd hx hb dX10_longer_23 ?_
    obtain ⟨hk8, h⟩ := chk_some h
    refine wi_iald hx hb hE hP 2 rfl (by decide) hk8 dX10_longer_24 ?_
    refine lv_istore_n (lv' := [(2, .int (zI (v_st ((6 * x1) + 1).toNat))), (0, .ref a_v), (1, .int (zI x1))]) hx hb dX10_longer_25 rfl hl (by decide) rfl (fun ls hl => ?_)
    exact L26 5000 o6 x1 (v_st ((6 * x1) + 1).toNat) _ _ _ hP hS (lv_sub hl [1, 2, 0] rfl) h
  · have h := ite_t c5 h
    refine wi_ic hx hb dX10_longer_8 ?_
    obtain rfl := Option.some.inj h
    exact KR _ _ _ _ hP hS dX10_longer_9
abbrev wd_X10_when (cy : Nat → ClassId) (a_v : Nat) (a_v_by : Nat) (a_v_now : Nat) (a_v_st : Nat) (a_v_told : Nat) (a_v_isKept : Nat) (a_v_draft : Nat) (a_v_placedRow : Nat) (a_v_tape : Nat) (a_v_bestRow : Nat) (a_v_ways : Nat) (a_v_lanes : Nat) (a_v_sizes : Nat) (a_v_cells : Nat) (a_v_before : Nat) (v_hasOrder : Int) (v_hasStart : Int) (v_placed : Int) (v_placedMany : Int) (v_highest : Int) (v_taped : Int) (v_pos : Int) (v_begun : Int) (v_sort : Int) (v_value : Int) (v_fault : Int) (v_wrongAt : Int) (v_rightSum : Int) (v_wrongSum : Int) (v_allWays : Int) (v_torn : Int) (v_by : Nat → Int) (v_now : Nat → Int) (v_st : Nat → Int) (v_told : Nat → Int) : va_W := [(a_v, .inr (10, [.ref a_v_st, .ref a_v_now, .ref a_v_isKept, .ref a_v_draft, .int (zI v_hasOrder), .int (zI v_hasStart), .int (zI v_placed), .int (zI v_placedMany), .ref a_v_placedRow, .int (zI v_highest), .ref a_v_tape, .int (zI v_taped), .int (zI v_pos), .int (zI v_begun), .int (zI v_sort), .int (zI v_value), .int (zI v_fault), .int (zI v_wrongAt), .ref a_v_by, .ref a_v_told, .ref a_v_bestRow, .long (zL v_rightSum), .long (zL v_wrongSum), .long (zL v_allWays), .ref a_v_ways, .ref a_v_lanes, .ref a_v_sizes, .ref a_v_cells, .int (zI v_torn), .ref a_v_before])), (a_v_by, .inl (cy 0, 120, .inl (fun j => zI (v_by j)))), (a_v_now, .inl (cy 0, 56, .inl (fun j => zI (v_now j)))), (a_v_st, .inl (cy 0, 168, .inl (fun j => zI (v_st j)))), (a_v_told, .inl (cy 0, 120, .inl (fun j => zI (v_told j))))]
set_option maxHeartbeats 4000000 in
set_option maxRecDepth 100000 in
theorem c_X10_when (l : Launch) (D : va_G) (cy : Nat → ClassId) (sa : Nat → Nat) (a_v : Nat) (a_v_by : Nat) (a_v_now : Nat) (a_v_st : Nat) (a_v_told : Nat) (a_v_isKept : Nat) (a_v_draft : Nat) (a_v_placedRow : Nat) (a_v_tape : Nat) (a_v_bestRow : Nat) (a_v_ways : Nat) (a_v_lanes : Nat) (a_v_sizes : Nat) (a_v_cells : Nat) (a_v_before : Nat) (v_hasOrder : Int) (v_hasStart : Int) (v_placed : Int) (v_placedMany : Int) (v_highest : Int) (v_taped : Int) (v_pos : Int) (v_begun : Int) (v_sort : Int) (v_value : Int) (v_fault : Int) (v_wrongAt : Int) (v_rightSum : Int) (v_wrongSum : Int) (v_allWays : Int) (v_torn : Int) (v_by : Nat → Int) (v_now : Nat → Int) (v_st : Nat → Int) (v_told : Nat → Int) (x1 : Int) (x2 : Int) (x3 : Int) (o : Int × (Nat → Int) × (Nat → Int) × (Nat → Int)) (h : f_M_when v_by v_now v_st v_told x1 x2 x3 = some o) : CtI l yX10_when wsX10_when ({ frames := 4, cells := 0, slots := 0, locals := 91 }) D cy sa [.ref a_v, .int (zI x1), .int (zI x2), .int (zI x3)] (wd_X10_when cy a_v a_v_by a_v_now a_v_st a_v_told a_v_isKept a_v_draft a_v_placedRow a_v_tape a_v_bestRow a_v_ways a_v_lanes a_v_sizes a_v_cells a_v_before v_hasOrder v_hasStart v_placed v_placedMany v_highest v_taped v_pos v_begun v_sort v_value v_fault v_wrongAt v_rightSum v_wrongSum v_allWays v_torn v_by v_now v_st v_told) (wd_X10_when cy a_v a_v_by a_v_now a_v_st a_v_told a_v_isKept a_v_draft a_v_placedRow a_v_tape a_v_bestRow a_v_ways a_v_lanes a_v_sizes a_v_cells a_v_before v_hasOrder v_hasStart v_placed v_placedMany v_highest v_taped v_pos v_begun v_sort v_value v_fault v_wrongAt v_rightSum v_wrongSum v_allWays v_torn o.2.1 o.2.2.1 v_st o.2.2.2) o.1 := by
  refine ct_I (cc := cX10_when) (maxL := 5) (plainFor_of_name (by decide)) rfl (Nat.le_of_ble_eq_true rfl) ?_
  intro p e s m below meth c A args QQ hx hb hml hown hts hE hDD hP KR ls hl
  have hl : lv_has ls 5 [(0, .ref a_v), (1, .int (zI x1)), (2, .int (zI x2)), (3, .int (zI x3))] := hl
  have hDD : DD A [a_v, a_v_by, a_v_now, a_v_st, a_v_told] := hDD
  have hS : va_S A s.heap s.heap [] := va_S.rf
  have q0 := hts (.fieldLink RX10 32 "HatHoursModel" "told" "[I") (List.mem_of_getElem? (i := 1) rfl)
  have iX10 : ∀ w ∈ u_ws RX10 TX10 30, w ∈ wsX10_when := in_slice 52 30 rfl
  have L31 : ∀ (fuel : Nat) (v_by : Nat → Int) (v_now : Nat → Int) (v_told : Nat → Int) (x1 : Int) (x2 : Int) (x3 : Int) (x4 : Int) (H : Heap) (locs : List Loc) (ls : Array Slot), va_P D vwCl (wd_X10_when cy a_v a_v_by a_v_now a_v_st a_v_told a_v_isKept a_v_draft a_v_placedRow a_v_tape a_v_bestRow a_v_ways a_v_lanes a_v_sizes a_v_cells a_v_before v_hasOrder v_hasStart v_placed v_placedMany v_highest v_taped v_pos v_begun v_sort v_value v_fault v_wrongAt v_rightSum v_wrongSum v_allWays v_torn v_by v_now v_st v_told) H → va_S A s.heap H locs → lv_has ls 5 [(0, .ref a_v), (1, .int (zI x1)), (2, .int (zI x2)), (3, .int (zI x3)), (4, .int (zI x4))] → f_M_when_L31 fuel v_by v_now v_st v_told x1 x2 x3 x4 = some o → W p l e { frames := 4, cells := 0, slots := 0, locals := 91 } s m args below meth c H locs 0 0 QQ (F0 m 31 ls []) := by
    intro fuel
    induction fuel with
    | zero => intro _ _ _ _ _ _ _ H locs ls hP hS hl h; cases h
    | succ fuel ih =>
      intro v_by v_now v_told x1 x2 x3 x4 H locs ls hP hS hl h
      refine lv_iload hx hb dX10_when_31 (lv_at hl 4 rfl) ?_
      refine wi_bi hx hb dX10_when_33 (by decide) ?_
      obtain ⟨hr18, h⟩ := chk_some h
      refine wi_ic_ge (tgt := 79) hx hb dX10_when_35 (by decide) hr18 (by decide) (fun c20 => ?_) (fun c20 => ?_)
      · have h := ite_t c20 h
        refine wi_bi hx hb dX10_when_79 (by decide) ?_
        obtain rfl := Option.some.inj h
        exact KR _ _ _ _ hP hS dX10_when_81
      · have h := ite_f c20 h
        refine lv_aload_n hx hb dX10_when_38 rfl (lv_at hl 0 rfl) ?_
        refine lv_iload_n hx hb dX10_when_39 rfl (lv_at hl 1 rfl) ?_
        refine wi_ic hx hb dX10_when_40 ?_
        refine lv_iload hx hb dX10_when_41 (lv_at hl 4 rfl) ?_
        obtain ⟨o21, hc22, h⟩ := bnd_some h
        refine cV_v (rest := []) (w2 := (wd_X10_when cy a_v a_v_by a_v_now a_v_st a_v_told a_v_isKept a_v_draft a_v_placedRow a_v_tape a_v_bestRow a_v_ways a_v_lanes a_v_sizes a_v_cells a_v_before v_hasOrder v_hasStart v_placed v_placedMany v_highest v_taped v_pos v_begun v_sort v_value v_fault v_wrongAt v_rightSum v_wrongSum v_allWays v_torn v_by o21 v_st v_told)) ⟨hx, hb, hml, hown, hts⟩ (c_X10_becomesOf l D cy sa a_v a_v_now a_v_st a_v_isKept a_v_draft a_v_placedRow a_v_tape a_v_by a_v_told a_v_bestRow a_v_ways a_v_lanes a_v_sizes a_v_cells a_v_before v_hasOrder v_hasStart v_placed v_placedMany v_highest v_taped v_pos v_begun v_sort v_value v_fault v_wrongAt v_rightSum v_wrongSum v_allWays v_torn v_now x1 4 x4 o21 hc22) (cwV 3 hts gX10_when_X10_becomesOf rfl rfl rfl (by decide +kernel) ⟨Nat.le_of_ble_eq_true rfl, Nat.le_of_ble_eq_true rfl⟩) rfl rfl rfl hE hP hDD rfl hS [0, 2] rfl rfl rfl rfl hl.1 (Nat.le_of_ble_eq_true rfl) ⟨Nat.zero_le _, Nat.zero_le _⟩ rfl dX10_when_43 rfl (fun H locs hP hS => ?_)
        refine lv_aload_n hx hb dX10_when_46 rfl (lv_at hl 0 rfl) ?_
        obtain ⟨o23, hc24, h⟩ := bnd_some h
        refine cV_v (rest := []) (w2 := (wd_X10_when cy a_v a_v_by a_v_now a_v_st a_v_told a_v_isKept a_v_draft a_v_placedRow a_v_tape a_v_bestRow a_v_ways a_v_lanes a_v_sizes a_v_cells a_v_before v_hasOrder v_hasStart v_placed v_placedMany v_highest v_taped v_pos v_begun v_sort v_value v_fault v_wrongAt v_rightSum v_wrongSum v_allWays v_torn o23.1 o21 v_st o23.2)) ⟨hx, hb, hml, hown, hts⟩ (c_X10_dayGoes l D cy sa a_v a_v_by a_v_now a_v_told a_v_st a_v_isKept a_v_draft a_v_placedRow a_v_tape a_v_bestRow a_v_ways a_v_lanes a_v_sizes a_v_cells a_v_before v_hasOrder v_hasStart v_placed v_placedMany v_highest v_taped v_pos v_begun v_sort v_value v_fault v_wrongAt v_rightSum v_wrongSum v_allWays v_torn v_by o21 v_told o23 hc24) (cwV 0 hts gX10_when_X10_dayGoes rfl rfl rfl (by decide +kernel) ⟨Nat.le_of_ble_eq_true rfl, Nat.le_of_ble_eq_true rfl⟩) rfl rfl rfl hE hP hDD rfl hS [0, 1, 2, 4] rfl rfl rfl rfl hl.1 (Nat.le_of_ble_eq_true rfl) ⟨Nat.zero_le _, Nat.zero_le _⟩ rfl dX10_when_47 rfl (fun H locs hP hS => ?_)
        refine lv_aload_n hx hb dX10_when_50 rfl (lv_at hl 0 rfl) ?_
        refine wi_get (v := .ref a_v_told) hx hb hts iX10 hown hE hP 0 rfl rfl 19 (by decide) q0 rfl dX10_when_51 ?_
        refine wi_bi hx hb dX10_when_54 (by decide) ?_
        refine lv_aload_n hx hb dX10_when_56 rfl (lv_at hl 0 rfl) ?_
        refine lv_iload_n hx hb dX10_when_57 rfl (lv_at hl 1 rfl) ?_
        refine wi_ic hx hb dX10_when_58 ?_
        obtain ⟨o25, hc26, h⟩ := bnd_some h
        refine cV_i (rest := [.int (zI 24), .ref a_v_told]) (w2 := (wd_X10_when cy a_v a_v_by a_v_now a_v_st a_v_told a_v_isKept a_v_draft a_v_placedRow a_v_tape a_v_bestRow a_v_ways a_v_lanes a_v_sizes a_v_cells a_v_before v_hasOrder v_hasStart v_placed v_placedMany v_highest v_taped v_pos v_begun v_sort v_value v_fault v_wrongAt v_rightSum v_wrongSum v_allWays v_torn o23.1 o21 v_st o23.2)) ⟨hx, hb, hml, hown, hts⟩ (c_X10_of l D cy sa a_v a_v_now a_v_st a_v_isKept a_v_draft a_v_placedRow a_v_tape a_v_by a_v_told a_v_bestRow a_v_ways a_v_lanes a_v_sizes a_v_cells a_v_before v_hasOrder v_hasStart v_placed v_placedMany v_highest v_taped v_pos v_begun v_sort v_value v_fault v_wrongAt v_rightSum v_wrongSum v_allWays v_torn o21 x1 5 o25 hc26) (cwV 2 hts gX10_when_X10_of rfl rfl rfl (by decide +kernel) ⟨Nat.le_of_ble_eq_true rfl, Nat.le_of_ble_eq_true rfl⟩) rfl rfl rfl hE hP hDD rfl hS [0, 2] rfl rfl rfl rfl hl.1 (Nat.le_of_ble_eq_true rfl) ⟨Nat.zero_le _, Nat.zero_le _⟩ rfl dX10_when_59 rfl (fun H locs hP hS => ?_)
        refine wi_imul hx hb dX10_when_62 ?_
        refine lv_iload_n hx hb dX10_when_63 rfl (lv_at hl 2 rfl) ?_
        refine wi_iadd hx hb dX10_when_64 ?_
        obtain ⟨hk27, h⟩ := chk_some h
        refine wi_iald hx hb hE hP 4 rfl (by decide) hk27 dX10_when_65 ?_
        refine lv_iload_n hx hb dX10_when_66 rfl (lv_at hl 3 rfl) ?_
        obtain ⟨hr28, h⟩ := chk_some h
        obtain ⟨hr29, h⟩ := chk_some h
        refine wi_ic_ne (tgt := 73) hx hb dX10_when_67 (by decide) hr28 hr29 (fun c31 => ?_) (fun c31 => ?_)
        · have h := ite_f c31 h
          refine wi_iinc (k := 4) (lv' := [(4, .int (zI (x4 + 1))), (0, .ref a_v), (1, .int (zI x1)), (2, .int (zI x2)), (3, .int (zI x3))]) hx hb dX10_when_73 hl rfl (by decide) rfl (fun ls hl => ?_)
          refine lv_goto (tgt := 31) hx hb dX10_when_76 (by decide) ?_
          exact ih o23.1 o21 o23.2 x1 x2 x3 (x4 + 1) _ _ _ hP hS (lv_sub hl [1, 2, 3, 4, 0] rfl) h
        · have h := ite_t c31 h
          refine lv_iload hx hb dX10_when_70 (lv_at hl 4 rfl) ?_
          obtain rfl := Option.some.inj h
          exact KR _ _ _ _ hP hS dX10_when_72
  refine lv_aload_n hx hb dX10_when_0 rfl (lv_at hl 0 rfl) ?_
  refine lv_iload_n hx hb dX10_when_1 rfl (lv_at hl 1 rfl) ?_
  obtain ⟨o1, hc2, h⟩ := bnd_some h
  refine cV_i (rest := []) (w2 := (wd_X10_when cy a_v a_v_by a_v_now a_v_st a_v_told a_v_isKept a_v_draft a_v_placedRow a_v_tape a_v_bestRow a_v_ways a_v_lanes a_v_sizes a_v_cells a_v_before v_hasOrder v_hasStart v_placed v_placedMany v_highest v_taped v_pos v_begun v_sort v_value v_fault v_wrongAt v_rightSum v_wrongSum v_allWays v_torn v_by v_now v_st v_told)) ⟨hx, hb, hml, hown, hts⟩ (c_X10_isBox l D cy sa a_v a_v_st a_v_now a_v_isKept a_v_draft a_v_placedRow a_v_tape a_v_by a_v_told a_v_bestRow a_v_ways a_v_lanes a_v_sizes a_v_cells a_v_before v_hasOrder v_hasStart v_placed v_placedMany v_highest v_taped v_pos v_begun v_sort v_value v_fault v_wrongAt v_rightSum v_wrongSum v_allWays v_torn v_st x1 o1 hc2) (cwV 1 hts gX10_when_X10_isBox rfl rfl rfl (by decide +kernel) ⟨Nat.le_of_ble_eq_true rfl, Nat.le_of_ble_eq_true rfl⟩) rfl rfl rfl hE hP hDD rfl hS [0, 3] rfl rfl rfl rfl hl.1 (Nat.le_of_ble_eq_true rfl) ⟨Nat.zero_le _, Nat.zero_le _⟩ rfl dX10_when_2 rfl (fun H locs hP hS => ?_)
  obtain ⟨hr3, h⟩ := chk_some h
  refine wi_if_eq (tgt := 22) hx hb dX10_when_5 (by decide) hr3 (fun c5 => ?_) (fun c5 => ?_)
  · have h := ite_t c5 h
    refine wi_ic hx hb dX10_when_22 ?_
    obtain rfl := Option.some.inj h
    exact KR _ _ _ _ hP hS dX10_when_23
  · have h := ite_f c5 h
    refine lv_iload_n hx hb dX10_when_8 rfl (lv_at hl 2 rfl) ?_
    obtain ⟨o6, hc7, h⟩ := bnd_some h
    refine cS_i (rest := []) (w2 := (wd_X10_when cy a_v a_v_by a_v_now a_v_st a_v_told a_v_isKept a_v_draft a_v_placedRow a_v_tape a_v_bestRow a_v_ways a_v_lanes a_v_sizes a_v_cells a_v_before v_hasOrder v_hasStart v_placed v_placedMany v_highest v_taped v_pos v_begun v_sort v_value v_fault v_wrongAt v_rightSum v_wrongSum v_allWays v_torn v_by v_now v_st v_told)) ⟨hx, hb, hml, hown, hts⟩ (c_X10_isHour l D cy sa x2 o6 hc7) (va_cwS 1 hts gX10_when_X10_isHour rfl rfl rfl (by decide +kernel) ⟨Nat.le_of_ble_eq_true rfl, Nat.le_of_ble_eq_true rfl⟩) hE hP hDD rfl hS [] rfl rfl rfl rfl hl.1 (Nat.le_of_ble_eq_true rfl) ⟨Nat.zero_le _, Nat.zero_le _⟩ rfl dX10_when_9 rfl (fun H locs hP hS => ?_)
    obtain ⟨hr8, h⟩ := chk_some h
    refine wi_if_eq (tgt := 22) hx hb dX10_when_12 (by decide) hr8 (fun c10 => ?_) (fun c10 => ?_)
    · have h := ite_t c10 h
      refine wi_ic hx hb dX10_when_22 ?_
      obtain rfl := Option.some.inj h
      exact KR _ _ _ _ hP hS dX10_when_23
    · have h := ite_f c10 h
      refine lv_iload_n hx hb dX10_when_15 rfl (lv_at hl 3 rfl) ?_
      obtain ⟨o11, hc12, h⟩ := bnd_some h
      refine cS_i (rest := []) (w2 := (wd_X10_when cy a_v a_v_by a_v_now a_v_st a_v_told a_v_isKept a_v_draft a_v_placedRow a_v_tape a_v_bestRow a_v_ways a_v_lanes a_v_sizes a_v_cells a_v_before v_hasOrder v_hasStart v_placed v_placedMany v_highest v_taped v_pos v_begun v_sort v_value v_fault v_wrongAt v_rightSum v_wrongSum v_allWays v_torn v_by v_now v_st v_told)) ⟨hx, hb, hml, hown, hts⟩ (c_X10_isHour l D cy sa x3 o11 hc12) (va_cwS 1 hts gX10_when_X10_isHour rfl rfl rfl (by decide +kernel) ⟨Nat.le_of_ble_eq_true rfl, Nat.le_of_ble_eq_true rfl⟩) hE hP hDD rfl hS [] rfl rfl rfl rfl hl.1 (Nat.le_of_ble_eq_true rfl) ⟨Nat.zero_le _, Nat.zero_le _⟩ rfl dX10_when_16 rfl (fun H locs hP hS => ?_)
      obtain ⟨hr13, h⟩ := chk_some h
      refine wi_if_ne (tgt := 24) hx hb dX10_when_19 (by decide) hr13 (fun c15 => ?_) (fun c15 => ?_)
      · have h := ite_f c15 h
        refine lv_aload_n hx hb dX10_when_24 rfl (lv_at hl 0 rfl) ?_
        obtain ⟨o16, hc17, h⟩ := bnd_some h
        refine cV_v (rest := []) (w2 := (wd_X10_when cy a_v a_v_by a_v_now a_v_st a_v_told a_v_isKept a_v_draft a_v_placedRow a_v_tape a_v_bestRow a_v_ways a_v_lanes a_v_sizes a_v_cells a_v_before v_hasOrder v_hasStart v_placed v_placedMany v_highest v_taped v_pos v_begun v_sort v_value v_fault v_wrongAt v_rightSum v_wrongSum v_allWays v_torn v_by o16 v_st v_told)) ⟨hx, hb, hml, hown, hts⟩ (c_X10_fetches l D cy sa a_v a_v_now a_v_st a_v_isKept a_v_draft a_v_placedRow a_v_tape a_v_by a_v_told a_v_bestRow a_v_ways a_v_lanes a_v_sizes a_v_cells a_v_before v_hasOrder v_hasStart v_placed v_placedMany v_highest v_taped v_pos v_begun v_sort v_value v_fault v_wrongAt v_rightSum v_wrongSum v_allWays v_torn v_now v_st o16 hc17) (cwV 0 hts gX10_when_X10_fetches rfl rfl rfl (by decide +kernel) ⟨Nat.le_of_ble_eq_true rfl, Nat.le_of_ble_eq_true rfl⟩) rfl rfl rfl hE hP hDD rfl hS [0, 2, 3] rfl rfl rfl rfl hl.1 (Nat.le_of_ble_eq_true rfl) ⟨Nat.zero_le _, Nat.zero_le _⟩ rfl dX10_when_25 rfl (fun H locs hP hS => ?_)
        refine wi_ic hx hb dX10_when_28 ?_
        refine lv_istore (lv' := [(4, .int (zI 0)), (0, .ref a_v), (1, .int (zI x1)), (2, .int (zI x2)), (3, .int (zI x3))]) hx hb dX10_when_29 hl (by decide) rfl (fun ls hl => ?_)
        exact L31 5000 v_by o16 v_told x1 x2 x3 0 _ _ _ hP hS (lv_sub hl [1, 2, 3, 4, 0] rfl) h
      · have h := ite_t c15 h
        refine wi_ic hx hb dX10_when_22 ?_
        obtain rfl := Option.some.inj h
        exact KR _ _ _ _ hP hS dX10_when_23
abbrev wd_X10_fewestBy (cy : Nat → ClassId) (a_v : Nat) (a_v_by : Nat) (a_v_now : Nat) (a_v_st : Nat) (a_v_told : Nat) (a_v_isKept : Nat) (a_v_draft : Nat) (a_v_placedRow : Nat) (a_v_tape : Nat) (a_v_bestRow : Nat) (a_v_ways : Nat) (a_v_lanes : Nat) (a_v_sizes : Nat) (a_v_cells : Nat) (a_v_before : Nat) (v_hasOrder : Int) (v_hasStart : Int) (v_placed : Int) (v_placedMany : Int) (v_highest : Int) (v_taped : Int) (v_pos : Int) (v_begun : Int) (v_sort : Int) (v_value : Int) (v_fault : Int) (v_wrongAt : Int) (v_rightSum : Int) (v_wrongSum : Int) (v_allWays : Int) (v_torn : Int) (v_by : Nat → Int) (v_now : Nat → Int) (v_st : Nat → Int) (v_told : Nat → Int) : va_W := [(a_v, .inr (10, [.ref a_v_st, .ref a_v_now, .ref a_v_isKept, .ref a_v_draft, .int (zI v_hasOrder), .int (zI v_hasStart), .int (zI v_placed), .int (zI v_placedMany), .ref a_v_placedRow, .int (zI v_highest), .ref a_v_tape, .int (zI v_taped), .int (zI v_pos), .int (zI v_begun), .int (zI v_sort), .int (zI v_value), .int (zI v_fault), .int (zI v_wrongAt), .ref a_v_by, .ref a_v_told, .ref a_v_bestRow, .long (zL v_rightSum), .long (zL v_wrongSum), .long (zL v_allWays), .ref a_v_ways, .ref a_v_lanes, .ref a_v_sizes, .ref a_v_cells, .int (zI v_torn), .ref a_v_before])), (a_v_by, .inl (cy 0, 120, .inl (fun j => zI (v_by j)))), (a_v_now, .inl (cy 0, 56, .inl (fun j => zI (v_now j)))), (a_v_st, .inl (cy 0, 168, .inl (fun j => zI (v_st j)))), (a_v_told, .inl (cy 0, 120, .inl (fun j => zI (v_told j))))]
set_option maxHeartbeats 4000000 in
set_option maxRecDepth 100000 in
theorem c_X10_fewestBy (l : Launch) (D : va_G) (cy : Nat → ClassId) (sa : Nat → Nat) (a_v : Nat) (a_v_by : Nat) (a_v_now : Nat) (a_v_st : Nat) (a_v_told : Nat) (a_v_isKept : Nat) (a_v_draft : Nat) (a_v_placedRow : Nat) (a_v_tape : Nat) (a_v_bestRow : Nat) (a_v_ways : Nat) (a_v_lanes : Nat) (a_v_sizes : Nat) (a_v_cells : Nat) (a_v_before : Nat) (v_hasOrder : Int) (v_hasStart : Int) (v_placed : Int) (v_placedMany : Int) (v_highest : Int) (v_taped : Int) (v_pos : Int) (v_begun : Int) (v_sort : Int) (v_value : Int) (v_fault : Int) (v_wrongAt : Int) (v_rightSum : Int) (v_wrongSum : Int) (v_allWays : Int) (v_torn : Int) (v_by : Nat → Int) (v_now : Nat → Int) (v_st : Nat → Int) (v_told : Nat → Int) (x1 : Int) (x2 : Int) (x3 : Int) (x4 : Int) (o : Int × (Nat → Int) × (Nat → Int) × (Nat → Int)) (h : f_M_fewestBy v_by v_now v_st v_told x1 x2 x3 x4 = some o) : CtI l yX10_fewestBy wsX10_fewestBy ({ frames := 4, cells := 0, slots := 0, locals := 91 }) D cy sa [.ref a_v, .int (zI x1), .int (zI x2), .int (zI x3), .int (zI x4)] (wd_X10_fewestBy cy a_v a_v_by a_v_now a_v_st a_v_told a_v_isKept a_v_draft a_v_placedRow a_v_tape a_v_bestRow a_v_ways a_v_lanes a_v_sizes a_v_cells a_v_before v_hasOrder v_hasStart v_placed v_placedMany v_highest v_taped v_pos v_begun v_sort v_value v_fault v_wrongAt v_rightSum v_wrongSum v_allWays v_torn v_by v_now v_st v_told) (wd_X10_fewestBy cy a_v a_v_by a_v_now a_v_st a_v_told a_v_isKept a_v_draft a_v_placedRow a_v_tape a_v_bestRow a_v_ways a_v_lanes a_v_sizes a_v_cells a_v_before v_hasOrder v_hasStart v_placed v_placedMany v_highest v_taped v_pos v_begun v_sort v_value v_fault v_wrongAt v_rightSum v_wrongSum v_allWays v_torn o.2.1 o.2.2.1 v_st o.2.2.2) o.1 := by
  refine ct_I (cc := cX10_fewestBy) (maxL := 9) (plainFor_of_name (by decide)) rfl (Nat.le_of_ble_eq_true rfl) ?_
  intro p e s m below meth c A args QQ hx hb hml hown hts hE hDD hP KR ls hl
  have hl : lv_has ls 9 [(0, .ref a_v), (1, .int (zI x1)), (2, .int (zI x2)), (3, .int (zI x3)), (4, .int (zI x4))] := hl
  have hDD : DD A [a_v, a_v_by, a_v_now, a_v_st, a_v_told] := hDD
  have hS : va_S A s.heap s.heap [] := va_S.rf
  have q0 := hts (.constant RX10 229 (1000000)) (List.mem_of_getElem? (i := 1) rfl)
  have L14 : ∀ (fuel : Nat) (v_by : Nat → Int) (v_now : Nat → Int) (v_told : Nat → Int) (x1 : Int) (x2 : Int) (x3 : Int) (x4 : Int) (x5 : Int) (x6 : Int) (x7 : Int) (H : Heap) (locs : List Loc) (ls : Array Slot) (ex : Int × Int × (Nat → Int) × (Nat → Int) × (Nat → Int)), va_P D vwCl (wd_X10_fewestBy cy a_v a_v_by a_v_now a_v_st a_v_told a_v_isKept a_v_draft a_v_placedRow a_v_tape a_v_bestRow a_v_ways a_v_lanes a_v_sizes a_v_cells a_v_before v_hasOrder v_hasStart v_placed v_placedMany v_highest v_taped v_pos v_begun v_sort v_value v_fault v_wrongAt v_rightSum v_wrongSum v_allWays v_torn v_by v_now v_st v_told) H → va_S A s.heap H locs → lv_has ls 9 [(0, .ref a_v), (1, .int (zI x1)), (2, .int (zI x2)), (3, .int (zI x3)), (4, .int (zI x4)), (5, .int (zI x5)), (6, .int (zI x6)), (7, .int (zI x7))] → f_M_fewestBy_L14 fuel v_by v_now v_told x1 x2 x3 x5 x6 x7 = some ex → (∀ (H : Heap) (locs : List Loc) (ls : Array Slot), va_P D vwCl (wd_X10_fewestBy cy a_v a_v_by a_v_now a_v_st a_v_told a_v_isKept a_v_draft a_v_placedRow a_v_tape a_v_bestRow a_v_ways a_v_lanes a_v_sizes a_v_cells a_v_before v_hasOrder v_hasStart v_placed v_placedMany v_highest v_taped v_pos v_begun v_sort v_value v_fault v_wrongAt v_rightSum v_wrongSum v_allWays v_torn ex.2.2.1 ex.2.2.2.1 v_st ex.2.2.2.2) H → va_S A s.heap H locs → lv_has ls 9 [(4, .int (zI x4)), (5, .int (zI ex.1)), (6, .int (zI ex.2.1))] → W p l e { frames := 4, cells := 0, slots := 0, locals := 91 } s m args below meth c H locs 0 0 QQ (F0 m 69 ls [])) → W p l e { frames := 4, cells := 0, slots := 0, locals := 91 } s m args below meth c H locs 0 0 QQ (F0 m 14 ls []) := by
    intro fuel
    induction fuel with
    | zero => intro _ _ _ _ _ _ _ _ _ _ H locs ls ex hP hS hl h K; cases h
    | succ fuel ih =>
      intro v_by v_now v_told x1 x2 x3 x4 x5 x6 x7 H locs ls ex hP hS hl h K
      refine lv_iload hx hb dX10_fewestBy_14 (lv_at hl 7 rfl) ?_
      refine lv_iload_n hx hb dX10_fewestBy_16 rfl (lv_at hl 3 rfl) ?_
      obtain ⟨hr3, h⟩ := chk_some h
      obtain ⟨hr4, h⟩ := chk_some h
      refine wi_ic_ge (tgt := 69) hx hb dX10_fewestBy_17 (by decide) hr3 hr4 (fun c6 => ?_) (fun c6 => ?_)
      · have h := ite_t c6 h
        obtain rfl := Option.some.inj h
        exact K _ _ _ hP hS (lv_sub hl [4, 5, 6] rfl)
      · have h := ite_f c6 h
        refine lv_aload_n hx hb dX10_fewestBy_20 rfl (lv_at hl 0 rfl) ?_
        refine lv_iload_n hx hb dX10_fewestBy_21 rfl (lv_at hl 1 rfl) ?_
        refine lv_iload_n hx hb dX10_fewestBy_22 rfl (lv_at hl 2 rfl) ?_
        refine lv_iload hx hb dX10_fewestBy_23 (lv_at hl 7 rfl) ?_
        obtain ⟨o7, hc8, h⟩ := bnd_some h
        refine cV_v (rest := []) (w2 := (wd_X10_fewestBy cy a_v a_v_by a_v_now a_v_st a_v_told a_v_isKept a_v_draft a_v_placedRow a_v_tape a_v_bestRow a_v_ways a_v_lanes a_v_sizes a_v_cells a_v_before v_hasOrder v_hasStart v_placed v_placedMany v_highest v_taped v_pos v_begun v_sort v_value v_fault v_wrongAt v_rightSum v_wrongSum v_allWays v_torn v_by o7 v_st v_told)) ⟨hx, hb, hml, hown, hts⟩ (c_X10_becomesOf l D cy sa a_v a_v_now a_v_st a_v_isKept a_v_draft a_v_placedRow a_v_tape a_v_by a_v_told a_v_bestRow a_v_ways a_v_lanes a_v_sizes a_v_cells a_v_before v_hasOrder v_hasStart v_placed v_placedMany v_highest v_taped v_pos v_begun v_sort v_value v_fault v_wrongAt v_rightSum v_wrongSum v_allWays v_torn v_now x1 x2 x7 o7 hc8) (cwV 3 hts gX10_fewestBy_X10_becomesOf rfl rfl rfl (by decide +kernel) ⟨Nat.le_of_ble_eq_true rfl, Nat.le_of_ble_eq_true rfl⟩) rfl rfl rfl hE hP hDD rfl hS [0, 2] rfl rfl rfl rfl hl.1 (Nat.le_of_ble_eq_true rfl) ⟨Nat.zero_le _, Nat.zero_le _⟩ rfl dX10_fewestBy_25 rfl (fun H locs hP hS => ?_)
        refine lv_aload_n hx hb dX10_fewestBy_28 rfl (lv_at hl 0 rfl) ?_
        obtain ⟨o9, hc10, h⟩ := bnd_some h
        refine cV_v (rest := []) (w2 := (wd_X10_fewestBy cy a_v a_v_by a_v_now a_v_st a_v_told a_v_isKept a_v_draft a_v_placedRow a_v_tape a_v_bestRow a_v_ways a_v_lanes a_v_sizes a_v_cells a_v_before v_hasOrder v_hasStart v_placed v_placedMany v_highest v_taped v_pos v_begun v_sort v_value v_fault v_wrongAt v_rightSum v_wrongSum v_allWays v_torn o9.1 o7 v_st o9.2)) ⟨hx, hb, hml, hown, hts⟩ (c_X10_dayGoes l D cy sa a_v a_v_by a_v_now a_v_told a_v_st a_v_isKept a_v_draft a_v_placedRow a_v_tape a_v_bestRow a_v_ways a_v_lanes a_v_sizes a_v_cells a_v_before v_hasOrder v_hasStart v_placed v_placedMany v_highest v_taped v_pos v_begun v_sort v_value v_fault v_wrongAt v_rightSum v_wrongSum v_allWays v_torn v_by o7 v_told o9 hc10) (cwV 0 hts gX10_fewestBy_X10_dayGoes rfl rfl rfl (by decide +kernel) ⟨Nat.le_of_ble_eq_true rfl, Nat.le_of_ble_eq_true rfl⟩) rfl rfl rfl hE hP hDD rfl hS [0, 1, 2, 4] rfl rfl rfl rfl hl.1 (Nat.le_of_ble_eq_true rfl) ⟨Nat.zero_le _, Nat.zero_le _⟩ rfl dX10_fewestBy_29 rfl (fun H locs hP hS => ?_)
        refine lv_aload_n hx hb dX10_fewestBy_32 rfl (lv_at hl 0 rfl) ?_
        obtain ⟨o11, hc12, h⟩ := bnd_some h
        refine cV_i (rest := []) (w2 := (wd_X10_fewestBy cy a_v a_v_by a_v_now a_v_st a_v_told a_v_isKept a_v_draft a_v_placedRow a_v_tape a_v_bestRow a_v_ways a_v_lanes a_v_sizes a_v_cells a_v_before v_hasOrder v_hasStart v_placed v_placedMany v_highest v_taped v_pos v_begun v_sort v_value v_fault v_wrongAt v_rightSum v_wrongSum v_allWays v_torn o9.1 o7 v_st o9.2)) ⟨hx, hb, hml, hown, hts⟩ (c_X10_yawns l D cy sa a_v a_v_told a_v_st a_v_now a_v_isKept a_v_draft a_v_placedRow a_v_tape a_v_by a_v_bestRow a_v_ways a_v_lanes a_v_sizes a_v_cells a_v_before v_hasOrder v_hasStart v_placed v_placedMany v_highest v_taped v_pos v_begun v_sort v_value v_fault v_wrongAt v_rightSum v_wrongSum v_allWays v_torn o9.2 o11 hc12) (cwV 0 hts gX10_fewestBy_X10_yawns rfl rfl rfl (by decide +kernel) ⟨Nat.le_of_ble_eq_true rfl, Nat.le_of_ble_eq_true rfl⟩) rfl rfl rfl hE hP hDD rfl hS [0, 4] rfl rfl rfl rfl hl.1 (Nat.le_of_ble_eq_true rfl) ⟨Nat.zero_le _, Nat.zero_le _⟩ rfl dX10_fewestBy_33 rfl (fun H locs hP hS => ?_)
        refine lv_istore (lv' := [(8, .int (zI o11)), (0, .ref a_v), (1, .int (zI x1)), (2, .int (zI x2)), (3, .int (zI x3)), (4, .int (zI x4)), (5, .int (zI x5)), (6, .int (zI x6)), (7, .int (zI x7))]) hx hb dX10_fewestBy_36 hl (by decide) rfl (fun ls hl => ?_)
        refine lv_iload hx hb dX10_fewestBy_38 (lv_at hl 0 rfl) ?_
        refine lv_iload hx hb dX10_fewestBy_40 (lv_at hl 6 rfl) ?_
        obtain ⟨hr13, h⟩ := chk_some h
        obtain ⟨hr14, h⟩ := chk_some h
        obtain ⟨o15, hx16, h⟩ := bnd_some h
        have J17 : ∀ (H : Heap) (locs : List Loc) (ls : Array Slot), va_P D vwCl (wd_X10_fewestBy cy a_v a_v_by a_v_now a_v_st a_v_told a_v_isKept a_v_draft a_v_placedRow a_v_tape a_v_bestRow a_v_ways a_v_lanes a_v_sizes a_v_cells a_v_before v_hasOrder v_hasStart v_placed v_placedMany v_highest v_taped v_pos v_begun v_sort v_value v_fault v_wrongAt v_rightSum v_wrongSum v_allWays v_torn o9.1 o7 v_st o9.2) H → va_S A s.heap H locs → lv_has ls 9 [(0, .ref a_v), (1, .int (zI x1)), (2, .int (zI x2)), (3, .int (zI x3)), (4, .int (zI x4)), (5, .int (zI x5)), (7, .int (zI x7)), (8, .int (zI o11))] → W p l e { frames := 4, cells := 0, slots := 0, locals := 91 } s m args below meth c H locs 0 0 QQ (F0 m 52 ls [.int (zI o15)]) := by
          intro H locs ls hP hS hl
          refine lv_istore (lv' := [(6, .int (zI o15)), (0, .ref a_v), (1, .int (zI x1)), (2, .int (zI x2)), (3, .int (zI x3)), (4, .int (zI x4)), (5, .int (zI x5)), (7, .int (zI x7)), (8, .int (zI o11))]) hx hb dX10_fewestBy_52 hl (by decide) rfl (fun ls hl => ?_)
          refine lv_iload hx hb dX10_fewestBy_54 (lv_at hl 8 rfl) ?_
          refine lv_iload hx hb dX10_fewestBy_56 (lv_at hl 6 rfl) ?_
          obtain ⟨o18, hc19, h⟩ := bnd_some h
          refine cS_i (rest := []) (w2 := (wd_X10_fewestBy cy a_v a_v_by a_v_now a_v_st a_v_told a_v_isKept a_v_draft a_v_placedRow a_v_tape a_v_bestRow a_v_ways a_v_lanes a_v_sizes a_v_cells a_v_before v_hasOrder v_hasStart v_placed v_placedMany v_highest v_taped v_pos v_begun v_sort v_value v_fault v_wrongAt v_rightSum v_wrongSum v_allWays v_torn o9.1 o7 v_st o9.2)) ⟨hx, hb, hml, hown, hts⟩ (c_X10_lesser l D cy sa o11 x5 o18 hc19) (va_cwS 2 hts gX10_fewestBy_X10_lesser rfl rfl rfl (by decide +kernel) ⟨Nat.le_of_ble_eq_true rfl, Nat.le_of_ble_eq_true rfl⟩) hE hP hDD rfl hS [] rfl rfl rfl rfl hl.1 (Nat.le_of_ble_eq_true rfl) ⟨Nat.zero_le _, Nat.zero_le _⟩ rfl dX10_fewestBy_58 rfl (fun H locs hP hS => ?_)
          refine lv_istore (lv' := [(5, .int (zI o18)), (6, .int (zI o15)), (0, .ref a_v), (1, .int (zI x1)), (2, .int (zI x2)), (3, .int (zI x3)), (4, .int (zI x4)), (7, .int (zI x7)), (8, .int (zI o11))]) hx hb dX10_fewestBy_61 hl (by decide) rfl (fun ls hl => ?_)
          refine wi_iinc (k := 7) (lv' := [(7, .int (zI (x7 + 1))), (5, .int (zI o18)), (6, .int (zI o15)), (0, .ref a_v), (1, .int (zI x1)), (2, .int (zI x2)), (3, .int (zI x3)), (4, .int (zI x4)), (8, .int (zI o11))]) hx hb dX10_fewestBy_63 hl rfl (by decide) rfl (fun ls hl => ?_)
          refine lv_goto (tgt := 14) hx hb dX10_fewestBy_66 (by decide) ?_
          exact ih o9.1 o7 o9.2 x1 x2 x3 x4 o18 o15 (x7 + 1) _ _ _ _ hP hS (lv_sub hl [3, 4, 5, 6, 7, 1, 2, 0] rfl) h K
        clear h
        have h := hx16
        clear hx16
        refine wi_ic_ge (tgt := 50) hx hb dX10_fewestBy_42 (by decide) hr13 hr14 (fun c20 => ?_) (fun c20 => ?_)
        · have h := ite_t c20 h
          refine lv_iload hx hb dX10_fewestBy_50 (lv_at hl 7 rfl) ?_
          obtain rfl := Option.some.inj h
          exact J17 _ _ _ hP hS (lv_sub hl [1, 2, 3, 4, 5, 6, 8, 0] rfl)
        · have h := ite_f c20 h
          refine lv_iload hx hb dX10_fewestBy_45 (lv_at hl 8 rfl) ?_
          refine lv_goto (tgt := 52) hx hb dX10_fewestBy_47 (by decide) ?_
          obtain rfl := Option.some.inj h
          exact J17 _ _ _ hP hS (lv_sub hl [1, 2, 3, 4, 5, 6, 8, 0] rfl)
  refine wi_ldc (n := 1000000) hx hb hown q0 dX10_fewestBy_0 rfl ?_
  refine lv_istore (lv' := [(5, .int (zI 1000000)), (0, .ref a_v), (1, .int (zI x1)), (2, .int (zI x2)), (3, .int (zI x3)), (4, .int (zI x4))]) hx hb dX10_fewestBy_2 hl (by decide) rfl (fun ls hl => ?_)
  refine wi_ic hx hb dX10_fewestBy_4 ?_
  refine lv_istore (lv' := [(6, .int (zI 0)), (5, .int (zI 1000000)), (0, .ref a_v), (1, .int (zI x1)), (2, .int (zI x2)), (3, .int (zI x3)), (4, .int (zI x4))]) hx hb dX10_fewestBy_5 hl (by decide) rfl (fun ls hl => ?_)
  refine lv_aload_n hx hb dX10_fewestBy_7 rfl (lv_at hl 2 rfl) ?_
  obtain ⟨o1, hc2, h⟩ := bnd_some h
  refine cV_v (rest := []) (w2 := (wd_X10_fewestBy cy a_v a_v_by a_v_now a_v_st a_v_told a_v_isKept a_v_draft a_v_placedRow a_v_tape a_v_bestRow a_v_ways a_v_lanes a_v_sizes a_v_cells a_v_before v_hasOrder v_hasStart v_placed v_placedMany v_highest v_taped v_pos v_begun v_sort v_value v_fault v_wrongAt v_rightSum v_wrongSum v_allWays v_torn v_by o1 v_st v_told)) ⟨hx, hb, hml, hown, hts⟩ (c_X10_fetches l D cy sa a_v a_v_now a_v_st a_v_isKept a_v_draft a_v_placedRow a_v_tape a_v_by a_v_told a_v_bestRow a_v_ways a_v_lanes a_v_sizes a_v_cells a_v_before v_hasOrder v_hasStart v_placed v_placedMany v_highest v_taped v_pos v_begun v_sort v_value v_fault v_wrongAt v_rightSum v_wrongSum v_allWays v_torn v_now v_st o1 hc2) (cwV 0 hts gX10_fewestBy_X10_fetches rfl rfl rfl (by decide +kernel) ⟨Nat.le_of_ble_eq_true rfl, Nat.le_of_ble_eq_true rfl⟩) rfl rfl rfl hE hP hDD rfl hS [0, 2, 3] rfl rfl rfl rfl hl.1 (Nat.le_of_ble_eq_true rfl) ⟨Nat.zero_le _, Nat.zero_le _⟩ rfl dX10_fewestBy_8 rfl (fun H locs hP hS => ?_)
  refine wi_ic hx hb dX10_fewestBy_11 ?_
  refine lv_istore (lv' := [(7, .int (zI 0)), (6, .int (zI 0)), (5, .int (zI 1000000)), (0, .ref a_v), (1, .int (zI x1)), (2, .int (zI x2)), (3, .int (zI x3)), (4, .int (zI x4))]) hx hb dX10_fewestBy_12 hl (by decide) rfl (fun ls hl => ?_)
  obtain ⟨o21, hx22, h⟩ := bnd_some h
  refine L14 5000 v_by o1 v_told x1 x2 x3 x4 1000000 0 0 _ _ _ _ hP hS (lv_sub hl [3, 4, 5, 6, 7, 2, 1, 0] rfl) hx22 ?_
  clear hx22
  intro H locs ls hP hS hl
  refine lv_iload hx hb dX10_fewestBy_69 (lv_at hl 0 rfl) ?_
  obtain ⟨hr23, h⟩ := chk_some h
  refine wi_if_ne (tgt := 79) hx hb dX10_fewestBy_71 (by decide) hr23 (fun c25 => ?_) (fun c25 => ?_)
  · have h := ite_f c25 h
    refine lv_iload hx hb dX10_fewestBy_79 (lv_at hl 1 rfl) ?_
    obtain rfl := Option.some.inj h
    exact KR _ _ _ _ hP hS dX10_fewestBy_81
  · have h := ite_t c25 h
    refine lv_iload hx hb dX10_fewestBy_74 (lv_at hl 2 rfl) ?_
    refine lv_goto (tgt := 81) hx hb dX10_fewestBy_76 (by decide) ?_
    obtain rfl := Option.some.inj h
    exact KR _ _ _ _ hP hS dX10_fewestBy_81
abbrev wd_X10_wake (cy : Nat → ClassId) (a_v : Nat) (a_v_by : Nat) (a_v_now : Nat) (a_v_st : Nat) (a_v_told : Nat) (a_v_isKept : Nat) (a_v_draft : Nat) (a_v_placedRow : Nat) (a_v_tape : Nat) (a_v_bestRow : Nat) (a_v_ways : Nat) (a_v_lanes : Nat) (a_v_sizes : Nat) (a_v_cells : Nat) (a_v_before : Nat) (v_hasOrder : Int) (v_hasStart : Int) (v_placed : Int) (v_placedMany : Int) (v_highest : Int) (v_taped : Int) (v_pos : Int) (v_begun : Int) (v_sort : Int) (v_value : Int) (v_fault : Int) (v_wrongAt : Int) (v_rightSum : Int) (v_wrongSum : Int) (v_allWays : Int) (v_torn : Int) (v_by : Nat → Int) (v_now : Nat → Int) (v_st : Nat → Int) (v_told : Nat → Int) : va_W := [(a_v, .inr (10, [.ref a_v_st, .ref a_v_now, .ref a_v_isKept, .ref a_v_draft, .int (zI v_hasOrder), .int (zI v_hasStart), .int (zI v_placed), .int (zI v_placedMany), .ref a_v_placedRow, .int (zI v_highest), .ref a_v_tape, .int (zI v_taped), .int (zI v_pos), .int (zI v_begun), .int (zI v_sort), .int (zI v_value), .int (zI v_fault), .int (zI v_wrongAt), .ref a_v_by, .ref a_v_told, .ref a_v_bestRow, .long (zL v_rightSum), .long (zL v_wrongSum), .long (zL v_allWays), .ref a_v_ways, .ref a_v_lanes, .ref a_v_sizes, .ref a_v_cells, .int (zI v_torn), .ref a_v_before])), (a_v_by, .inl (cy 0, 120, .inl (fun j => zI (v_by j)))), (a_v_now, .inl (cy 0, 56, .inl (fun j => zI (v_now j)))), (a_v_st, .inl (cy 0, 168, .inl (fun j => zI (v_st j)))), (a_v_told, .inl (cy 0, 120, .inl (fun j => zI (v_told j))))]
set_option maxHeartbeats 4000000 in
set_option maxRecDepth 100000 in
theorem c_X10_wake (l : Launch) (D : va_G) (cy : Nat → ClassId) (sa : Nat → Nat) (a_v : Nat) (a_v_by : Nat) (a_v_now : Nat) (a_v_st : Nat) (a_v_told : Nat) (a_v_isKept : Nat) (a_v_draft : Nat) (a_v_placedRow : Nat) (a_v_tape : Nat) (a_v_bestRow : Nat) (a_v_ways : Nat) (a_v_lanes : Nat) (a_v_sizes : Nat) (a_v_cells : Nat) (a_v_before : Nat) (v_hasOrder : Int) (v_hasStart : Int) (v_placed : Int) (v_placedMany : Int) (v_highest : Int) (v_taped : Int) (v_pos : Int) (v_begun : Int) (v_sort : Int) (v_value : Int) (v_fault : Int) (v_wrongAt : Int) (v_rightSum : Int) (v_wrongSum : Int) (v_allWays : Int) (v_torn : Int) (v_by : Nat → Int) (v_now : Nat → Int) (v_st : Nat → Int) (v_told : Nat → Int) (x1 : Int) (x2 : Int) (o : Int × (Nat → Int) × (Nat → Int) × (Nat → Int)) (h : f_M_wake v_by v_now v_st v_told x1 x2 = some o) : CtI l yX10_wake wsX10_wake ({ frames := 5, cells := 0, slots := 0, locals := 119 }) D cy sa [.ref a_v, .int (zI x1), .int (zI x2)] (wd_X10_wake cy a_v a_v_by a_v_now a_v_st a_v_told a_v_isKept a_v_draft a_v_placedRow a_v_tape a_v_bestRow a_v_ways a_v_lanes a_v_sizes a_v_cells a_v_before v_hasOrder v_hasStart v_placed v_placedMany v_highest v_taped v_pos v_begun v_sort v_value v_fault v_wrongAt v_rightSum v_wrongSum v_allWays v_torn v_by v_now v_st v_told) (wd_X10_wake cy a_v a_v_by a_v_now a_v_st a_v_told a_v_isKept a_v_draft a_v_placedRow a_v_tape a_v_bestRow a_v_ways a_v_lanes a_v_sizes a_v_cells a_v_before v_hasOrder v_hasStart v_placed v_placedMany v_highest v_taped v_pos v_begun v_sort v_value v_fault v_wrongAt v_rightSum v_wrongSum v_allWays v_torn o.2.1 o.2.2.1 v_st o.2.2.2) o.1 := by
  refine ct_I (cc := cX10_wake) (maxL := 3) (plainFor_of_name (by decide)) rfl (Nat.le_of_ble_eq_true rfl) ?_
  intro p e s m below meth c A args QQ hx hb hml hown hts hE hDD hP KR ls hl
  have hl : lv_has ls 3 [(0, .ref a_v), (1, .int (zI x1)), (2, .int (zI x2))] := hl
  have hDD : DD A [a_v, a_v_by, a_v_now, a_v_st, a_v_told] := hDD
  have hS : va_S A s.heap s.heap [] := va_S.rf
  refine lv_aload_n hx hb dX10_wake_0 rfl (lv_at hl 0 rfl) ?_
  refine lv_iload_n hx hb dX10_wake_1 rfl (lv_at hl 1 rfl) ?_
  obtain ⟨o1, hc2, h⟩ := bnd_some h
  refine cV_i (rest := []) (w2 := (wd_X10_wake cy a_v a_v_by a_v_now a_v_st a_v_told a_v_isKept a_v_draft a_v_placedRow a_v_tape a_v_bestRow a_v_ways a_v_lanes a_v_sizes a_v_cells a_v_before v_hasOrder v_hasStart v_placed v_placedMany v_highest v_taped v_pos v_begun v_sort v_value v_fault v_wrongAt v_rightSum v_wrongSum v_allWays v_torn v_by v_now v_st v_told)) ⟨hx, hb, hml, hown, hts⟩ (c_X10_isBox l D cy sa a_v a_v_st a_v_now a_v_isKept a_v_draft a_v_placedRow a_v_tape a_v_by a_v_told a_v_bestRow a_v_ways a_v_lanes a_v_sizes a_v_cells a_v_before v_hasOrder v_hasStart v_placed v_placedMany v_highest v_taped v_pos v_begun v_sort v_value v_fault v_wrongAt v_rightSum v_wrongSum v_allWays v_torn v_st x1 o1 hc2) (cwV 1 hts gX10_wake_X10_isBox rfl rfl rfl (by decide +kernel) ⟨Nat.le_of_ble_eq_true rfl, Nat.le_of_ble_eq_true rfl⟩) rfl rfl rfl hE hP hDD rfl hS [0, 3] rfl rfl rfl rfl hl.1 (Nat.le_of_ble_eq_true rfl) ⟨Nat.zero_le _, Nat.zero_le _⟩ rfl dX10_wake_2 rfl (fun H locs hP hS => ?_)
  obtain ⟨hr3, h⟩ := chk_some h
  refine wi_if_eq (tgt := 27) hx hb dX10_wake_5 (by decide) hr3 (fun c5 => ?_) (fun c5 => ?_)
  · have h := ite_t c5 h
    refine wi_ic hx hb dX10_wake_27 ?_
    obtain rfl := Option.some.inj h
    exact KR _ _ _ _ hP hS dX10_wake_28
  · have h := ite_f c5 h
    refine lv_iload_n hx hb dX10_wake_8 rfl (lv_at hl 2 rfl) ?_
    obtain ⟨o6, hc7, h⟩ := bnd_some h
    refine cS_i (rest := []) (w2 := (wd_X10_wake cy a_v a_v_by a_v_now a_v_st a_v_told a_v_isKept a_v_draft a_v_placedRow a_v_tape a_v_bestRow a_v_ways a_v_lanes a_v_sizes a_v_cells a_v_before v_hasOrder v_hasStart v_placed v_placedMany v_highest v_taped v_pos v_begun v_sort v_value v_fault v_wrongAt v_rightSum v_wrongSum v_allWays v_torn v_by v_now v_st v_told)) ⟨hx, hb, hml, hown, hts⟩ (c_X10_isPart l D cy sa x2 o6 hc7) (va_cwS 1 hts gX10_wake_X10_isPart rfl rfl rfl (by decide +kernel) ⟨Nat.le_of_ble_eq_true rfl, Nat.le_of_ble_eq_true rfl⟩) hE hP hDD rfl hS [] rfl rfl rfl rfl hl.1 (Nat.le_of_ble_eq_true rfl) ⟨Nat.zero_le _, Nat.zero_le _⟩ rfl dX10_wake_9 rfl (fun H locs hP hS => ?_)
    obtain ⟨hr8, h⟩ := chk_some h
    refine wi_if_eq (tgt := 27) hx hb dX10_wake_12 (by decide) hr8 (fun c10 => ?_) (fun c10 => ?_)
    · have h := ite_t c10 h
      refine wi_ic hx hb dX10_wake_27 ?_
      obtain rfl := Option.some.inj h
      exact KR _ _ _ _ hP hS dX10_wake_28
    · have h := ite_f c10 h
      refine lv_aload_n hx hb dX10_wake_15 rfl (lv_at hl 0 rfl) ?_
      refine lv_iload_n hx hb dX10_wake_16 rfl (lv_at hl 1 rfl) ?_
      refine wi_ic hx hb dX10_wake_17 ?_
      refine wi_bi hx hb dX10_wake_18 (by decide) ?_
      refine lv_iload_n hx hb dX10_wake_20 rfl (lv_at hl 2 rfl) ?_
      obtain ⟨o11, hc12, h⟩ := bnd_some h
      refine cV_i (rest := []) (w2 := (wd_X10_wake cy a_v a_v_by a_v_now a_v_st a_v_told a_v_isKept a_v_draft a_v_placedRow a_v_tape a_v_bestRow a_v_ways a_v_lanes a_v_sizes a_v_cells a_v_before v_hasOrder v_hasStart v_placed v_placedMany v_highest v_taped v_pos v_begun v_sort v_value v_fault v_wrongAt v_rightSum v_wrongSum v_allWays v_torn o11.2.1 o11.2.2.1 v_st o11.2.2.2)) ⟨hx, hb, hml, hown, hts⟩ (c_X10_fewestBy l D cy sa a_v a_v_by a_v_now a_v_st a_v_told a_v_isKept a_v_draft a_v_placedRow a_v_tape a_v_bestRow a_v_ways a_v_lanes a_v_sizes a_v_cells a_v_before v_hasOrder v_hasStart v_placed v_placedMany v_highest v_taped v_pos v_begun v_sort v_value v_fault v_wrongAt v_rightSum v_wrongSum v_allWays v_torn v_by v_now v_st v_told x1 4 24 x2 o11 hc12) (cwV 4 hts gX10_wake_X10_fewestBy rfl rfl rfl (by decide +kernel) ⟨Nat.le_of_ble_eq_true rfl, Nat.le_of_ble_eq_true rfl⟩) rfl rfl rfl hE hP hDD rfl hS [0, 1, 2, 3, 4] rfl rfl rfl rfl hl.1 (Nat.le_of_ble_eq_true rfl) ⟨Nat.zero_le _, Nat.zero_le _⟩ rfl dX10_wake_21 rfl (fun H locs hP hS => ?_)
      refine lv_goto (tgt := 28) hx hb dX10_wake_24 (by decide) ?_
      obtain rfl := Option.some.inj h
      exact KR _ _ _ _ hP hS dX10_wake_28
abbrev wd_X10_where (cy : Nat → ClassId) (a_v : Nat) (a_v_by : Nat) (a_v_now : Nat) (a_v_st : Nat) (a_v_told : Nat) (a_v_isKept : Nat) (a_v_draft : Nat) (a_v_placedRow : Nat) (a_v_tape : Nat) (a_v_bestRow : Nat) (a_v_ways : Nat) (a_v_lanes : Nat) (a_v_sizes : Nat) (a_v_cells : Nat) (a_v_before : Nat) (v_hasOrder : Int) (v_hasStart : Int) (v_placed : Int) (v_placedMany : Int) (v_highest : Int) (v_taped : Int) (v_pos : Int) (v_begun : Int) (v_sort : Int) (v_value : Int) (v_fault : Int) (v_wrongAt : Int) (v_rightSum : Int) (v_wrongSum : Int) (v_allWays : Int) (v_torn : Int) (v_by : Nat → Int) (v_now : Nat → Int) (v_st : Nat → Int) (v_told : Nat → Int) : va_W := [(a_v, .inr (10, [.ref a_v_st, .ref a_v_now, .ref a_v_isKept, .ref a_v_draft, .int (zI v_hasOrder), .int (zI v_hasStart), .int (zI v_placed), .int (zI v_placedMany), .ref a_v_placedRow, .int (zI v_highest), .ref a_v_tape, .int (zI v_taped), .int (zI v_pos), .int (zI v_begun), .int (zI v_sort), .int (zI v_value), .int (zI v_fault), .int (zI v_wrongAt), .ref a_v_by, .ref a_v_told, .ref a_v_bestRow, .long (zL v_rightSum), .long (zL v_wrongSum), .long (zL v_allWays), .ref a_v_ways, .ref a_v_lanes, .ref a_v_sizes, .ref a_v_cells, .int (zI v_torn), .ref a_v_before])), (a_v_by, .inl (cy 0, 120, .inl (fun j => zI (v_by j)))), (a_v_now, .inl (cy 0, 56, .inl (fun j => zI (v_now j)))), (a_v_st, .inl (cy 0, 168, .inl (fun j => zI (v_st j)))), (a_v_told, .inl (cy 0, 120, .inl (fun j => zI (v_told j))))]
set_option maxHeartbeats 4000000 in
set_option maxRecDepth 100000 in
theorem c_X10_where (l : Launch) (D : va_G) (cy : Nat → ClassId) (sa : Nat → Nat) (a_v : Nat) (a_v_by : Nat) (a_v_now : Nat) (a_v_st : Nat) (a_v_told : Nat) (a_v_isKept : Nat) (a_v_draft : Nat) (a_v_placedRow : Nat) (a_v_tape : Nat) (a_v_bestRow : Nat) (a_v_ways : Nat) (a_v_lanes : Nat) (a_v_sizes : Nat) (a_v_cells : Nat) (a_v_before : Nat) (v_hasOrder : Int) (v_hasStart : Int) (v_placed : Int) (v_placedMany : Int) (v_highest : Int) (v_taped : Int) (v_pos : Int) (v_begun : Int) (v_sort : Int) (v_value : Int) (v_fault : Int) (v_wrongAt : Int) (v_rightSum : Int) (v_wrongSum : Int) (v_allWays : Int) (v_torn : Int) (v_by : Nat → Int) (v_now : Nat → Int) (v_st : Nat → Int) (v_told : Nat → Int) (x1 : Int) (x2 : Int) (o : Int × (Nat → Int) × (Nat → Int) × (Nat → Int)) (h : f_M_where v_by v_now v_st v_told x1 x2 = some o) : CtI l yX10_where wsX10_where ({ frames := 5, cells := 0, slots := 0, locals := 119 }) D cy sa [.ref a_v, .int (zI x1), .int (zI x2)] (wd_X10_where cy a_v a_v_by a_v_now a_v_st a_v_told a_v_isKept a_v_draft a_v_placedRow a_v_tape a_v_bestRow a_v_ways a_v_lanes a_v_sizes a_v_cells a_v_before v_hasOrder v_hasStart v_placed v_placedMany v_highest v_taped v_pos v_begun v_sort v_value v_fault v_wrongAt v_rightSum v_wrongSum v_allWays v_torn v_by v_now v_st v_told) (wd_X10_where cy a_v a_v_by a_v_now a_v_st a_v_told a_v_isKept a_v_draft a_v_placedRow a_v_tape a_v_bestRow a_v_ways a_v_lanes a_v_sizes a_v_cells a_v_before v_hasOrder v_hasStart v_placed v_placedMany v_highest v_taped v_pos v_begun v_sort v_value v_fault v_wrongAt v_rightSum v_wrongSum v_allWays v_torn o.2.1 o.2.2.1 v_st o.2.2.2) o.1 := by
  refine ct_I (cc := cX10_where) (maxL := 3) (plainFor_of_name (by decide)) rfl (Nat.le_of_ble_eq_true rfl) ?_
  intro p e s m below meth c A args QQ hx hb hml hown hts hE hDD hP KR ls hl
  have hl : lv_has ls 3 [(0, .ref a_v), (1, .int (zI x1)), (2, .int (zI x2))] := hl
  have hDD : DD A [a_v, a_v_by, a_v_now, a_v_st, a_v_told] := hDD
  have hS : va_S A s.heap s.heap [] := va_S.rf
  refine lv_aload_n hx hb dX10_where_0 rfl (lv_at hl 0 rfl) ?_
  refine lv_iload_n hx hb dX10_where_1 rfl (lv_at hl 1 rfl) ?_
  obtain ⟨o1, hc2, h⟩ := bnd_some h
  refine cV_i (rest := []) (w2 := (wd_X10_where cy a_v a_v_by a_v_now a_v_st a_v_told a_v_isKept a_v_draft a_v_placedRow a_v_tape a_v_bestRow a_v_ways a_v_lanes a_v_sizes a_v_cells a_v_before v_hasOrder v_hasStart v_placed v_placedMany v_highest v_taped v_pos v_begun v_sort v_value v_fault v_wrongAt v_rightSum v_wrongSum v_allWays v_torn v_by v_now v_st v_told)) ⟨hx, hb, hml, hown, hts⟩ (c_X10_isBox l D cy sa a_v a_v_st a_v_now a_v_isKept a_v_draft a_v_placedRow a_v_tape a_v_by a_v_told a_v_bestRow a_v_ways a_v_lanes a_v_sizes a_v_cells a_v_before v_hasOrder v_hasStart v_placed v_placedMany v_highest v_taped v_pos v_begun v_sort v_value v_fault v_wrongAt v_rightSum v_wrongSum v_allWays v_torn v_st x1 o1 hc2) (cwV 1 hts gX10_where_X10_isBox rfl rfl rfl (by decide +kernel) ⟨Nat.le_of_ble_eq_true rfl, Nat.le_of_ble_eq_true rfl⟩) rfl rfl rfl hE hP hDD rfl hS [0, 3] rfl rfl rfl rfl hl.1 (Nat.le_of_ble_eq_true rfl) ⟨Nat.zero_le _, Nat.zero_le _⟩ rfl dX10_where_2 rfl (fun H locs hP hS => ?_)
  obtain ⟨hr3, h⟩ := chk_some h
  refine wi_if_eq (tgt := 26) hx hb dX10_where_5 (by decide) hr3 (fun c5 => ?_) (fun c5 => ?_)
  · have h := ite_t c5 h
    refine wi_ic hx hb dX10_where_26 ?_
    obtain rfl := Option.some.inj h
    exact KR _ _ _ _ hP hS dX10_where_27
  · have h := ite_f c5 h
    refine lv_iload_n hx hb dX10_where_8 rfl (lv_at hl 2 rfl) ?_
    obtain ⟨o6, hc7, h⟩ := bnd_some h
    refine cS_i (rest := []) (w2 := (wd_X10_where cy a_v a_v_by a_v_now a_v_st a_v_told a_v_isKept a_v_draft a_v_placedRow a_v_tape a_v_bestRow a_v_ways a_v_lanes a_v_sizes a_v_cells a_v_before v_hasOrder v_hasStart v_placed v_placedMany v_highest v_taped v_pos v_begun v_sort v_value v_fault v_wrongAt v_rightSum v_wrongSum v_allWays v_torn v_by v_now v_st v_told)) ⟨hx, hb, hml, hown, hts⟩ (c_X10_isPart l D cy sa x2 o6 hc7) (va_cwS 1 hts gX10_where_X10_isPart rfl rfl rfl (by decide +kernel) ⟨Nat.le_of_ble_eq_true rfl, Nat.le_of_ble_eq_true rfl⟩) hE hP hDD rfl hS [] rfl rfl rfl rfl hl.1 (Nat.le_of_ble_eq_true rfl) ⟨Nat.zero_le _, Nat.zero_le _⟩ rfl dX10_where_9 rfl (fun H locs hP hS => ?_)
    obtain ⟨hr8, h⟩ := chk_some h
    refine wi_if_eq (tgt := 26) hx hb dX10_where_12 (by decide) hr8 (fun c10 => ?_) (fun c10 => ?_)
    · have h := ite_t c10 h
      refine wi_ic hx hb dX10_where_26 ?_
      obtain rfl := Option.some.inj h
      exact KR _ _ _ _ hP hS dX10_where_27
    · have h := ite_f c10 h
      refine lv_aload_n hx hb dX10_where_15 rfl (lv_at hl 0 rfl) ?_
      refine lv_iload_n hx hb dX10_where_16 rfl (lv_at hl 1 rfl) ?_
      refine wi_ic hx hb dX10_where_17 ?_
      refine wi_ic hx hb dX10_where_18 ?_
      refine lv_iload_n hx hb dX10_where_19 rfl (lv_at hl 2 rfl) ?_
      obtain ⟨o11, hc12, h⟩ := bnd_some h
      refine cV_i (rest := []) (w2 := (wd_X10_where cy a_v a_v_by a_v_now a_v_st a_v_told a_v_isKept a_v_draft a_v_placedRow a_v_tape a_v_bestRow a_v_ways a_v_lanes a_v_sizes a_v_cells a_v_before v_hasOrder v_hasStart v_placed v_placedMany v_highest v_taped v_pos v_begun v_sort v_value v_fault v_wrongAt v_rightSum v_wrongSum v_allWays v_torn o11.2.1 o11.2.2.1 v_st o11.2.2.2)) ⟨hx, hb, hml, hown, hts⟩ (c_X10_fewestBy l D cy sa a_v a_v_by a_v_now a_v_st a_v_told a_v_isKept a_v_draft a_v_placedRow a_v_tape a_v_bestRow a_v_ways a_v_lanes a_v_sizes a_v_cells a_v_before v_hasOrder v_hasStart v_placed v_placedMany v_highest v_taped v_pos v_begun v_sort v_value v_fault v_wrongAt v_rightSum v_wrongSum v_allWays v_torn v_by v_now v_st v_told x1 5 5 x2 o11 hc12) (cwV 4 hts gX10_where_X10_fewestBy rfl rfl rfl (by decide +kernel) ⟨Nat.le_of_ble_eq_true rfl, Nat.le_of_ble_eq_true rfl⟩) rfl rfl rfl hE hP hDD rfl hS [0, 1, 2, 3, 4] rfl rfl rfl rfl hl.1 (Nat.le_of_ble_eq_true rfl) ⟨Nat.zero_le _, Nat.zero_le _⟩ rfl dX10_where_20 rfl (fun H locs hP hS => ?_)
      refine lv_goto (tgt := 27) hx hb dX10_where_23 (by decide) ?_
      obtain rfl := Option.some.inj h
      exact KR _ _ _ _ hP hS dX10_where_27
abbrev wd_X10_common (cy : Nat → ClassId) : va_W := []
set_option maxHeartbeats 4000000 in
set_option maxRecDepth 100000 in
theorem c_X10_common (l : Launch) (D : va_G) (cy : Nat → ClassId) (sa : Nat → Nat) (x0 : Int) (x2 : Int) (o : Int) (h : f_M_common x0 x2 = some o) : CtL l yX10_common wsX10_common ({ frames := 0, cells := 0, slots := 0, locals := 0 }) D cy sa [.long (zL x0), .long (zL x2)] (wd_X10_common cy ) (wd_X10_common cy ) o := by
  refine ct_L (cc := cX10_common) (maxL := 10) (plainFor_of_name (by decide)) rfl (Nat.le_of_ble_eq_true rfl) ?_
  intro p e s m below meth c A args QQ hx hb hml hown hts hE hDD hP KR ls hl
  have hl : lv_has ls 10 [(0, .long (zL x0)), (2, .long (zL x2))] := hl
  have hDD : DD A [] := hDD
  have hS : va_S A s.heap s.heap [] := va_S.rf
  have L6 : ∀ (fuel : Nat) (x4 : Int) (x6 : Int) (H : Heap) (locs : List Loc) (ls : Array Slot) (ex : Int), va_P D vwCl (wd_X10_common cy ) H → va_S A s.heap H locs → lv_has ls 10 [(4, .long (zL x4)), (6, .long (zL x6))] → f_M_common_L6 fuel x4 x6 = some ex → (∀ (H : Heap) (locs : List Loc) (ls : Array Slot), va_P D vwCl (wd_X10_common cy ) H → va_S A s.heap H locs → lv_has ls 10 [(4, .long (zL ex))] → W p l e { frames := 0, cells := 0, slots := 0, locals := 0 } s m args below meth c H locs 0 0 QQ (F0 m 31 ls [])) → W p l e { frames := 0, cells := 0, slots := 0, locals := 0 } s m args below meth c H locs 0 0 QQ (F0 m 6 ls []) := by
    intro fuel
    induction fuel with
    | zero => intro _ _ H locs ls ex hP hS hl h K; cases h
    | succ fuel ih =>
      intro x4 x6 H locs ls ex hP hS hl h K
      refine lv_lload hx hb dX10_common_6 (lv_at hl 1 rfl) ?_
      refine wi_lc (v := 0) hx hb dX10_common_8 rfl ?_
      obtain ⟨hk1, h⟩ := chk_some h
      refine wi_lcmp hx hb dX10_common_9 hk1 (by decide) ?_
      refine wi_if_eq (tgt := 31) hx hb dX10_common_10 (by decide) (cmpZ_inR _ _) (fun c3 => ?_) (fun c3 => ?_)
      · have h := ite_t c3 h
        obtain rfl := Option.some.inj h
        exact K _ _ _ hP hS (lv_sub hl [0] rfl)
      · have h := ite_f c3 h
        refine lv_lload hx hb dX10_common_13 (lv_at hl 0 rfl) ?_
        refine lv_lload hx hb dX10_common_15 (lv_at hl 1 rfl) ?_
        obtain ⟨hk4, h⟩ := chk_some h
        refine wi_lrem hx hb dX10_common_17 hk4 ?_
        refine lv_lstore (lv' := [(8, .long (zL (x4 % x6))), (4, .long (zL x4)), (6, .long (zL x6))]) hx hb dX10_common_18 hl (by decide) rfl (fun ls hl => ?_)
        refine lv_lload hx hb dX10_common_20 (lv_at hl 2 rfl) ?_
        refine lv_lstore (lv' := [(4, .long (zL x6)), (8, .long (zL (x4 % x6))), (6, .long (zL x6))]) hx hb dX10_common_22 hl (by decide) rfl (fun ls hl => ?_)
        refine lv_lload hx hb dX10_common_24 (lv_at hl 1 rfl) ?_
        refine lv_lstore (lv' := [(6, .long (zL (x4 % x6))), (4, .long (zL x6)), (8, .long (zL (x4 % x6)))]) hx hb dX10_common_26 hl (by decide) rfl (fun ls hl => ?_)
        refine lv_goto (tgt := 6) hx hb dX10_common_28 (by decide) ?_
        exact ih x6 (x4 % x6) _ _ _ _ hP hS (lv_sub hl [1, 0] rfl) h K
  refine lv_lload_n hx hb dX10_common_0 rfl (lv_at hl 0 rfl) ?_
  refine lv_lstore (lv' := [(4, .long (zL x0)), (0, .long (zL x0)), (2, .long (zL x2))]) hx hb dX10_common_1 hl (by decide) rfl (fun ls hl => ?_)
  refine lv_lload_n hx hb dX10_common_3 rfl (lv_at hl 2 rfl) ?_
  refine lv_lstore (lv' := [(6, .long (zL x2)), (4, .long (zL x0)), (0, .long (zL x0)), (2, .long (zL x2))]) hx hb dX10_common_4 hl (by decide) rfl (fun ls hl => ?_)
  obtain ⟨o5, hx6, h⟩ := bnd_some h
  refine L6 5000 x0 x2 _ _ _ _ hP hS (lv_sub hl [1, 0] rfl) hx6 ?_
  clear hx6
  intro H locs ls hP hS hl
  refine lv_lload hx hb dX10_common_31 (lv_at hl 0 rfl) ?_
  obtain rfl := Option.some.inj h
  exact KR _ _ _ _ hP hS dX10_common_33
abbrev wd_X10_lowest (cy : Nat → ClassId) : va_W := []
set_option maxHeartbeats 4000000 in
set_option maxRecDepth 100000 in
theorem c_X10_lowest (l : Launch) (D : va_G) (cy : Nat → ClassId) (sa : Nat → Nat) (x0 : Int) (x2 : Int) (x4 : Int) (o : Int) (h : f_M_lowest x0 x2 x4 = some o) : CtL l yX10_lowest wsX10_lowest ({ frames := 1, cells := 0, slots := 0, locals := 29 }) D cy sa [.long (zL x0), .long (zL x2), .int (zI x4)] (wd_X10_lowest cy ) (wd_X10_lowest cy ) o := by
  refine ct_L (cc := cX10_lowest) (maxL := 7) (plainFor_of_name (by decide)) rfl (Nat.le_of_ble_eq_true rfl) ?_
  intro p e s m below meth c A args QQ hx hb hml hown hts hE hDD hP KR ls hl
  have hl : lv_has ls 7 [(0, .long (zL x0)), (2, .long (zL x2)), (4, .int (zI x4))] := hl
  have hDD : DD A [] := hDD
  have hS : va_S A s.heap s.heap [] := va_S.rf
  refine lv_lload_n hx hb dX10_lowest_0 rfl (lv_at hl 1 rfl) ?_
  refine lv_lload_n hx hb dX10_lowest_1 rfl (lv_at hl 0 rfl) ?_
  obtain ⟨o1, hc2, h⟩ := bnd_some h
  refine cS_l (rest := []) (w2 := (wd_X10_lowest cy )) ⟨hx, hb, hml, hown, hts⟩ (c_X10_common l D cy sa x2 x0 o1 hc2) (va_cwS 2 hts gX10_lowest_X10_common rfl rfl rfl (by decide +kernel) ⟨Nat.le_of_ble_eq_true rfl, Nat.le_of_ble_eq_true rfl⟩) hE hP hDD rfl hS [] rfl rfl rfl rfl hl.1 (Nat.le_of_ble_eq_true rfl) ⟨Nat.zero_le _, Nat.zero_le _⟩ rfl dX10_lowest_2 rfl (fun H locs hP hS => ?_)
  refine lv_lstore (lv' := [(5, .long (zL o1)), (0, .long (zL x0)), (2, .long (zL x2)), (4, .int (zI x4))]) hx hb dX10_lowest_5 hl (by decide) rfl (fun ls hl => ?_)
  refine lv_iload hx hb dX10_lowest_7 (lv_at hl 3 rfl) ?_
  obtain ⟨hr3, h⟩ := chk_some h
  refine wi_if_ne (tgt := 19) hx hb dX10_lowest_9 (by decide) hr3 (fun c5 => ?_) (fun c5 => ?_)
  · have h := ite_f c5 h
    refine lv_lload_n hx hb dX10_lowest_19 rfl (lv_at hl 2 rfl) ?_
    refine lv_lload hx hb dX10_lowest_20 (lv_at hl 0 rfl) ?_
    obtain ⟨hk6, h⟩ := chk_some h
    refine wi_ldiv hx hb dX10_lowest_22 hk6 ?_
    obtain rfl := Option.some.inj h
    exact KR _ _ _ _ hP hS dX10_lowest_23
  · have h := ite_t c5 h
    refine lv_lload_n hx hb dX10_lowest_12 rfl (lv_at hl 1 rfl) ?_
    refine lv_lload hx hb dX10_lowest_13 (lv_at hl 0 rfl) ?_
    obtain ⟨hk7, h⟩ := chk_some h
    refine wi_ldiv hx hb dX10_lowest_15 hk7 ?_
    refine lv_goto (tgt := 23) hx hb dX10_lowest_16 (by decide) ?_
    obtain rfl := Option.some.inj h
    exact KR _ _ _ _ hP hS dX10_lowest_23
