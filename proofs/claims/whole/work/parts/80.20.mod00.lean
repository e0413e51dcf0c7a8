abbrev wd_X10_in (cy : Nat → ClassId) : va_W := []
set_option maxHeartbeats 4000000 in
set_option maxRecDepth 100000 in
theorem c_X10_in (l : Launch) (D : va_G) (cy : Nat → ClassId) (sa : Nat → Nat) (x0 : Int) (x2 : Int) (x4 : Int) (o : Int) (h : f_M_in x0 x2 x4 = some o) : CtI l yX10_in wsX10_in ({ frames := 0, cells := 0, slots := 0, locals := 0 }) D cy sa [.long (zL x0), .long (zL x2), .long (zL x4)] (wd_X10_in cy ) (wd_X10_in cy ) o := by
  refine ct_Z (cc := cX10_in) (maxL := 6) (plainFor_of_name (by decide)) rfl (Nat.le_of_ble_eq_true rfl) ?_
  intro p e s m below meth c A args QQ hx hb hml hown hts hE hDD hP KR ls hl
  have hl : lv_has ls 6 [(0, .long (zL x0)), (2, .long (zL x2)), (4, .long (zL x4))] := hl
  have hDD : DD A [] := hDD
  have hS : va_S A s.heap s.heap [] := va_S.rf
  refine lv_lload_n hx hb dX10_in_0 rfl (lv_at hl 0 rfl) ?_
  refine lv_lload_n hx hb dX10_in_1 rfl (lv_at hl 1 rfl) ?_
  obtain ⟨hk1, h⟩ := chk_some h
  obtain ⟨hk2, h⟩ := chk_some h
  refine wi_lcmp hx hb dX10_in_2 hk1 hk2 ?_
  refine wi_if_lt (tgt := 17) hx hb dX10_in_3 (by decide) (cmpZ_inR _ _) (fun c4 => ?_) (fun c4 => ?_)
  · have h := ite_t c4 h
    refine wi_ic hx hb dX10_in_17 ?_
    obtain rfl := Option.some.inj h
    exact KR _ _ _ _ (z01 (Or.inl rfl)) hP hS dX10_in_18
  · have h := ite_f c4 h
    refine lv_lload_n hx hb dX10_in_6 rfl (lv_at hl 0 rfl) ?_
    refine lv_lload hx hb dX10_in_7 (lv_at hl 2 rfl) ?_
    obtain ⟨hk5, h⟩ := chk_some h
    refine wi_lcmp hx hb dX10_in_9 hk1 hk5 ?_
    refine wi_if_gt (tgt := 17) hx hb dX10_in_10 (by decide) (cmpZ_inR _ _) (fun c7 => ?_) (fun c7 => ?_)
    · have h := ite_t c7 h
      refine wi_ic hx hb dX10_in_17 ?_
      obtain rfl := Option.some.inj h
      exact KR _ _ _ _ (z01 (Or.inl rfl)) hP hS dX10_in_18
    · have h := ite_f c7 h
      refine wi_ic hx hb dX10_in_13 ?_
      refine lv_goto (tgt := 18) hx hb dX10_in_14 (by decide) ?_
      obtain rfl := Option.some.inj h
      exact KR _ _ _ _ (z01 (Or.inr rfl)) hP hS dX10_in_18
abbrev wd_X10_flag (cy : Nat → ClassId) : va_W := []
set_option maxHeartbeats 4000000 in
set_option maxRecDepth 100000 in
theorem c_X10_flag (l : Launch) (D : va_G) (cy : Nat → ClassId) (sa : Nat → Nat) (x0 : Int) (o : Int) (h : f_M_flag x0 = some o) : CtI l yX10_flag wsX10_flag ({ frames := 0, cells := 0, slots := 0, locals := 0 }) D cy sa [.int (zI x0)] (wd_X10_flag cy ) (wd_X10_flag cy ) o := by
  refine ct_I (cc := cX10_flag) (maxL := 1) (plainFor_of_name (by decide)) rfl (Nat.le_of_ble_eq_true rfl) ?_
  intro p e s m below meth c A args QQ hx hb hml hown hts hE hDD hP KR ls hl
  have hl : lv_has ls 1 [(0, .int (zI x0))] := hl
  have hDD : DD A [] := hDD
  have hS : va_S A s.heap s.heap [] := va_S.rf
  refine lv_iload_n hx hb dX10_flag_0 rfl (lv_at hl 0 rfl) ?_
  obtain ⟨hr1, h⟩ := chk_some h
  refine wi_if_eq (tgt := 8) hx hb dX10_flag_1 (by decide) hr1 (fun c3 => ?_) (fun c3 => ?_)
  · have h := ite_t c3 h
    refine wi_ic hx hb dX10_flag_8 ?_
    obtain rfl := Option.some.inj h
    exact KR _ _ _ _ hP hS dX10_flag_9
  · have h := ite_f c3 h
    refine wi_ic hx hb dX10_flag_4 ?_
    refine lv_goto (tgt := 9) hx hb dX10_flag_5 (by decide) ?_
    obtain rfl := Option.some.inj h
    exact KR _ _ _ _ hP hS dX10_flag_9
abbrev wd_X10_lesser (cy : Nat → ClassId) : va_W := []
set_option maxHeartbeats 4000000 in
set_option maxRecDepth 100000 in
theorem c_X10_lesser (l : Launch) (D : va_G) (cy : Nat → ClassId) (sa : Nat → Nat) (x0 : Int) (x1 : Int) (o : Int) (h : f_M_lesser x0 x1 = some o) : CtI l yX10_lesser wsX10_lesser ({ frames := 0, cells := 0, slots := 0, locals := 0 }) D cy sa [.int (zI x0), .int (zI x1)] (wd_X10_lesser cy ) (wd_X10_lesser cy ) o := by
  refine ct_I (cc := cX10_lesser) (maxL := 2) (plainFor_of_name (by decide)) rfl (Nat.le_of_ble_eq_true rfl) ?_
  intro p e s m below meth c A args QQ hx hb hml hown hts hE hDD hP KR ls hl
  have hl : lv_has ls 2 [(0, .int (zI x0)), (1, .int (zI x1))] := hl
  have hDD : DD A [] := hDD
  have hS : va_S A s.heap s.heap [] := va_S.rf
  refine lv_iload_n hx hb dX10_lesser_0 rfl (lv_at hl 0 rfl) ?_
  refine lv_iload_n hx hb dX10_lesser_1 rfl (lv_at hl 1 rfl) ?_
  obtain ⟨hr1, h⟩ := chk_some h
  obtain ⟨hr2, h⟩ := chk_some h
  refine wi_ic_ge (tgt := 9) hx hb dX10_lesser_2 (by decide) hr1 hr2 (fun c4 => ?_) (fun c4 => ?_)
  · have h := ite_t c4 h
    refine lv_iload_n hx hb dX10_lesser_9 rfl (lv_at hl 1 rfl) ?_
    obtain rfl := Option.some.inj h
    exact KR _ _ _ _ hP hS dX10_lesser_10
  · have h := ite_f c4 h
    refine lv_iload_n hx hb dX10_lesser_5 rfl (lv_at hl 0 rfl) ?_
    refine lv_goto (tgt := 10) hx hb dX10_lesser_6 (by decide) ?_
    obtain rfl := Option.some.inj h
    exact KR _ _ _ _ hP hS dX10_lesser_10
abbrev wd_X10_firstDraft (cy : Nat → ClassId) (a_v : Nat) (a_v_draft : Nat) (a_v_st : Nat) (a_v_now : Nat) (a_v_isKept : Nat) (a_v_placedRow : Nat) (a_v_tape : Nat) (a_v_by : Nat) (a_v_told : Nat) (a_v_bestRow : Nat) (a_v_ways : Nat) (a_v_lanes : Nat) (a_v_sizes : Nat) (a_v_cells : Nat) (a_v_before : Nat) (v_hasOrder : Int) (v_hasStart : Int) (v_placed : Int) (v_placedMany : Int) (v_highest : Int) (v_taped : Int) (v_pos : Int) (v_begun : Int) (v_sort : Int) (v_value : Int) (v_fault : Int) (v_wrongAt : Int) (v_rightSum : Int) (v_wrongSum : Int) (v_allWays : Int) (v_torn : Int) (v_draft : Nat → Int) : va_W := [(a_v, .inr (10, [.ref a_v_st, .ref a_v_now, .ref a_v_isKept, .ref a_v_draft, .int (zI v_hasOrder), .int (zI v_hasStart), .int (zI v_placed), .int (zI v_placedMany), .ref a_v_placedRow, .int (zI v_highest), .ref a_v_tape, .int (zI v_taped), .int (zI v_pos), .int (zI v_begun), .int (zI v_sort), .int (zI v_value), .int (zI v_fault), .int (zI v_wrongAt), .ref a_v_by, .ref a_v_told, .ref a_v_bestRow, .long (zL v_rightSum), .long (zL v_wrongSum), .long (zL v_allWays), .ref a_v_ways, .ref a_v_lanes, .ref a_v_sizes, .ref a_v_cells, .int (zI v_torn), .ref a_v_before])), (a_v_draft, .inl (cy 0, 56, .inl (fun j => zI (v_draft j))))]
set_option maxHeartbeats 4000000 in
set_option maxRecDepth 100000 in
theorem c_X10_firstDraft (l : Launch) (D : va_G) (cy : Nat → ClassId) (sa : Nat → Nat) (a_v : Nat) (a_v_draft : Nat) (a_v_st : Nat) (a_v_now : Nat) (a_v_isKept : Nat) (a_v_placedRow : Nat) (a_v_tape : Nat) (a_v_by : Nat) (a_v_told : Nat) (a_v_bestRow : Nat) (a_v_ways : Nat) (a_v_lanes : Nat) (a_v_sizes : Nat) (a_v_cells : Nat) (a_v_before : Nat) (v_hasOrder : Int) (v_hasStart : Int) (v_placed : Int) (v_placedMany : Int) (v_highest : Int) (v_taped : Int) (v_pos : Int) (v_begun : Int) (v_sort : Int) (v_value : Int) (v_fault : Int) (v_wrongAt : Int) (v_rightSum : Int) (v_wrongSum : Int) (v_allWays : Int) (v_torn : Int) (v_draft : Nat → Int) (o : Int × Int × Int × Int × Int × (Nat → Int)) (h : f_M_firstDraft v_hasOrder v_hasStart v_placed v_placedMany v_highest v_draft = some o) : CtV l yX10_firstDraft wsX10_firstDraft ({ frames := 0, cells := 0, slots := 0, locals := 0 }) D cy sa [.ref a_v] (wd_X10_firstDraft cy a_v a_v_draft a_v_st a_v_now a_v_isKept a_v_placedRow a_v_tape a_v_by a_v_told a_v_bestRow a_v_ways a_v_lanes a_v_sizes a_v_cells a_v_before v_hasOrder v_hasStart v_placed v_placedMany v_highest v_taped v_pos v_begun v_sort v_value v_fault v_wrongAt v_rightSum v_wrongSum v_allWays v_torn v_draft) (wd_X10_firstDraft cy a_v a_v_draft a_v_st a_v_now a_v_isKept a_v_placedRow a_v_tape a_v_by a_v_told a_v_bestRow a_v_ways a_v_lanes a_v_sizes a_v_cells a_v_before o.1 o.2.1 o.2.2.1 o.2.2.2.1 o.2.2.2.2.1 v_taped v_pos v_begun v_sort v_value v_fault v_wrongAt v_rightSum v_wrongSum v_allWays v_torn o.2.2.2.2.2)  := by
  refine ct_V (cc := cX10_firstDraft) (maxL := 2) (plainFor_of_name (by decide)) rfl (Nat.le_of_ble_eq_true rfl) ?_
  intro p e s m below meth c A args QQ hx hb hml hown hts hE hDD hP KR ls hl
  have hl : lv_has ls 2 [(0, .ref a_v)] := hl
  have hDD : DD A [a_v, a_v_draft] := hDD
  have hS : va_S A s.heap s.heap [] := va_S.rf
  have q0 := hts (.fieldLink RX10 20 "HatHoursModel" "draft" "[I") (List.mem_of_getElem? (i := 1) rfl)
  have q1 := hts (.fieldLink RX10 59 "HatHoursModel" "hasOrder" "Z") (List.mem_of_getElem? (i := 2) rfl)
  have q2 := hts (.fieldLink RX10 63 "HatHoursModel" "hasStart" "Z") (List.mem_of_getElem? (i := 3) rfl)
  have q3 := hts (.fieldLink RX10 66 "HatHoursModel" "placed" "I") (List.mem_of_getElem? (i := 4) rfl)
  have q4 := hts (.fieldLink RX10 70 "HatHoursModel" "placedMany" "I") (List.mem_of_getElem? (i := 5) rfl)
  have q5 := hts (.fieldLink RX10 73 "HatHoursModel" "highest" "I") (List.mem_of_getElem? (i := 6) rfl)
  have iX10 : ∀ w ∈ u_ws RX10 TX10 30, w ∈ wsX10_firstDraft := in_slice 7 30 rfl
  have L2 : ∀ (fuel : Nat) (v_hasOrder : Int) (v_hasStart : Int) (v_placed : Int) (v_placedMany : Int) (v_highest : Int) (v_draft : Nat → Int) (x1 : Int) (H : Heap) (locs : List Loc) (ls : Array Slot) (ex : (Nat → Int)), va_P D vwCl (wd_X10_firstDraft cy a_v a_v_draft a_v_st a_v_now a_v_isKept a_v_placedRow a_v_tape a_v_by a_v_told a_v_bestRow a_v_ways a_v_lanes a_v_sizes a_v_cells a_v_before v_hasOrder v_hasStart v_placed v_placedMany v_highest v_taped v_pos v_begun v_sort v_value v_fault v_wrongAt v_rightSum v_wrongSum v_allWays v_torn v_draft) H → va_S A s.heap H locs → lv_has ls 2 [(0, .ref a_v), (1, .int (zI x1))] → f_M_firstDraft_L2 fuel v_draft x1 = some ex → (∀ (H : Heap) (locs : List Loc) (ls : Array Slot), va_P D vwCl (wd_X10_firstDraft cy a_v a_v_draft a_v_st a_v_now a_v_isKept a_v_placedRow a_v_tape a_v_by a_v_told a_v_bestRow a_v_ways a_v_lanes a_v_sizes a_v_cells a_v_before v_hasOrder v_hasStart v_placed v_placedMany v_highest v_taped v_pos v_begun v_sort v_value v_fault v_wrongAt v_rightSum v_wrongSum v_allWays v_torn ex) H → va_S A s.heap H locs → lv_has ls 2 [(0, .ref a_v)] → W p l e { frames := 0, cells := 0, slots := 0, locals := 0 } s m args below meth c H locs 0 0 QQ (F0 m 21 ls [])) → W p l e { frames := 0, cells := 0, slots := 0, locals := 0 } s m args below meth c H locs 0 0 QQ (F0 m 2 ls []) := by
    intro fuel
    induction fuel with
    | zero => intro _ _ _ _ _ _ _ H locs ls ex hP hS hl h K; cases h
    | succ fuel ih =>
      intro v_hasOrder v_hasStart v_placed v_placedMany v_highest v_draft x1 H locs ls ex hP hS hl h K
      refine lv_iload_n hx hb dX10_firstDraft_2 rfl (lv_at hl 1 rfl) ?_
      refine wi_bi hx hb dX10_firstDraft_3 (by decide) ?_
      obtain ⟨hr1, h⟩ := chk_some h
      refine wi_ic_ge (tgt := 21) hx hb dX10_firstDraft_5 (by decide) hr1 (by decide) (fun c3 => ?_) (fun c3 => ?_)
      · have h := ite_t c3 h
        obtain rfl := Option.some.inj h
        exact K _ _ _ hP hS (lv_sub hl [0] rfl)
      · have h := ite_f c3 h
        refine lv_aload_n hx hb dX10_firstDraft_8 rfl (lv_at hl 0 rfl) ?_
        refine wi_get (v := .ref a_v_draft) hx hb hts iX10 hown hE hP 0 rfl rfl 3 (by decide) q0 rfl dX10_firstDraft_9 ?_
        refine lv_iload_n hx hb dX10_firstDraft_12 rfl (lv_at hl 1 rfl) ?_
        refine wi_ic hx hb dX10_firstDraft_13 ?_
        obtain ⟨hk4, h⟩ := chk_some h
        refine wi_iast (w2 := (wd_X10_firstDraft cy a_v a_v_draft a_v_st a_v_now a_v_isKept a_v_placedRow a_v_tape a_v_by a_v_told a_v_bestRow a_v_ways a_v_lanes a_v_sizes a_v_cells a_v_before v_hasOrder v_hasStart v_placed v_placedMany v_highest v_taped v_pos v_begun v_sort v_value v_fault v_wrongAt v_rightSum v_wrongSum v_allWays v_torn (upZ v_draft (x1).toNat 0))) hx hb hE hP hDD rfl hS 1 rfl (by decide) hk4 dX10_firstDraft_14 rfl (fun H locs hP hS => ?_)
        refine wi_iinc (k := 1) (lv' := [(1, .int (zI (x1 + 1))), (0, .ref a_v)]) hx hb dX10_firstDraft_15 hl rfl (by decide) rfl (fun ls hl => ?_)
        refine lv_goto (tgt := 2) hx hb dX10_firstDraft_18 (by decide) ?_
        exact ih v_hasOrder v_hasStart v_placed v_placedMany v_highest (upZ v_draft (x1).toNat 0) (x1 + 1) _ _ _ _ hP hS (lv_sub hl [1, 0] rfl) h K
  refine wi_ic hx hb dX10_firstDraft_0 ?_
  refine lv_istore_n (lv' := [(1, .int (zI 0)), (0, .ref a_v)]) hx hb dX10_firstDraft_1 rfl hl (by decide) rfl (fun ls hl => ?_)
  obtain ⟨o5, hx6, h⟩ := bnd_some h
  refine L2 5000 v_hasOrder v_hasStart v_placed v_placedMany v_highest v_draft 0 _ _ _ _ hP hS (lv_sub hl [1, 0] rfl) hx6 ?_
  clear hx6
  intro H locs ls hP hS hl
  refine lv_aload_n hx hb dX10_firstDraft_21 rfl (lv_at hl 0 rfl) ?_
  refine wi_get (v := .ref a_v_draft) hx hb hts iX10 hown hE hP 0 rfl rfl 3 (by decide) q0 rfl dX10_firstDraft_22 ?_
  refine wi_bi hx hb dX10_firstDraft_25 (by decide) ?_
  refine wi_bi hx hb dX10_firstDraft_27 (by decide) ?_
  refine wi_iast (w2 := (wd_X10_firstDraft cy a_v a_v_draft a_v_st a_v_now a_v_isKept a_v_placedRow a_v_tape a_v_by a_v_told a_v_bestRow a_v_ways a_v_lanes a_v_sizes a_v_cells a_v_before v_hasOrder v_hasStart v_placed v_placedMany v_highest v_taped v_pos v_begun v_sort v_value v_fault v_wrongAt v_rightSum v_wrongSum v_allWays v_torn (upZ o5 36 6))) hx hb hE hP hDD rfl hS 1 rfl (by decide) (by decide) dX10_firstDraft_29 rfl (fun H locs hP hS => ?_)
  refine lv_aload_n hx hb dX10_firstDraft_30 rfl (lv_at hl 0 rfl) ?_
  refine wi_ic hx hb dX10_firstDraft_31 ?_
  refine wi_put (ty := .boolean) (v := .int (zI 0)) (w2 := (wd_X10_firstDraft cy a_v a_v_draft a_v_st a_v_now a_v_isKept a_v_placedRow a_v_tape a_v_by a_v_told a_v_bestRow a_v_ways a_v_lanes a_v_sizes a_v_cells a_v_before 0 v_hasStart v_placed v_placedMany v_highest v_taped v_pos v_begun v_sort v_value v_fault v_wrongAt v_rightSum v_wrongSum v_allWays v_torn (upZ o5 36 6))) hx hb hts iX10 tyX10 tyX10_ok nmX10 hown hE hP hDD rfl hS 0 rfl rfl 4 (by decide) q1 rfl (by decide +kernel) rfl rfl (Nat.le_of_ble_eq_true rfl) dX10_firstDraft_32 rfl (fun H locs hP hS => ?_)
  refine lv_aload_n hx hb dX10_firstDraft_35 rfl (lv_at hl 0 rfl) ?_
  refine wi_ic hx hb dX10_firstDraft_36 ?_
  refine wi_put (ty := .boolean) (v := .int (zI 0)) (w2 := (wd_X10_firstDraft cy a_v a_v_draft a_v_st a_v_now a_v_isKept a_v_placedRow a_v_tape a_v_by a_v_told a_v_bestRow a_v_ways a_v_lanes a_v_sizes a_v_cells a_v_before 0 0 v_placed v_placedMany v_highest v_taped v_pos v_begun v_sort v_value v_fault v_wrongAt v_rightSum v_wrongSum v_allWays v_torn (upZ o5 36 6))) hx hb hts iX10 tyX10 tyX10_ok nmX10 hown hE hP hDD rfl hS 0 rfl rfl 5 (by decide) q2 rfl (by decide +kernel) rfl rfl (Nat.le_of_ble_eq_true rfl) dX10_firstDraft_37 rfl (fun H locs hP hS => ?_)
  refine lv_aload_n hx hb dX10_firstDraft_40 rfl (lv_at hl 0 rfl) ?_
  refine wi_ic hx hb dX10_firstDraft_41 ?_
  refine wi_put (ty := .int) (v := .int (zI 0)) (w2 := (wd_X10_firstDraft cy a_v a_v_draft a_v_st a_v_now a_v_isKept a_v_placedRow a_v_tape a_v_by a_v_told a_v_bestRow a_v_ways a_v_lanes a_v_sizes a_v_cells a_v_before 0 0 0 v_placedMany v_highest v_taped v_pos v_begun v_sort v_value v_fault v_wrongAt v_rightSum v_wrongSum v_allWays v_torn (upZ o5 36 6))) hx hb hts iX10 tyX10 tyX10_ok nmX10 hown hE hP hDD rfl hS 0 rfl rfl 6 (by decide) q3 rfl (by decide +kernel) rfl rfl (Nat.le_of_ble_eq_true rfl) dX10_firstDraft_42 rfl (fun H locs hP hS => ?_)
  refine lv_aload_n hx hb dX10_firstDraft_45 rfl (lv_at hl 0 rfl) ?_
  refine wi_ic hx hb dX10_firstDraft_46 ?_
  refine wi_put (ty := .int) (v := .int (zI 0)) (w2 := (wd_X10_firstDraft cy a_v a_v_draft a_v_st a_v_now a_v_isKept a_v_placedRow a_v_tape a_v_by a_v_told a_v_bestRow a_v_ways a_v_lanes a_v_sizes a_v_cells a_v_before 0 0 0 0 v_highest v_taped v_pos v_begun v_sort v_value v_fault v_wrongAt v_rightSum v_wrongSum v_allWays v_torn (upZ o5 36 6))) hx hb hts iX10 tyX10 tyX10_ok nmX10 hown hE hP hDD rfl hS 0 rfl rfl 7 (by decide) q4 rfl (by decide +kernel) rfl rfl (Nat.le_of_ble_eq_true rfl) dX10_firstDraft_47 rfl (fun H locs hP hS => ?_)
  refine lv_aload_n hx hb dX10_firstDraft_50 rfl (lv_at hl 0 rfl) ?_
  refine wi_bi hx hb dX10_firstDraft_51 (by decide) ?_
  refine wi_put (ty := .int) (v := .int (zI (-4))) (w2 := (wd_X10_firstDraft cy a_v a_v_draft a_v_st a_v_now a_v_isKept a_v_placedRow a_v_tape a_v_by a_v_told a_v_bestRow a_v_ways a_v_lanes a_v_sizes a_v_cells a_v_before 0 0 0 0 (-4) v_taped v_pos v_begun v_sort v_value v_fault v_wrongAt v_rightSum v_wrongSum v_allWays v_torn (upZ o5 36 6))) hx hb hts iX10 tyX10 tyX10_ok nmX10 hown hE hP hDD rfl hS 0 rfl rfl 9 (by decide) q5 rfl (by decide +kernel) rfl rfl (Nat.le_of_ble_eq_true rfl) dX10_firstDraft_53 rfl (fun H locs hP hS => ?_)
  obtain rfl := Option.some.inj h
  exact KR _ _ _ _ hP hS dX10_firstDraft_56
abbrev wd_X10_keepDraft (cy : Nat → ClassId) (a_v : Nat) (a_v_draft : Nat) (a_v_isKept : Nat) (a_v_placedRow : Nat) (a_v_st : Nat) (a_v_now : Nat) (a_v_tape : Nat) (a_v_by : Nat) (a_v_told : Nat) (a_v_bestRow : Nat) (a_v_ways : Nat) (a_v_lanes : Nat) (a_v_sizes : Nat) (a_v_cells : Nat) (a_v_before : Nat) (v_hasOrder : Int) (v_hasStart : Int) (v_placed : Int) (v_placedMany : Int) (v_highest : Int) (v_taped : Int) (v_pos : Int) (v_begun : Int) (v_sort : Int) (v_value : Int) (v_fault : Int) (v_wrongAt : Int) (v_rightSum : Int) (v_wrongSum : Int) (v_allWays : Int) (v_torn : Int) (v_draft : Nat → Int) (v_isKept : Nat → Int) (v_placedRow : Nat → Int) (v_st : Nat → Int) : va_W := [(a_v, .inr (10, [.ref a_v_st, .ref a_v_now, .ref a_v_isKept, .ref a_v_draft, .int (zI v_hasOrder), .int (zI v_hasStart), .int (zI v_placed), .int (zI v_placedMany), .ref a_v_placedRow, .int (zI v_highest), .ref a_v_tape, .int (zI v_taped), .int (zI v_pos), .int (zI v_begun), .int (zI v_sort), .int (zI v_value), .int (zI v_fault), .int (zI v_wrongAt), .ref a_v_by, .ref a_v_told, .ref a_v_bestRow, .long (zL v_rightSum), .long (zL v_wrongSum), .long (zL v_allWays), .ref a_v_ways, .ref a_v_lanes, .ref a_v_sizes, .ref a_v_cells, .int (zI v_torn), .ref a_v_before])), (a_v_draft, .inl (cy 0, 56, .inl (fun j => zI (v_draft j)))), (a_v_isKept, .inl (cy 3, 2, .inl (fun j => zI (v_isKept j)))), (a_v_placedRow, .inl (cy 0, 5, .inl (fun j => zI (v_placedRow j)))), (a_v_st, .inl (cy 0, 168, .inl (fun j => zI (v_st j))))]
set_option maxHeartbeats 4000000 in
set_option maxRecDepth 100000 in
theorem c_X10_keepDraft (l : Launch) (D : va_G) (cy : Nat → ClassId) (sa : Nat → Nat) (a_v : Nat) (a_v_draft : Nat) (a_v_isKept : Nat) (a_v_placedRow : Nat) (a_v_st : Nat) (a_v_now : Nat) (a_v_tape : Nat) (a_v_by : Nat) (a_v_told : Nat) (a_v_bestRow : Nat) (a_v_ways : Nat) (a_v_lanes : Nat) (a_v_sizes : Nat) (a_v_cells : Nat) (a_v_before : Nat) (v_hasOrder : Int) (v_hasStart : Int) (v_placed : Int) (v_placedMany : Int) (v_highest : Int) (v_taped : Int) (v_pos : Int) (v_begun : Int) (v_sort : Int) (v_value : Int) (v_fault : Int) (v_wrongAt : Int) (v_rightSum : Int) (v_wrongSum : Int) (v_allWays : Int) (v_torn : Int) (v_draft : Nat → Int) (v_isKept : Nat → Int) (v_placedRow : Nat → Int) (v_st : Nat → Int) (o : (Nat → Int) × (Nat → Int)) (h : f_M_keepDraft v_placed v_placedMany v_draft v_isKept v_placedRow v_st = some o) : CtV l yX10_keepDraft wsX10_keepDraft ({ frames := 0, cells := 0, slots := 0, locals := 0 }) D cy sa [.ref a_v] (wd_X10_keepDraft cy a_v a_v_draft a_v_isKept a_v_placedRow a_v_st a_v_now a_v_tape a_v_by a_v_told a_v_bestRow a_v_ways a_v_lanes a_v_sizes a_v_cells a_v_before v_hasOrder v_hasStart v_placed v_placedMany v_highest v_taped v_pos v_begun v_sort v_value v_fault v_wrongAt v_rightSum v_wrongSum v_allWays v_torn v_draft v_isKept v_placedRow v_st) (wd_X10_keepDraft cy a_v a_v_draft a_v_isKept a_v_placedRow a_v_st a_v_now a_v_tape a_v_by a_v_told a_v_bestRow a_v_ways a_v_lanes a_v_sizes a_v_cells a_v_before v_hasOrder v_hasStart v_placed v_placedMany v_highest v_taped v_pos v_begun v_sort v_value v_fault v_wrongAt v_rightSum v_wrongSum v_allWays v_torn v_draft o.1 v_placedRow o.2)  := by
  refine ct_V (cc := cX10_keepDraft) (maxL := 3) (plainFor_of_name (by decide)) rfl (Nat.le_of_ble_eq_true rfl) ?_
  intro p e s m below meth c A args QQ hx hb hml hown hts hE hDD hP KR ls hl
  have hl : lv_has ls 3 [(0, .ref a_v)] := hl
  have hDD : DD A [a_v, a_v_draft, a_v_isKept, a_v_placedRow, a_v_st] := hDD
  have hS : va_S A s.heap s.heap [] := va_S.rf
  have q0 := hts (.fieldLink RX10 7 "HatHoursModel" "st" "[I") (List.mem_of_getElem? (i := 1) rfl)
  have q1 := hts (.fieldLink RX10 20 "HatHoursModel" "draft" "[I") (List.mem_of_getElem? (i := 2) rfl)
  have q2 := hts (.fieldLink RX10 70 "HatHoursModel" "placedMany" "I") (List.mem_of_getElem? (i := 3) rfl)
  have q3 := hts (.fieldLink RX10 23 "HatHoursModel" "placedRow" "[I") (List.mem_of_getElem? (i := 4) rfl)
  have q4 := hts (.fieldLink RX10 66 "HatHoursModel" "placed" "I") (List.mem_of_getElem? (i := 5) rfl)
  have q5 := hts (.fieldLink RX10 16 "HatHoursModel" "isKept" "[Z") (List.mem_of_getElem? (i := 6) rfl)
  have iX10 : ∀ w ∈ u_ws RX10 TX10 30, w ∈ wsX10_keepDraft := in_slice 7 30 rfl
  have L2 : ∀ (fuel : Nat) (v_isKept : Nat → Int) (v_st : Nat → Int) (x1 : Int) (H : Heap) (locs : List Loc) (ls : Array Slot) (ex : (Nat → Int)), va_P D vwCl (wd_X10_keepDraft cy a_v a_v_draft a_v_isKept a_v_placedRow a_v_st a_v_now a_v_tape a_v_by a_v_told a_v_bestRow a_v_ways a_v_lanes a_v_sizes a_v_cells a_v_before v_hasOrder v_hasStart v_placed v_placedMany v_highest v_taped v_pos v_begun v_sort v_value v_fault v_wrongAt v_rightSum v_wrongSum v_allWays v_torn v_draft v_isKept v_placedRow v_st) H → va_S A s.heap H locs → lv_has ls 3 [(0, .ref a_v), (1, .int (zI x1))] → f_M_keepDraft_L2 fuel v_draft v_st x1 = some ex → (∀ (H : Heap) (locs : List Loc) (ls : Array Slot), va_P D vwCl (wd_X10_keepDraft cy a_v a_v_draft a_v_isKept a_v_placedRow a_v_st a_v_now a_v_tape a_v_by a_v_told a_v_bestRow a_v_ways a_v_lanes a_v_sizes a_v_cells a_v_before v_hasOrder v_hasStart v_placed v_placedMany v_highest v_taped v_pos v_begun v_sort v_value v_fault v_wrongAt v_rightSum v_wrongSum v_allWays v_torn v_draft v_isKept v_placedRow ex) H → va_S A s.heap H locs → lv_has ls 3 [(0, .ref a_v)] → W p l e { frames := 0, cells := 0, slots := 0, locals := 0 } s m args below meth c H locs 0 0 QQ (F0 m 26 ls [])) → W p l e { frames := 0, cells := 0, slots := 0, locals := 0 } s m args below meth c H locs 0 0 QQ (F0 m 2 ls []) := by
    intro fuel
    induction fuel with
    | zero => intro _ _ _ H locs ls ex hP hS hl h K; cases h
    | succ fuel ih =>
      intro v_isKept v_st x1 H locs ls ex hP hS hl h K
      refine lv_iload_n hx hb dX10_keepDraft_2 rfl (lv_at hl 1 rfl) ?_
      refine wi_bi hx hb dX10_keepDraft_3 (by decide) ?_
      obtain ⟨hr1, h⟩ := chk_some h
      refine wi_ic_ge (tgt := 26) hx hb dX10_keepDraft_5 (by decide) hr1 (by decide) (fun c3 => ?_) (fun c3 => ?_)
      · have h := ite_t c3 h
        obtain rfl := Option.some.inj h
        exact K _ _ _ hP hS (lv_sub hl [0] rfl)
      · have h := ite_f c3 h
        refine lv_aload_n hx hb dX10_keepDraft_8 rfl (lv_at hl 0 rfl) ?_
        refine wi_get (v := .ref a_v_st) hx hb hts iX10 hown hE hP 0 rfl rfl 0 (by decide) q0 rfl dX10_keepDraft_9 ?_
        refine lv_iload_n hx hb dX10_keepDraft_12 rfl (lv_at hl 1 rfl) ?_
        refine lv_aload_n hx hb dX10_keepDraft_13 rfl (lv_at hl 0 rfl) ?_
        refine wi_get (v := .ref a_v_draft) hx hb hts iX10 hown hE hP 0 rfl rfl 3 (by decide) q1 rfl dX10_keepDraft_14 ?_
        refine lv_iload_n hx hb dX10_keepDraft_17 rfl (lv_at hl 1 rfl) ?_
        obtain ⟨hk4, h⟩ := chk_some h
        refine wi_iald hx hb hE hP 1 rfl (by decide) hk4 dX10_keepDraft_18 ?_
        obtain ⟨hk5, h⟩ := chk_some h
        refine wi_iast (w2 := (wd_X10_keepDraft cy a_v a_v_draft a_v_isKept a_v_placedRow a_v_st a_v_now a_v_tape a_v_by a_v_told a_v_bestRow a_v_ways a_v_lanes a_v_sizes a_v_cells a_v_before v_hasOrder v_hasStart v_placed v_placedMany v_highest v_taped v_pos v_begun v_sort v_value v_fault v_wrongAt v_rightSum v_wrongSum v_allWays v_torn v_draft v_isKept v_placedRow (upZ v_st (x1).toNat (v_draft (x1).toNat)))) hx hb hE hP hDD rfl hS 4 rfl (by decide) hk5 dX10_keepDraft_19 rfl (fun H locs hP hS => ?_)
        refine wi_iinc (k := 1) (lv' := [(1, .int (zI (x1 + 1))), (0, .ref a_v)]) hx hb dX10_keepDraft_20 hl rfl (by decide) rfl (fun ls hl => ?_)
        refine lv_goto (tgt := 2) hx hb dX10_keepDraft_23 (by decide) ?_
        exact ih v_isKept (upZ v_st (x1).toNat (v_draft (x1).toNat)) (x1 + 1) _ _ _ _ hP hS (lv_sub hl [1, 0] rfl) h K
  have L28 : ∀ (fuel : Nat) (v_isKept : Nat → Int) (v_st : Nat → Int) (x1 : Int) (H : Heap) (locs : List Loc) (ls : Array Slot) (ex : (Nat → Int)), va_P D vwCl (wd_X10_keepDraft cy a_v a_v_draft a_v_isKept a_v_placedRow a_v_st a_v_now a_v_tape a_v_by a_v_told a_v_bestRow a_v_ways a_v_lanes a_v_sizes a_v_cells a_v_before v_hasOrder v_hasStart v_placed v_placedMany v_highest v_taped v_pos v_begun v_sort v_value v_fault v_wrongAt v_rightSum v_wrongSum v_allWays v_torn v_draft v_isKept v_placedRow v_st) H → va_S A s.heap H locs → lv_has ls 3 [(0, .ref a_v), (1, .int (zI x1))] → f_M_keepDraft_L28 fuel v_placedMany v_placedRow v_st x1 = some ex → (∀ (H : Heap) (locs : List Loc) (ls : Array Slot), va_P D vwCl (wd_X10_keepDraft cy a_v a_v_draft a_v_isKept a_v_placedRow a_v_st a_v_now a_v_tape a_v_by a_v_told a_v_bestRow a_v_ways a_v_lanes a_v_sizes a_v_cells a_v_before v_hasOrder v_hasStart v_placed v_placedMany v_highest v_taped v_pos v_begun v_sort v_value v_fault v_wrongAt v_rightSum v_wrongSum v_allWays v_torn v_draft v_isKept v_placedRow ex) H → va_S A s.heap H locs → lv_has ls 3 [(0, .ref a_v)] → W p l e { frames := 0, cells := 0, slots := 0, locals := 0 } s m args below meth c H locs 0 0 QQ (F0 m 57 ls [])) → W p l e { frames := 0, cells := 0, slots := 0, locals := 0 } s m args below meth c H locs 0 0 QQ (F0 m 28 ls []) := by
    intro fuel
    induction fuel with
    | zero => intro _ _ _ H locs ls ex hP hS hl h K; cases h
    | succ fuel ih =>
      intro v_isKept v_st x1 H locs ls ex hP hS hl h K
      refine lv_iload_n hx hb dX10_keepDraft_28 rfl (lv_at hl 1 rfl) ?_
      refine lv_aload_n hx hb dX10_keepDraft_29 rfl (lv_at hl 0 rfl) ?_
      refine wi_get (v := .int (zI v_placedMany)) hx hb hts iX10 hown hE hP 0 rfl rfl 7 (by decide) q2 rfl dX10_keepDraft_30 ?_
      obtain ⟨hr8, h⟩ := chk_some h
      obtain ⟨hr9, h⟩ := chk_some h
      refine wi_ic_ge (tgt := 57) hx hb dX10_keepDraft_33 (by decide) hr8 hr9 (fun c11 => ?_) (fun c11 => ?_)
      · have h := ite_t c11 h
        obtain rfl := Option.some.inj h
        exact K _ _ _ hP hS (lv_sub hl [0] rfl)
      · have h := ite_f c11 h
        refine lv_aload_n hx hb dX10_keepDraft_36 rfl (lv_at hl 0 rfl) ?_
        refine wi_get (v := .ref a_v_st) hx hb hts iX10 hown hE hP 0 rfl rfl 0 (by decide) q0 rfl dX10_keepDraft_37 ?_
        refine wi_bi hx hb dX10_keepDraft_40 (by decide) ?_
        refine lv_iload_n hx hb dX10_keepDraft_42 rfl (lv_at hl 1 rfl) ?_
        refine wi_iadd hx hb dX10_keepDraft_43 ?_
        refine lv_aload_n hx hb dX10_keepDraft_44 rfl (lv_at hl 0 rfl) ?_
        refine wi_get (v := .ref a_v_placedRow) hx hb hts iX10 hown hE hP 0 rfl rfl 8 (by decide) q3 rfl dX10_keepDraft_45 ?_
        refine lv_iload_n hx hb dX10_keepDraft_48 rfl (lv_at hl 1 rfl) ?_
        obtain ⟨hk12, h⟩ := chk_some h
        refine wi_iald hx hb hE hP 3 rfl (by decide) hk12 dX10_keepDraft_49 ?_
        obtain ⟨hk13, h⟩ := chk_some h
        refine wi_iast (w2 := (wd_X10_keepDraft cy a_v a_v_draft a_v_isKept a_v_placedRow a_v_st a_v_now a_v_tape a_v_by a_v_told a_v_bestRow a_v_ways a_v_lanes a_v_sizes a_v_cells a_v_before v_hasOrder v_hasStart v_placed v_placedMany v_highest v_taped v_pos v_begun v_sort v_value v_fault v_wrongAt v_rightSum v_wrongSum v_allWays v_torn v_draft v_isKept v_placedRow (upZ v_st (31 + x1).toNat (v_placedRow (x1).toNat)))) hx hb hE hP hDD rfl hS 4 rfl (by decide) hk13 dX10_keepDraft_50 rfl (fun H locs hP hS => ?_)
        refine wi_iinc (k := 1) (lv' := [(1, .int (zI (x1 + 1))), (0, .ref a_v)]) hx hb dX10_keepDraft_51 hl rfl (by decide) rfl (fun ls hl => ?_)
        refine lv_goto (tgt := 28) hx hb dX10_keepDraft_54 (by decide) ?_
        exact ih v_isKept (upZ v_st (31 + x1).toNat (v_placedRow (x1).toNat)) (x1 + 1) _ _ _ _ hP hS (lv_sub hl [1, 0] rfl) h K
  have L64 : ∀ (fuel : Nat) (v_isKept : Nat → Int) (v_st : Nat → Int) (x1 : Int) (x2 : Int) (H : Heap) (locs : List Loc) (ls : Array Slot) (ex : (Nat → Int)), va_P D vwCl (wd_X10_keepDraft cy a_v a_v_draft a_v_isKept a_v_placedRow a_v_st a_v_now a_v_tape a_v_by a_v_told a_v_bestRow a_v_ways a_v_lanes a_v_sizes a_v_cells a_v_before v_hasOrder v_hasStart v_placed v_placedMany v_highest v_taped v_pos v_begun v_sort v_value v_fault v_wrongAt v_rightSum v_wrongSum v_allWays v_torn v_draft v_isKept v_placedRow v_st) H → va_S A s.heap H locs → lv_has ls 3 [(0, .ref a_v), (1, .int (zI x1)), (2, .int (zI x2))] → f_M_keepDraft_L64 fuel v_placed v_st x1 x2 = some ex → (∀ (H : Heap) (locs : List Loc) (ls : Array Slot), va_P D vwCl (wd_X10_keepDraft cy a_v a_v_draft a_v_isKept a_v_placedRow a_v_st a_v_now a_v_tape a_v_by a_v_told a_v_bestRow a_v_ways a_v_lanes a_v_sizes a_v_cells a_v_before v_hasOrder v_hasStart v_placed v_placedMany v_highest v_taped v_pos v_begun v_sort v_value v_fault v_wrongAt v_rightSum v_wrongSum v_allWays v_torn v_draft v_isKept v_placedRow ex) H → va_S A s.heap H locs → lv_has ls 3 [(0, .ref a_v)] → W p l e { frames := 0, cells := 0, slots := 0, locals := 0 } s m args below meth c H locs 0 0 QQ (F0 m 105 ls [])) → W p l e { frames := 0, cells := 0, slots := 0, locals := 0 } s m args below meth c H locs 0 0 QQ (F0 m 64 ls []) := by
    intro fuel
    induction fuel with
    | zero => intro _ _ _ _ H locs ls ex hP hS hl h K; cases h
    | succ fuel ih =>
      intro v_isKept v_st x1 x2 H locs ls ex hP hS hl h K
      refine lv_iload_n hx hb dX10_keepDraft_64 rfl (lv_at hl 2 rfl) ?_
      refine lv_aload_n hx hb dX10_keepDraft_65 rfl (lv_at hl 0 rfl) ?_
      refine wi_get (v := .ref a_v_st) hx hb hts iX10 hown hE hP 0 rfl rfl 0 (by decide) q0 rfl dX10_keepDraft_66 ?_
      refine wi_bi hx hb dX10_keepDraft_69 (by decide) ?_
      refine wi_iald hx hb hE hP 4 rfl (by decide) (by decide) dX10_keepDraft_71 ?_
      obtain ⟨hr16, h⟩ := chk_some h
      obtain ⟨hr17, h⟩ := chk_some h
      refine wi_ic_ge (tgt := 105) hx hb dX10_keepDraft_72 (by decide) hr16 hr17 (fun c19 => ?_) (fun c19 => ?_)
      · have h := ite_t c19 h
        obtain rfl := Option.some.inj h
        exact K _ _ _ hP hS (lv_sub hl [0] rfl)
      · have h := ite_f c19 h
        refine lv_aload_n hx hb dX10_keepDraft_75 rfl (lv_at hl 0 rfl) ?_
        refine wi_get (v := .int (zI v_placed)) hx hb hts iX10 hown hE hP 0 rfl rfl 6 (by decide) q4 rfl dX10_keepDraft_76 ?_
        refine lv_iload_n hx hb dX10_keepDraft_79 rfl (lv_at hl 2 rfl) ?_
        refine wi_ishr hx hb dX10_keepDraft_80 ?_
        refine wi_ic hx hb dX10_keepDraft_81 ?_
        refine wi_iand hx hb dX10_keepDraft_82 ?_
        refine wi_if_ne (tgt := 99) hx hb dX10_keepDraft_83 (by decide) (inR_of _) (fun c21 => ?_) (fun c21 => ?_)
        · have h := ite_f c21 h
          refine wi_iinc (k := 2) (lv' := [(2, .int (zI (x2 + 1))), (0, .ref a_v), (1, .int (zI x1))]) hx hb dX10_keepDraft_99 hl rfl (by decide) rfl (fun ls hl => ?_)
          refine lv_goto (tgt := 64) hx hb dX10_keepDraft_102 (by decide) ?_
          exact ih v_isKept v_st x1 (x2 + 1) _ _ _ _ hP hS (lv_sub hl [1, 2, 0] rfl) h K
        · have h := ite_t c21 h
          refine lv_aload_n hx hb dX10_keepDraft_86 rfl (lv_at hl 0 rfl) ?_
          refine wi_get (v := .ref a_v_st) hx hb hts iX10 hown hE hP 0 rfl rfl 0 (by decide) q0 rfl dX10_keepDraft_87 ?_
          refine wi_bi hx hb dX10_keepDraft_90 (by decide) ?_
          refine lv_iload_n hx hb dX10_keepDraft_92 rfl (lv_at hl 1 rfl) ?_
          refine wi_iadd hx hb dX10_keepDraft_93 ?_
          refine lv_iload_n hx hb dX10_keepDraft_94 rfl (lv_at hl 2 rfl) ?_
          obtain ⟨hk22, h⟩ := chk_some h
          refine wi_iast (w2 := (wd_X10_keepDraft cy a_v a_v_draft a_v_isKept a_v_placedRow a_v_st a_v_now a_v_tape a_v_by a_v_told a_v_bestRow a_v_ways a_v_lanes a_v_sizes a_v_cells a_v_before v_hasOrder v_hasStart v_placed v_placedMany v_highest v_taped v_pos v_begun v_sort v_value v_fault v_wrongAt v_rightSum v_wrongSum v_allWays v_torn v_draft v_isKept v_placedRow (upZ v_st (31 + x1).toNat x2))) hx hb hE hP hDD rfl hS 4 rfl (by decide) hk22 dX10_keepDraft_95 rfl (fun H locs hP hS => ?_)
          refine wi_iinc (k := 1) (lv' := [(1, .int (zI (x1 + 1))), (0, .ref a_v), (2, .int (zI x2))]) hx hb dX10_keepDraft_96 hl rfl (by decide) rfl (fun ls hl => ?_)
          refine wi_iinc (k := 2) (lv' := [(2, .int (zI (x2 + 1))), (1, .int (zI (x1 + 1))), (0, .ref a_v)]) hx hb dX10_keepDraft_99 hl rfl (by decide) rfl (fun ls hl => ?_)
          refine lv_goto (tgt := 64) hx hb dX10_keepDraft_102 (by decide) ?_
          exact ih v_isKept (upZ v_st (31 + x1).toNat x2) (x1 + 1) (x2 + 1) _ _ _ _ hP hS (lv_sub hl [2, 1, 0] rfl) h K
  refine wi_ic hx hb dX10_keepDraft_0 ?_
  refine lv_istore_n (lv' := [(1, .int (zI 0)), (0, .ref a_v)]) hx hb dX10_keepDraft_1 rfl hl (by decide) rfl (fun ls hl => ?_)
  obtain ⟨o6, hx7, h⟩ := bnd_some h
  refine L2 5000 v_isKept v_st 0 _ _ _ _ hP hS (lv_sub hl [1, 0] rfl) hx7 ?_
  clear hx7
  intro H locs ls hP hS hl
  refine wi_ic hx hb dX10_keepDraft_26 ?_
  refine lv_istore_n (lv' := [(1, .int (zI 0)), (0, .ref a_v)]) hx hb dX10_keepDraft_27 rfl hl (by decide) rfl (fun ls hl => ?_)
  obtain ⟨o14, hx15, h⟩ := bnd_some h
  refine L28 5000 v_isKept o6 0 _ _ _ _ hP hS (lv_sub hl [1, 0] rfl) hx15 ?_
  clear hx15
  intro H locs ls hP hS hl
  refine lv_aload_n hx hb dX10_keepDraft_57 rfl (lv_at hl 0 rfl) ?_
  refine wi_get (v := .int (zI v_placedMany)) hx hb hts iX10 hown hE hP 0 rfl rfl 7 (by decide) q2 rfl dX10_keepDraft_58 ?_
  refine lv_istore_n (lv' := [(1, .int (zI v_placedMany)), (0, .ref a_v)]) hx hb dX10_keepDraft_61 rfl hl (by decide) rfl (fun ls hl => ?_)
  refine wi_ic hx hb dX10_keepDraft_62 ?_
  refine lv_istore_n (lv' := [(2, .int (zI 0)), (1, .int (zI v_placedMany)), (0, .ref a_v)]) hx hb dX10_keepDraft_63 rfl hl (by decide) rfl (fun ls hl => ?_)
  obtain ⟨o23, hx24, h⟩ := bnd_some h
  refine L64 5000 v_isKept o14 v_placedMany 0 _ _ _ _ hP hS (lv_sub hl [2, 1, 0] rfl) hx24 ?_
  clear hx24
  intro H locs ls hP hS hl
  refine lv_aload_n hx hb dX10_keepDraft_105 rfl (lv_at hl 0 rfl) ?_
  refine wi_get (v := .ref a_v_isKept) hx hb hts iX10 hown hE hP 0 rfl rfl 2 (by decide) q5 rfl dX10_keepDraft_106 ?_
  refine wi_ic hx hb dX10_keepDraft_109 ?_
  refine wi_ic hx hb dX10_keepDraft_110 ?_
  refine wi_zast (w2 := (wd_X10_keepDraft cy a_v a_v_draft a_v_isKept a_v_placedRow a_v_st a_v_now a_v_tape a_v_by a_v_told a_v_bestRow a_v_ways a_v_lanes a_v_sizes a_v_cells a_v_before v_hasOrder v_hasStart v_placed v_placedMany v_highest v_taped v_pos v_begun v_sort v_value v_fault v_wrongAt v_rightSum v_wrongSum v_allWays v_torn v_draft (upZ v_isKept 0 0) v_placedRow o23)) hx hb hE hP hDD rfl hS 2 rfl (by decide) (by decide) (by decide) dX10_keepDraft_111 rfl (fun H locs hP hS => ?_)
  refine lv_aload_n hx hb dX10_keepDraft_112 rfl (lv_at hl 0 rfl) ?_
  refine wi_get (v := .ref a_v_isKept) hx hb hts iX10 hown hE hP 0 rfl rfl 2 (by decide) q5 rfl dX10_keepDraft_113 ?_
  refine wi_ic hx hb dX10_keepDraft_116 ?_
  refine wi_ic hx hb dX10_keepDraft_117 ?_
  refine wi_zast (w2 := (wd_X10_keepDraft cy a_v a_v_draft a_v_isKept a_v_placedRow a_v_st a_v_now a_v_tape a_v_by a_v_told a_v_bestRow a_v_ways a_v_lanes a_v_sizes a_v_cells a_v_before v_hasOrder v_hasStart v_placed v_placedMany v_highest v_taped v_pos v_begun v_sort v_value v_fault v_wrongAt v_rightSum v_wrongSum v_allWays v_torn v_draft (upZ (upZ v_isKept 0 0) 1 0) v_placedRow o23)) hx hb hE hP hDD rfl hS 2 rfl (by decide) (by decide) (by decide) dX10_keepDraft_118 rfl (fun H locs hP hS => ?_)
  obtain rfl := Option.some.inj h
  exact KR _ _ _ _ hP hS dX10_keepDraft_119
abbrev wd_X10_feed (cy : Nat → ClassId) (a_v : Nat) (a_v_tape : Nat) (a_v_st : Nat) (a_v_now : Nat) (a_v_isKept : Nat) (a_v_draft : Nat) (a_v_placedRow : Nat) (a_v_by : Nat) (a_v_told : Nat) (a_v_bestRow : Nat) (a_v_ways : Nat) (a_v_lanes : Nat) (a_v_sizes : Nat) (a_v_cells : Nat) (a_v_before : Nat) (v_hasOrder : Int) (v_hasStart : Int) (v_placed : Int) (v_placedMany : Int) (v_highest : Int) (v_taped : Int) (v_pos : Int) (v_begun : Int) (v_sort : Int) (v_value : Int) (v_fault : Int) (v_wrongAt : Int) (v_rightSum : Int) (v_wrongSum : Int) (v_allWays : Int) (v_torn : Int) (v_tape : Nat → Int) : va_W := [(a_v, .inr (10, [.ref a_v_st, .ref a_v_now, .ref a_v_isKept, .ref a_v_draft, .int (zI v_hasOrder), .int (zI v_hasStart), .int (zI v_placed), .int (zI v_placedMany), .ref a_v_placedRow, .int (zI v_highest), .ref a_v_tape, .int (zI v_taped), .int (zI v_pos), .int (zI v_begun), .int (zI v_sort), .int (zI v_value), .int (zI v_fault), .int (zI v_wrongAt), .ref a_v_by, .ref a_v_told, .ref a_v_bestRow, .long (zL v_rightSum), .long (zL v_wrongSum), .long (zL v_allWays), .ref a_v_ways, .ref a_v_lanes, .ref a_v_sizes, .ref a_v_cells, .int (zI v_torn), .ref a_v_before])), (a_v_tape, .inl (cy 0, 160, .inl (fun j => zI (v_tape j))))]
set_option maxHeartbeats 4000000 in
set_option maxRecDepth 100000 in
theorem c_X10_feed (l : Launch) (D : va_G) (cy : Nat → ClassId) (sa : Nat → Nat) (a_v : Nat) (a_v_tape : Nat) (a_v_st : Nat) (a_v_now : Nat) (a_v_isKept : Nat) (a_v_draft : Nat) (a_v_placedRow : Nat) (a_v_by : Nat) (a_v_told : Nat) (a_v_bestRow : Nat) (a_v_ways : Nat) (a_v_lanes : Nat) (a_v_sizes : Nat) (a_v_cells : Nat) (a_v_before : Nat) (v_hasOrder : Int) (v_hasStart : Int) (v_placed : Int) (v_placedMany : Int) (v_highest : Int) (v_taped : Int) (v_pos : Int) (v_begun : Int) (v_sort : Int) (v_value : Int) (v_fault : Int) (v_wrongAt : Int) (v_rightSum : Int) (v_wrongSum : Int) (v_allWays : Int) (v_torn : Int) (v_tape : Nat → Int) (x1 : Int) (o : Int × Int × (Nat → Int)) (h : f_M_feed v_taped v_tape x1 = some o) : CtI l yX10_feed wsX10_feed ({ frames := 1, cells := 0, slots := 0, locals := 25 }) D cy sa [.ref a_v, .int (zI x1)] (wd_X10_feed cy a_v a_v_tape a_v_st a_v_now a_v_isKept a_v_draft a_v_placedRow a_v_by a_v_told a_v_bestRow a_v_ways a_v_lanes a_v_sizes a_v_cells a_v_before v_hasOrder v_hasStart v_placed v_placedMany v_highest v_taped v_pos v_begun v_sort v_value v_fault v_wrongAt v_rightSum v_wrongSum v_allWays v_torn v_tape) (wd_X10_feed cy a_v a_v_tape a_v_st a_v_now a_v_isKept a_v_draft a_v_placedRow a_v_by a_v_told a_v_bestRow a_v_ways a_v_lanes a_v_sizes a_v_cells a_v_before v_hasOrder v_hasStart v_placed v_placedMany v_highest o.2.1 v_pos v_begun v_sort v_value v_fault v_wrongAt v_rightSum v_wrongSum v_allWays v_torn o.2.2) o.1 := by
  refine ct_I (cc := cX10_feed) (maxL := 2) (plainFor_of_name (by decide)) rfl (Nat.le_of_ble_eq_true rfl) ?_
  intro p e s m below meth c A args QQ hx hb hml hown hts hE hDD hP KR ls hl
  have hl : lv_has ls 2 [(0, .ref a_v), (1, .int (zI x1))] := hl
  have hDD : DD A [a_v, a_v_tape] := hDD
  have hS : va_S A s.heap s.heap [] := va_S.rf
  have q0 := hts (.constantLong RX10 76 (127)) (List.mem_of_getElem? (i := 1) rfl)
  have q1 := hts (.fieldLink RX10 82 "HatHoursModel" "taped" "I") (List.mem_of_getElem? (i := 2) rfl)
  have q2 := hts (.fieldLink RX10 26 "HatHoursModel" "tape" "[I") (List.mem_of_getElem? (i := 3) rfl)
  have iX10 : ∀ w ∈ u_ws RX10 TX10 30, w ∈ wsX10_feed := in_slice 8 30 rfl
  refine lv_iload_n hx hb dX10_feed_0 rfl (lv_at hl 1 rfl) ?_
  obtain ⟨hr1, h⟩ := chk_some h
  refine wi_i2l hx hb dX10_feed_1 hr1 ?_
  refine wi_lc (v := 0) hx hb dX10_feed_2 rfl ?_
  refine wi_ldc2 (n := 127) hx hb hown q0 dX10_feed_3 rfl ?_
  obtain ⟨o2, hc3, h⟩ := bnd_some h
  refine cS_i (rest := []) (w2 := (wd_X10_feed cy a_v a_v_tape a_v_st a_v_now a_v_isKept a_v_draft a_v_placedRow a_v_by a_v_told a_v_bestRow a_v_ways a_v_lanes a_v_sizes a_v_cells a_v_before v_hasOrder v_hasStart v_placed v_placedMany v_highest v_taped v_pos v_begun v_sort v_value v_fault v_wrongAt v_rightSum v_wrongSum v_allWays v_torn v_tape)) ⟨hx, hb, hml, hown, hts⟩ (c_X10_in l D cy sa x1 0 127 o2 hc3) (va_cwS 3 hts gX10_feed_X10_in rfl rfl rfl (by decide +kernel) ⟨Nat.le_of_ble_eq_true rfl, Nat.le_of_ble_eq_true rfl⟩) hE hP hDD rfl hS [] rfl rfl rfl rfl hl.1 (Nat.le_of_ble_eq_true rfl) ⟨Nat.zero_le _, Nat.zero_le _⟩ rfl dX10_feed_6 rfl (fun H locs hP hS => ?_)
  obtain ⟨hr4, h⟩ := chk_some h
  refine wi_if_ne (tgt := 14) hx hb dX10_feed_9 (by decide) hr4 (fun c6 => ?_) (fun c6 => ?_)
  · have h := ite_f c6 h
    refine lv_aload_n hx hb dX10_feed_14 rfl (lv_at hl 0 rfl) ?_
    refine wi_get (v := .int (zI v_taped)) hx hb hts iX10 hown hE hP 0 rfl rfl 11 (by decide) q1 rfl dX10_feed_15 ?_
    refine wi_si hx hb dX10_feed_18 (by decide) ?_
    obtain ⟨hr7, h⟩ := chk_some h
    refine wi_ic_ne (tgt := 27) hx hb dX10_feed_21 (by decide) hr7 (by decide) (fun c9 => ?_) (fun c9 => ?_)
    · have h := ite_f c9 h
      refine lv_aload_n hx hb dX10_feed_27 rfl (lv_at hl 0 rfl) ?_
      refine wi_get (v := .ref a_v_tape) hx hb hts iX10 hown hE hP 0 rfl rfl 10 (by decide) q2 rfl dX10_feed_28 ?_
      refine lv_aload_n hx hb dX10_feed_31 rfl (lv_at hl 0 rfl) ?_
      refine wi_get (v := .int (zI v_taped)) hx hb hts iX10 hown hE hP 0 rfl rfl 11 (by decide) q1 rfl dX10_feed_32 ?_
      refine lv_iload_n hx hb dX10_feed_35 rfl (lv_at hl 1 rfl) ?_
      obtain ⟨hk10, h⟩ := chk_some h
      refine wi_iast (w2 := (wd_X10_feed cy a_v a_v_tape a_v_st a_v_now a_v_isKept a_v_draft a_v_placedRow a_v_by a_v_told a_v_bestRow a_v_ways a_v_lanes a_v_sizes a_v_cells a_v_before v_hasOrder v_hasStart v_placed v_placedMany v_highest v_taped v_pos v_begun v_sort v_value v_fault v_wrongAt v_rightSum v_wrongSum v_allWays v_torn (upZ v_tape (v_taped).toNat x1))) hx hb hE hP hDD rfl hS 1 rfl (by decide) hk10 dX10_feed_36 rfl (fun H locs hP hS => ?_)
      refine lv_aload_n hx hb dX10_feed_37 rfl (lv_at hl 0 rfl) ?_
      refine lv_dup hx hb dX10_feed_38 rfl ?_
      refine wi_get (v := .int (zI v_taped)) hx hb hts iX10 hown hE hP 0 rfl rfl 11 (by decide) q1 rfl dX10_feed_39 ?_
      refine wi_ic hx hb dX10_feed_42 ?_
      refine wi_iadd hx hb dX10_feed_43 ?_
      refine wi_put (ty := .int) (v := .int (zI (v_taped + 1))) (w2 := (wd_X10_feed cy a_v a_v_tape a_v_st a_v_now a_v_isKept a_v_draft a_v_placedRow a_v_by a_v_told a_v_bestRow a_v_ways a_v_lanes a_v_sizes a_v_cells a_v_before v_hasOrder v_hasStart v_placed v_placedMany v_highest (v_taped + 1) v_pos v_begun v_sort v_value v_fault v_wrongAt v_rightSum v_wrongSum v_allWays v_torn (upZ v_tape (v_taped).toNat x1))) hx hb hts iX10 tyX10 tyX10_ok nmX10 hown hE hP hDD rfl hS 0 rfl rfl 11 (by decide) q1 rfl (by decide +kernel) rfl rfl (Nat.le_of_ble_eq_true rfl) dX10_feed_44 rfl (fun H locs hP hS => ?_)
      refine lv_aload_n hx hb dX10_feed_47 rfl (lv_at hl 0 rfl) ?_
      refine wi_get (v := .int (zI (v_taped + 1))) hx hb hts iX10 hown hE hP 0 rfl rfl 11 (by decide) q1 rfl dX10_feed_48 ?_
      obtain rfl := Option.some.inj h
      exact KR _ _ _ _ hP hS dX10_feed_51
    · have h := ite_t c9 h
      refine wi_bi hx hb dX10_feed_24 (by decide) ?_
      obtain rfl := Option.some.inj h
      exact KR _ _ _ _ hP hS dX10_feed_26
  · have h := ite_t c6 h
    refine wi_ic hx hb dX10_feed_12 ?_
    obtain rfl := Option.some.inj h
    exact KR _ _ _ _ hP hS dX10_feed_13
abbrev wd_X10_end (cy : Nat → ClassId) (a_v : Nat) (a_v_st : Nat) (a_v_now : Nat) (a_v_isKept : Nat) (a_v_draft : Nat) (a_v_placedRow : Nat) (a_v_tape : Nat) (a_v_by : Nat) (a_v_told : Nat) (a_v_bestRow : Nat) (a_v_ways : Nat) (a_v_lanes : Nat) (a_v_sizes : Nat) (a_v_cells : Nat) (a_v_before : Nat) (v_hasOrder : Int) (v_hasStart : Int) (v_placed : Int) (v_placedMany : Int) (v_highest : Int) (v_taped : Int) (v_pos : Int) (v_begun : Int) (v_sort : Int) (v_value : Int) (v_fault : Int) (v_wrongAt : Int) (v_rightSum : Int) (v_wrongSum : Int) (v_allWays : Int) (v_torn : Int) : va_W := [(a_v, .inr (10, [.ref a_v_st, .ref a_v_now, .ref a_v_isKept, .ref a_v_draft, .int (zI v_hasOrder), .int (zI v_hasStart), .int (zI v_placed), .int (zI v_placedMany), .ref a_v_placedRow, .int (zI v_highest), .ref a_v_tape, .int (zI v_taped), .int (zI v_pos), .int (zI v_begun), .int (zI v_sort), .int (zI v_value), .int (zI v_fault), .int (zI v_wrongAt), .ref a_v_by, .ref a_v_told, .ref a_v_bestRow, .long (zL v_rightSum), .long (zL v_wrongSum), .long (zL v_allWays), .ref a_v_ways, .ref a_v_lanes, .ref a_v_sizes, .ref a_v_cells, .int (zI v_torn), .ref a_v_before]))]
set_option maxHeartbeats 4000000 in
set_option maxRecDepth 100000 in
theorem c_X10_end (l : Launch) (D : va_G) (cy : Nat → ClassId) (sa : Nat → Nat) (a_v : Nat) (a_v_st : Nat) (a_v_now : Nat) (a_v_isKept : Nat) (a_v_draft : Nat) (a_v_placedRow : Nat) (a_v_tape : Nat) (a_v_by : Nat) (a_v_told : Nat) (a_v_bestRow : Nat) (a_v_ways : Nat) (a_v_lanes : Nat) (a_v_sizes : Nat) (a_v_cells : Nat) (a_v_before : Nat) (v_hasOrder : Int) (v_hasStart : Int) (v_placed : Int) (v_placedMany : Int) (v_highest : Int) (v_taped : Int) (v_pos : Int) (v_begun : Int) (v_sort : Int) (v_value : Int) (v_fault : Int) (v_wrongAt : Int) (v_rightSum : Int) (v_wrongSum : Int) (v_allWays : Int) (v_torn : Int) (x1 : Int) (o : Int × Int) (h : f_M_end v_taped x1 = some o) : CtI l yX10_end wsX10_end ({ frames := 1, cells := 0, slots := 0, locals := 25 }) D cy sa [.ref a_v, .int (zI x1)] (wd_X10_end cy a_v a_v_st a_v_now a_v_isKept a_v_draft a_v_placedRow a_v_tape a_v_by a_v_told a_v_bestRow a_v_ways a_v_lanes a_v_sizes a_v_cells a_v_before v_hasOrder v_hasStart v_placed v_placedMany v_highest v_taped v_pos v_begun v_sort v_value v_fault v_wrongAt v_rightSum v_wrongSum v_allWays v_torn) (wd_X10_end cy a_v a_v_st a_v_now a_v_isKept a_v_draft a_v_placedRow a_v_tape a_v_by a_v_told a_v_bestRow a_v_ways a_v_lanes a_v_sizes a_v_cells a_v_before v_hasOrder v_hasStart v_placed v_placedMany v_highest o.2 v_pos v_begun v_sort v_value v_fault v_wrongAt v_rightSum v_wrongSum v_allWays v_torn) o.1 := by
  refine ct_I (cc := cX10_end) (maxL := 3) (plainFor_of_name (by decide)) rfl (Nat.le_of_ble_eq_true rfl) ?_
  intro p e s m below meth c A args QQ hx hb hml hown hts hE hDD hP KR ls hl
  have hl : lv_has ls 3 [(0, .ref a_v), (1, .int (zI x1))] := hl
  have hDD : DD A [a_v] := hDD
  have hS : va_S A s.heap s.heap [] := va_S.rf
  have q0 := hts (.fieldLink RX10 82 "HatHoursModel" "taped" "I") (List.mem_of_getElem? (i := 1) rfl)
  have iX10 : ∀ w ∈ u_ws RX10 TX10 30, w ∈ wsX10_end := in_slice 6 30 rfl
  refine lv_iload_n hx hb dX10_end_0 rfl (lv_at hl 1 rfl) ?_
  obtain ⟨hr1, h⟩ := chk_some h
  refine wi_i2l hx hb dX10_end_1 hr1 ?_
  refine wi_lc (v := 0) hx hb dX10_end_2 rfl ?_
  refine lv_aload_n hx hb dX10_end_3 rfl (lv_at hl 0 rfl) ?_
  refine wi_get (v := .int (zI v_taped)) hx hb hts iX10 hown hE hP 0 rfl rfl 11 (by decide) q0 rfl dX10_end_4 ?_
  obtain ⟨hr2, h⟩ := chk_some h
  refine wi_i2l hx hb dX10_end_7 hr2 ?_
  obtain ⟨o3, hc4, h⟩ := bnd_some h
  refine cS_i (rest := []) (w2 := (wd_X10_end cy a_v a_v_st a_v_now a_v_isKept a_v_draft a_v_placedRow a_v_tape a_v_by a_v_told a_v_bestRow a_v_ways a_v_lanes a_v_sizes a_v_cells a_v_before v_hasOrder v_hasStart v_placed v_placedMany v_highest v_taped v_pos v_begun v_sort v_value v_fault v_wrongAt v_rightSum v_wrongSum v_allWays v_torn)) ⟨hx, hb, hml, hown, hts⟩ (c_X10_in l D cy sa x1 0 v_taped o3 hc4) (va_cwS 3 hts gX10_end_X10_in rfl rfl rfl (by decide +kernel) ⟨Nat.le_of_ble_eq_true rfl, Nat.le_of_ble_eq_true rfl⟩) hE hP hDD rfl hS [] rfl rfl rfl rfl hl.1 (Nat.le_of_ble_eq_true rfl) ⟨Nat.zero_le _, Nat.zero_le _⟩ rfl dX10_end_8 rfl (fun H locs hP hS => ?_)
  obtain ⟨hr5, h⟩ := chk_some h
  refine wi_if_ne (tgt := 16) hx hb dX10_end_11 (by decide) hr5 (fun c7 => ?_) (fun c7 => ?_)
  · have h := ite_f c7 h
    refine lv_aload_n hx hb dX10_end_16 rfl (lv_at hl 0 rfl) ?_
    refine wi_get (v := .int (zI v_taped)) hx hb hts iX10 hown hE hP 0 rfl rfl 11 (by decide) q0 rfl dX10_end_17 ?_
    refine lv_istore_n (lv' := [(2, .int (zI v_taped)), (0, .ref a_v), (1, .int (zI x1))]) hx hb dX10_end_20 rfl hl (by decide) rfl (fun ls hl => ?_)
    refine lv_aload_n hx hb dX10_end_21 rfl (lv_at hl 1 rfl) ?_
    refine lv_iload_n hx hb dX10_end_22 rfl (lv_at hl 2 rfl) ?_
    refine wi_put (ty := .int) (v := .int (zI x1)) (w2 := (wd_X10_end cy a_v a_v_st a_v_now a_v_isKept a_v_draft a_v_placedRow a_v_tape a_v_by a_v_told a_v_bestRow a_v_ways a_v_lanes a_v_sizes a_v_cells a_v_before v_hasOrder v_hasStart v_placed v_placedMany v_highest x1 v_pos v_begun v_sort v_value v_fault v_wrongAt v_rightSum v_wrongSum v_allWays v_torn)) hx hb hts iX10 tyX10 tyX10_ok nmX10 hown hE hP hDD rfl hS 0 rfl rfl 11 (by decide) q0 rfl (by decide +kernel) rfl rfl (Nat.le_of_ble_eq_true rfl) dX10_end_23 rfl (fun H locs hP hS => ?_)
    refine lv_iload_n hx hb dX10_end_26 rfl (lv_at hl 0 rfl) ?_
    obtain rfl := Option.some.inj h
    exact KR _ _ _ _ hP hS dX10_end_27
  · have h := ite_t c7 h
    refine wi_ic hx hb dX10_end_14 ?_
    obtain rfl := Option.some.inj h
    exact KR _ _ _ _ hP hS dX10_end_15
abbrev wd_X10_needs (cy : Nat → ClassId) (a_v : Nat) (a_v_st : Nat) (a_v_now : Nat) (a_v_isKept : Nat) (a_v_draft : Nat) (a_v_placedRow : Nat) (a_v_tape : Nat) (a_v_by : Nat) (a_v_told : Nat) (a_v_bestRow : Nat) (a_v_ways : Nat) (a_v_lanes : Nat) (a_v_sizes : Nat) (a_v_cells : Nat) (a_v_before : Nat) (v_hasOrder : Int) (v_hasStart : Int) (v_placed : Int) (v_placedMany : Int) (v_highest : Int) (v_taped : Int) (v_pos : Int) (v_begun : Int) (v_sort : Int) (v_value : Int) (v_fault : Int) (v_wrongAt : Int) (v_rightSum : Int) (v_wrongSum : Int) (v_allWays : Int) (v_torn : Int) : va_W := [(a_v, .inr (10, [.ref a_v_st, .ref a_v_now, .ref a_v_isKept, .ref a_v_draft, .int (zI v_hasOrder), .int (zI v_hasStart), .int (zI v_placed), .int (zI v_placedMany), .ref a_v_placedRow, .int (zI v_highest), .ref a_v_tape, .int (zI v_taped), .int (zI v_pos), .int (zI v_begun), .int (zI v_sort), .int (zI v_value), .int (zI v_fault), .int (zI v_wrongAt), .ref a_v_by, .ref a_v_told, .ref a_v_bestRow, .long (zL v_rightSum), .long (zL v_wrongSum), .long (zL v_allWays), .ref a_v_ways, .ref a_v_lanes, .ref a_v_sizes, .ref a_v_cells, .int (zI v_torn), .ref a_v_before]))]
set_option maxHeartbeats 4000000 in
set_option maxRecDepth 100000 in
theorem c_X10_needs (l : Launch) (D : va_G) (cy : Nat → ClassId) (sa : Nat → Nat) (a_v : Nat) (a_v_st : Nat) (a_v_now : Nat) (a_v_isKept : Nat) (a_v_draft : Nat) (a_v_placedRow : Nat) (a_v_tape : Nat) (a_v_by : Nat) (a_v_told : Nat) (a_v_bestRow : Nat) (a_v_ways : Nat) (a_v_lanes : Nat) (a_v_sizes : Nat) (a_v_cells : Nat) (a_v_before : Nat) (v_hasOrder : Int) (v_hasStart : Int) (v_placed : Int) (v_placedMany : Int) (v_highest : Int) (v_taped : Int) (v_pos : Int) (v_begun : Int) (v_sort : Int) (v_value : Int) (v_fault : Int) (v_wrongAt : Int) (v_rightSum : Int) (v_wrongSum : Int) (v_allWays : Int) (v_torn : Int) (x1 : Int) (x2 : Int) (o : Int × Int) (h : f_M_needs v_begun v_fault v_wrongAt x1 x2 = some o) : CtV l yX10_needs wsX10_needs ({ frames := 0, cells := 0, slots := 0, locals := 0 }) D cy sa [.ref a_v, .int (zI x1), .int (zI x2)] (wd_X10_needs cy a_v a_v_st a_v_now a_v_isKept a_v_draft a_v_placedRow a_v_tape a_v_by a_v_told a_v_bestRow a_v_ways a_v_lanes a_v_sizes a_v_cells a_v_before v_hasOrder v_hasStart v_placed v_placedMany v_highest v_taped v_pos v_begun v_sort v_value v_fault v_wrongAt v_rightSum v_wrongSum v_allWays v_torn) (wd_X10_needs cy a_v a_v_st a_v_now a_v_isKept a_v_draft a_v_placedRow a_v_tape a_v_by a_v_told a_v_bestRow a_v_ways a_v_lanes a_v_sizes a_v_cells a_v_before v_hasOrder v_hasStart v_placed v_placedMany v_highest v_taped v_pos v_begun v_sort v_value o.1 o.2 v_rightSum v_wrongSum v_allWays v_torn)  := by
  refine ct_V (cc := cX10_needs) (maxL := 3) (plainFor_of_name (by decide)) rfl (Nat.le_of_ble_eq_true rfl) ?_
  intro p e s m below meth c A args QQ hx hb hml hown hts hE hDD hP KR ls hl
  have hl : lv_has ls 3 [(0, .ref a_v), (1, .int (zI x1)), (2, .int (zI x2))] := hl
  have hDD : DD A [a_v] := hDD
  have hS : va_S A s.heap s.heap [] := va_S.rf
  have q0 := hts (.fieldLink RX10 85 "HatHoursModel" "fault" "I") (List.mem_of_getElem? (i := 1) rfl)
  have q1 := hts (.fieldLink RX10 88 "HatHoursModel" "begun" "I") (List.mem_of_getElem? (i := 2) rfl)
  have q2 := hts (.fieldLink RX10 91 "HatHoursModel" "wrongAt" "I") (List.mem_of_getElem? (i := 3) rfl)
  have iX10 : ∀ w ∈ u_ws RX10 TX10 30, w ∈ wsX10_needs := in_slice 4 30 rfl
  refine lv_iload_n hx hb dX10_needs_0 rfl (lv_at hl 1 rfl) ?_
  obtain ⟨hr1, h⟩ := chk_some h
  refine wi_if_ne (tgt := 24) hx hb dX10_needs_1 (by decide) hr1 (fun c3 => ?_) (fun c3 => ?_)
  · have h := ite_f c3 h
    obtain rfl := Option.some.inj h
    exact KR _ _ _ _ hP hS dX10_needs_24
  · have h := ite_t c3 h
    refine lv_aload_n hx hb dX10_needs_4 rfl (lv_at hl 0 rfl) ?_
    refine wi_get (v := .int (zI v_fault)) hx hb hts iX10 hown hE hP 0 rfl rfl 16 (by decide) q0 rfl dX10_needs_5 ?_
    obtain ⟨hr4, h⟩ := chk_some h
    refine wi_if_ne (tgt := 24) hx hb dX10_needs_8 (by decide) hr4 (fun c6 => ?_) (fun c6 => ?_)
    · have h := ite_f c6 h
      obtain rfl := Option.some.inj h
      exact KR _ _ _ _ hP hS dX10_needs_24
    · have h := ite_t c6 h
      refine lv_aload_n hx hb dX10_needs_11 rfl (lv_at hl 0 rfl) ?_
      refine lv_iload_n hx hb dX10_needs_12 rfl (lv_at hl 2 rfl) ?_
      refine wi_put (ty := .int) (v := .int (zI x2)) (w2 := (wd_X10_needs cy a_v a_v_st a_v_now a_v_isKept a_v_draft a_v_placedRow a_v_tape a_v_by a_v_told a_v_bestRow a_v_ways a_v_lanes a_v_sizes a_v_cells a_v_before v_hasOrder v_hasStart v_placed v_placedMany v_highest v_taped v_pos v_begun v_sort v_value x2 v_wrongAt v_rightSum v_wrongSum v_allWays v_torn)) hx hb hts iX10 tyX10 tyX10_ok nmX10 hown hE hP hDD rfl hS 0 rfl rfl 16 (by decide) q0 rfl (by decide +kernel) rfl rfl (Nat.le_of_ble_eq_true rfl) dX10_needs_13 rfl (fun H locs hP hS => ?_)
      refine lv_aload_n hx hb dX10_needs_16 rfl (lv_at hl 0 rfl) ?_
      refine lv_aload_n hx hb dX10_needs_17 rfl (lv_at hl 0 rfl) ?_
      refine wi_get (v := .int (zI v_begun)) hx hb hts iX10 hown hE hP 0 rfl rfl 13 (by decide) q1 rfl dX10_needs_18 ?_
      refine wi_put (ty := .int) (v := .int (zI v_begun)) (w2 := (wd_X10_needs cy a_v a_v_st a_v_now a_v_isKept a_v_draft a_v_placedRow a_v_tape a_v_by a_v_told a_v_bestRow a_v_ways a_v_lanes a_v_sizes a_v_cells a_v_before v_hasOrder v_hasStart v_placed v_placedMany v_highest v_taped v_pos v_begun v_sort v_value x2 v_begun v_rightSum v_wrongSum v_allWays v_torn)) hx hb hts iX10 tyX10 tyX10_ok nmX10 hown hE hP hDD rfl hS 0 rfl rfl 17 (by decide) q2 rfl (by decide +kernel) rfl rfl (Nat.le_of_ble_eq_true rfl) dX10_needs_21 rfl (fun H locs hP hS => ?_)
      obtain rfl := Option.some.inj h
      exact KR _ _ _ _ hP hS dX10_needs_24
abbrev wd_X10_byteAt (cy : Nat → ClassId) (a_v : Nat) (a_v_tape : Nat) (a_v_st : Nat) (a_v_now : Nat) (a_v_isKept : Nat) (a_v_draft : Nat) (a_v_placedRow : Nat) (a_v_by : Nat) (a_v_told : Nat) (a_v_bestRow : Nat) (a_v_ways : Nat) (a_v_lanes : Nat) (a_v_sizes : Nat) (a_v_cells : Nat) (a_v_before : Nat) (v_hasOrder : Int) (v_hasStart : Int) (v_placed : Int) (v_placedMany : Int) (v_highest : Int) (v_taped : Int) (v_pos : Int) (v_begun : Int) (v_sort : Int) (v_value : Int) (v_fault : Int) (v_wrongAt : Int) (v_rightSum : Int) (v_wrongSum : Int) (v_allWays : Int) (v_torn : Int) (v_tape : Nat → Int) : va_W := [(a_v, .inr (10, [.ref a_v_st, .ref a_v_now, .ref a_v_isKept, .ref a_v_draft, .int (zI v_hasOrder), .int (zI v_hasStart), .int (zI v_placed), .int (zI v_placedMany), .ref a_v_placedRow, .int (zI v_highest), .ref a_v_tape, .int (zI v_taped), .int (zI v_pos), .int (zI v_begun), .int (zI v_sort), .int (zI v_value), .int (zI v_fault), .int (zI v_wrongAt), .ref a_v_by, .ref a_v_told, .ref a_v_bestRow, .long (zL v_rightSum), .long (zL v_wrongSum), .long (zL v_allWays), .ref a_v_ways, .ref a_v_lanes, .ref a_v_sizes, .ref a_v_cells, .int (zI v_torn), .ref a_v_before])), (a_v_tape, .inl (cy 0, 160, .inl (fun j => zI (v_tape j))))]
set_option maxHeartbeats 4000000 in
set_option maxRecDepth 100000 in
theorem c_X10_byteAt (l : Launch) (D : va_G) (cy : Nat → ClassId) (sa : Nat → Nat) (a_v : Nat) (a_v_tape : Nat) (a_v_st : Nat) (a_v_now : Nat) (a_v_isKept : Nat) (a_v_draft : Nat) (a_v_placedRow : Nat) (a_v_by : Nat) (a_v_told : Nat) (a_v_bestRow : Nat) (a_v_ways : Nat) (a_v_lanes : Nat) (a_v_sizes : Nat) (a_v_cells : Nat) (a_v_before : Nat) (v_hasOrder : Int) (v_hasStart : Int) (v_placed : Int) (v_placedMany : Int) (v_highest : Int) (v_taped : Int) (v_pos : Int) (v_begun : Int) (v_sort : Int) (v_value : Int) (v_fault : Int) (v_wrongAt : Int) (v_rightSum : Int) (v_wrongSum : Int) (v_allWays : Int) (v_torn : Int) (v_tape : Nat → Int) (x1 : Int) (o : Int) (h : f_M_byteAt v_taped v_tape x1 = some o) : CtI l yX10_byteAt wsX10_byteAt ({ frames := 0, cells := 0, slots := 0, locals := 0 }) D cy sa [.ref a_v, .int (zI x1)] (wd_X10_byteAt cy a_v a_v_tape a_v_st a_v_now a_v_isKept a_v_draft a_v_placedRow a_v_by a_v_told a_v_bestRow a_v_ways a_v_lanes a_v_sizes a_v_cells a_v_before v_hasOrder v_hasStart v_placed v_placedMany v_highest v_taped v_pos v_begun v_sort v_value v_fault v_wrongAt v_rightSum v_wrongSum v_allWays v_torn v_tape) (wd_X10_byteAt cy a_v a_v_tape a_v_st a_v_now a_v_isKept a_v_draft a_v_placedRow a_v_by a_v_told a_v_bestRow a_v_ways a_v_lanes a_v_sizes a_v_cells a_v_before v_hasOrder v_hasStart v_placed v_placedMany v_highest v_taped v_pos v_begun v_sort v_value v_fault v_wrongAt v_rightSum v_wrongSum v_allWays v_torn v_tape) o := by
  refine ct_I (cc := cX10_byteAt) (maxL := 2) (plainFor_of_name (by decide)) rfl (Nat.le_of_ble_eq_true rfl) ?_
  intro p e s m below meth c A args QQ hx hb hml hown hts hE hDD hP KR ls hl
  have hl : lv_has ls 2 [(0, .ref a_v), (1, .int (zI x1))] := hl
  have hDD : DD A [a_v, a_v_tape] := hDD
  have hS : va_S A s.heap s.heap [] := va_S.rf
  have q0 := hts (.fieldLink RX10 82 "HatHoursModel" "taped" "I") (List.mem_of_getElem? (i := 1) rfl)
  have q1 := hts (.fieldLink RX10 26 "HatHoursModel" "tape" "[I") (List.mem_of_getElem? (i := 2) rfl)
  have iX10 : ∀ w ∈ u_ws RX10 TX10 30, w ∈ wsX10_byteAt := in_slice 3 30 rfl
  refine lv_iload_n hx hb dX10_byteAt_0 rfl (lv_at hl 1 rfl) ?_
  refine lv_aload_n hx hb dX10_byteAt_1 rfl (lv_at hl 0 rfl) ?_
  refine wi_get (v := .int (zI v_taped)) hx hb hts iX10 hown hE hP 0 rfl rfl 11 (by decide) q0 rfl dX10_byteAt_2 ?_
  obtain ⟨hr1, h⟩ := chk_some h
  obtain ⟨hr2, h⟩ := chk_some h
  refine wi_ic_ge (tgt := 17) hx hb dX10_byteAt_5 (by decide) hr1 hr2 (fun c4 => ?_) (fun c4 => ?_)
  · have h := ite_t c4 h
    refine wi_ic hx hb dX10_byteAt_17 ?_
    obtain rfl := Option.some.inj h
    exact KR _ _ _ _ hP hS dX10_byteAt_18
  · have h := ite_f c4 h
    refine lv_aload_n hx hb dX10_byteAt_8 rfl (lv_at hl 0 rfl) ?_
    refine wi_get (v := .ref a_v_tape) hx hb hts iX10 hown hE hP 0 rfl rfl 10 (by decide) q1 rfl dX10_byteAt_9 ?_
    refine lv_iload_n hx hb dX10_byteAt_12 rfl (lv_at hl 1 rfl) ?_
    obtain ⟨hk5, h⟩ := chk_some h
    refine wi_iald hx hb hE hP 1 rfl (by decide) hk5 dX10_byteAt_13 ?_
    refine lv_goto (tgt := 18) hx hb dX10_byteAt_14 (by decide) ?_
    obtain rfl := Option.some.inj h
    exact KR _ _ _ _ hP hS dX10_byteAt_18
abbrev wd_X10_is (cy : Nat → ClassId) (a_v : Nat) (a_v_tape : Nat) (a_v_st : Nat) (a_v_now : Nat) (a_v_isKept : Nat) (a_v_draft : Nat) (a_v_placedRow : Nat) (a_v_by : Nat) (a_v_told : Nat) (a_v_bestRow : Nat) (a_v_ways : Nat) (a_v_lanes : Nat) (a_v_sizes : Nat) (a_v_cells : Nat) (a_v_before : Nat) (v_hasOrder : Int) (v_hasStart : Int) (v_placed : Int) (v_placedMany : Int) (v_highest : Int) (v_taped : Int) (v_pos : Int) (v_begun : Int) (v_sort : Int) (v_value : Int) (v_fault : Int) (v_wrongAt : Int) (v_rightSum : Int) (v_wrongSum : Int) (v_allWays : Int) (v_torn : Int) (v_tape : Nat → Int) : va_W := [(a_v, .inr (10, [.ref a_v_st, .ref a_v_now, .ref a_v_isKept, .ref a_v_draft, .int (zI v_hasOrder), .int (zI v_hasStart), .int (zI v_placed), .int (zI v_placedMany), .ref a_v_placedRow, .int (zI v_highest), .ref a_v_tape, .int (zI v_taped), .int (zI v_pos), .int (zI v_begun), .int (zI v_sort), .int (zI v_value), .int (zI v_fault), .int (zI v_wrongAt), .ref a_v_by, .ref a_v_told, .ref a_v_bestRow, .long (zL v_rightSum), .long (zL v_wrongSum), .long (zL v_allWays), .ref a_v_ways, .ref a_v_lanes, .ref a_v_sizes, .ref a_v_cells, .int (zI v_torn), .ref a_v_before])), (a_v_tape, .inl (cy 0, 160, .inl (fun j => zI (v_tape j))))]
set_option maxHeartbeats 4000000 in
set_option maxRecDepth 100000 in
theorem c_X10_is (l : Launch) (D : va_G) (cy : Nat → ClassId) (sa : Nat → Nat) (a_v : Nat) (a_v_tape : Nat) (a_v_st : Nat) (a_v_now : Nat) (a_v_isKept : Nat) (a_v_draft : Nat) (a_v_placedRow : Nat) (a_v_by : Nat) (a_v_told : Nat) (a_v_bestRow : Nat) (a_v_ways : Nat) (a_v_lanes : Nat) (a_v_sizes : Nat) (a_v_cells : Nat) (a_v_before : Nat) (v_hasOrder : Int) (v_hasStart : Int) (v_placed : Int) (v_placedMany : Int) (v_highest : Int) (v_taped : Int) (v_pos : Int) (v_begun : Int) (v_sort : Int) (v_value : Int) (v_fault : Int) (v_wrongAt : Int) (v_rightSum : Int) (v_wrongSum : Int) (v_allWays : Int) (v_torn : Int) (v_tape : Nat → Int) (x1 : Int) (x2 : Int) (x3 : Int) (x4 : Int) (x5 : Int) (o : Int) (h : f_M_is v_taped v_pos v_begun v_tape x1 x2 x3 x4 x5 = some o) : CtI l yX10_is wsX10_is ({ frames := 1, cells := 0, slots := 0, locals := 21 }) D cy sa [.ref a_v, .int (zI x1), .int (zI x2), .int (zI x3), .int (zI x4), .int (zI x5)] (wd_X10_is cy a_v a_v_tape a_v_st a_v_now a_v_isKept a_v_draft a_v_placedRow a_v_by a_v_told a_v_bestRow a_v_ways a_v_lanes a_v_sizes a_v_cells a_v_before v_hasOrder v_hasStart v_placed v_placedMany v_highest v_taped v_pos v_begun v_sort v_value v_fault v_wrongAt v_rightSum v_wrongSum v_allWays v_torn v_tape) (wd_X10_is cy a_v a_v_tape a_v_st a_v_now a_v_isKept a_v_draft a_v_placedRow a_v_by a_v_told a_v_bestRow a_v_ways a_v_lanes a_v_sizes a_v_cells a_v_before v_hasOrder v_hasStart v_placed v_placedMany v_highest v_taped v_pos v_begun v_sort v_value v_fault v_wrongAt v_rightSum v_wrongSum v_allWays v_torn v_tape) o := by
  refine ct_Z (cc := cX10_is) (maxL := 6) (plainFor_of_name (by decide)) rfl (Nat.le_of_ble_eq_true rfl) ?_
  intro p e s m below meth c A args QQ hx hb hml hown hts hE hDD hP KR ls hl
  have hl : lv_has ls 6 [(0, .ref a_v), (1, .int (zI x1)), (2, .int (zI x2)), (3, .int (zI x3)), (4, .int (zI x4)), (5, .int (zI x5))] := hl
  have hDD : DD A [a_v, a_v_tape] := hDD
  have hS : va_S A s.heap s.heap [] := va_S.rf
  have q0 := hts (.fieldLink RX10 94 "HatHoursModel" "pos" "I") (List.mem_of_getElem? (i := 1) rfl)
  have q1 := hts (.fieldLink RX10 88 "HatHoursModel" "begun" "I") (List.mem_of_getElem? (i := 2) rfl)
  have iX10 : ∀ w ∈ u_ws RX10 TX10 30, w ∈ wsX10_is := in_slice 10 30 rfl
  refine lv_aload_n hx hb dX10_is_0 rfl (lv_at hl 0 rfl) ?_
  refine wi_get (v := .int (zI v_pos)) hx hb hts iX10 hown hE hP 0 rfl rfl 12 (by decide) q0 rfl dX10_is_1 ?_
  refine lv_aload_n hx hb dX10_is_4 rfl (lv_at hl 0 rfl) ?_
  refine wi_get (v := .int (zI v_begun)) hx hb hts iX10 hown hE hP 0 rfl rfl 13 (by decide) q1 rfl dX10_is_5 ?_
  refine wi_isub hx hb dX10_is_8 ?_
  refine lv_iload_n hx hb dX10_is_9 rfl (lv_at hl 1 rfl) ?_
  obtain ⟨hr1, h⟩ := chk_some h
  obtain ⟨hr2, h⟩ := chk_some h
  refine wi_ic_ne (tgt := 73) hx hb dX10_is_10 (by decide) hr1 hr2 (fun c4 => ?_) (fun c4 => ?_)
  · have h := ite_f c4 h
    refine wi_ic hx hb dX10_is_73 ?_
    obtain rfl := Option.some.inj h
    exact KR _ _ _ _ (z01 (Or.inl rfl)) hP hS dX10_is_74
  · have h := ite_t c4 h
    refine lv_aload_n hx hb dX10_is_13 rfl (lv_at hl 0 rfl) ?_
    refine lv_aload_n hx hb dX10_is_14 rfl (lv_at hl 0 rfl) ?_
    refine wi_get (v := .int (zI v_begun)) hx hb hts iX10 hown hE hP 0 rfl rfl 13 (by decide) q1 rfl dX10_is_15 ?_
    obtain ⟨o5, hc6, h⟩ := bnd_some h
    refine cV_i (rest := []) (w2 := (wd_X10_is cy a_v a_v_tape a_v_st a_v_now a_v_isKept a_v_draft a_v_placedRow a_v_by a_v_told a_v_bestRow a_v_ways a_v_lanes a_v_sizes a_v_cells a_v_before v_hasOrder v_hasStart v_placed v_placedMany v_highest v_taped v_pos v_begun v_sort v_value v_fault v_wrongAt v_rightSum v_wrongSum v_allWays v_torn v_tape)) ⟨hx, hb, hml, hown, hts⟩ (c_X10_byteAt l D cy sa a_v a_v_tape a_v_st a_v_now a_v_isKept a_v_draft a_v_placedRow a_v_by a_v_told a_v_bestRow a_v_ways a_v_lanes a_v_sizes a_v_cells a_v_before v_hasOrder v_hasStart v_placed v_placedMany v_highest v_taped v_pos v_begun v_sort v_value v_fault v_wrongAt v_rightSum v_wrongSum v_allWays v_torn v_tape v_begun o5 hc6) (cwV 1 hts gX10_is_X10_byteAt rfl rfl rfl (by decide +kernel) ⟨Nat.le_of_ble_eq_true rfl, Nat.le_of_ble_eq_true rfl⟩) rfl rfl rfl hE hP hDD rfl hS [0, 1] rfl rfl rfl rfl hl.1 (Nat.le_of_ble_eq_true rfl) ⟨Nat.zero_le _, Nat.zero_le _⟩ rfl dX10_is_18 rfl (fun H locs hP hS => ?_)
    refine lv_iload_n hx hb dX10_is_21 rfl (lv_at hl 2 rfl) ?_
    obtain ⟨hr7, h⟩ := chk_some h
    obtain ⟨hr8, h⟩ := chk_some h
    refine wi_ic_ne (tgt := 73) hx hb dX10_is_22 (by decide) hr7 hr8 (fun c10 => ?_) (fun c10 => ?_)
    · have h := ite_f c10 h
      refine wi_ic hx hb dX10_is_73 ?_
      obtain rfl := Option.some.inj h
      exact KR _ _ _ _ (z01 (Or.inl rfl)) hP hS dX10_is_74
    · have h := ite_t c10 h
      refine lv_aload_n hx hb dX10_is_25 rfl (lv_at hl 0 rfl) ?_
      refine lv_aload_n hx hb dX10_is_26 rfl (lv_at hl 0 rfl) ?_
      refine wi_get (v := .int (zI v_begun)) hx hb hts iX10 hown hE hP 0 rfl rfl 13 (by decide) q1 rfl dX10_is_27 ?_
      refine wi_ic hx hb dX10_is_30 ?_
      refine wi_iadd hx hb dX10_is_31 ?_
      obtain ⟨o11, hc12, h⟩ := bnd_some h
      refine cV_i (rest := []) (w2 := (wd_X10_is cy a_v a_v_tape a_v_st a_v_now a_v_isKept a_v_draft a_v_placedRow a_v_by a_v_told a_v_bestRow a_v_ways a_v_lanes a_v_sizes a_v_cells a_v_before v_hasOrder v_hasStart v_placed v_placedMany v_highest v_taped v_pos v_begun v_sort v_value v_fault v_wrongAt v_rightSum v_wrongSum v_allWays v_torn v_tape)) ⟨hx, hb, hml, hown, hts⟩ (c_X10_byteAt l D cy sa a_v a_v_tape a_v_st a_v_now a_v_isKept a_v_draft a_v_placedRow a_v_by a_v_told a_v_bestRow a_v_ways a_v_lanes a_v_sizes a_v_cells a_v_before v_hasOrder v_hasStart v_placed v_placedMany v_highest v_taped v_pos v_begun v_sort v_value v_fault v_wrongAt v_rightSum v_wrongSum v_allWays v_torn v_tape (v_begun + 1) o11 hc12) (cwV 1 hts gX10_is_X10_byteAt rfl rfl rfl (by decide +kernel) ⟨Nat.le_of_ble_eq_true rfl, Nat.le_of_ble_eq_true rfl⟩) rfl rfl rfl hE hP hDD rfl hS [0, 1] rfl rfl rfl rfl hl.1 (Nat.le_of_ble_eq_true rfl) ⟨Nat.zero_le _, Nat.zero_le _⟩ rfl dX10_is_32 rfl (fun H locs hP hS => ?_)
      refine lv_iload_n hx hb dX10_is_35 rfl (lv_at hl 3 rfl) ?_
      obtain ⟨hr13, h⟩ := chk_some h
      obtain ⟨hr14, h⟩ := chk_some h
      refine wi_ic_ne (tgt := 73) hx hb dX10_is_36 (by decide) hr13 hr14 (fun c16 => ?_) (fun c16 => ?_)
      · have h := ite_f c16 h
        refine wi_ic hx hb dX10_is_73 ?_
        obtain rfl := Option.some.inj h
        exact KR _ _ _ _ (z01 (Or.inl rfl)) hP hS dX10_is_74
      · have h := ite_t c16 h
        refine lv_aload_n hx hb dX10_is_39 rfl (lv_at hl 0 rfl) ?_
        refine lv_aload_n hx hb dX10_is_40 rfl (lv_at hl 0 rfl) ?_
        refine wi_get (v := .int (zI v_begun)) hx hb hts iX10 hown hE hP 0 rfl rfl 13 (by decide) q1 rfl dX10_is_41 ?_
        refine wi_ic hx hb dX10_is_44 ?_
        refine wi_iadd hx hb dX10_is_45 ?_
        obtain ⟨o17, hc18, h⟩ := bnd_some h
        refine cV_i (rest := []) (w2 := (wd_X10_is cy a_v a_v_tape a_v_st a_v_now a_v_isKept a_v_draft a_v_placedRow a_v_by a_v_told a_v_bestRow a_v_ways a_v_lanes a_v_sizes a_v_cells a_v_before v_hasOrder v_hasStart v_placed v_placedMany v_highest v_taped v_pos v_begun v_sort v_value v_fault v_wrongAt v_rightSum v_wrongSum v_allWays v_torn v_tape)) ⟨hx, hb, hml, hown, hts⟩ (c_X10_byteAt l D cy sa a_v a_v_tape a_v_st a_v_now a_v_isKept a_v_draft a_v_placedRow a_v_by a_v_told a_v_bestRow a_v_ways a_v_lanes a_v_sizes a_v_cells a_v_before v_hasOrder v_hasStart v_placed v_placedMany v_highest v_taped v_pos v_begun v_sort v_value v_fault v_wrongAt v_rightSum v_wrongSum v_allWays v_torn v_tape (v_begun + 2) o17 hc18) (cwV 1 hts gX10_is_X10_byteAt rfl rfl rfl (by decide +kernel) ⟨Nat.le_of_ble_eq_true rfl, Nat.le_of_ble_eq_true rfl⟩) rfl rfl rfl hE hP hDD rfl hS [0, 1] rfl rfl rfl rfl hl.1 (Nat.le_of_ble_eq_true rfl) ⟨Nat.zero_le _, Nat.zero_le _⟩ rfl dX10_is_46 rfl (fun H locs hP hS => ?_)
        refine lv_iload hx hb dX10_is_49 (lv_at hl 4 rfl) ?_
        obtain ⟨hr19, h⟩ := chk_some h
        obtain ⟨hr20, h⟩ := chk_some h
        refine wi_ic_ne (tgt := 73) hx hb dX10_is_51 (by decide) hr19 hr20 (fun c22 => ?_) (fun c22 => ?_)
        · have h := ite_f c22 h
          refine wi_ic hx hb dX10_is_73 ?_
          obtain rfl := Option.some.inj h
          exact KR _ _ _ _ (z01 (Or.inl rfl)) hP hS dX10_is_74
        · have h := ite_t c22 h
          refine lv_aload_n hx hb dX10_is_54 rfl (lv_at hl 0 rfl) ?_
          refine lv_aload_n hx hb dX10_is_55 rfl (lv_at hl 0 rfl) ?_
          refine wi_get (v := .int (zI v_begun)) hx hb hts iX10 hown hE hP 0 rfl rfl 13 (by decide) q1 rfl dX10_is_56 ?_
          refine wi_ic hx hb dX10_is_59 ?_
          refine wi_iadd hx hb dX10_is_60 ?_
          obtain ⟨o23, hc24, h⟩ := bnd_some h
          refine cV_i (rest := []) (w2 := (wd_X10_is cy a_v a_v_tape a_v_st a_v_now a_v_isKept a_v_draft a_v_placedRow a_v_by a_v_told a_v_bestRow a_v_ways a_v_lanes a_v_sizes a_v_cells a_v_before v_hasOrder v_hasStart v_placed v_placedMany v_highest v_taped v_pos v_begun v_sort v_value v_fault v_wrongAt v_rightSum v_wrongSum v_allWays v_torn v_tape)) ⟨hx, hb, hml, hown, hts⟩ (c_X10_byteAt l D cy sa a_v a_v_tape a_v_st a_v_now a_v_isKept a_v_draft a_v_placedRow a_v_by a_v_told a_v_bestRow a_v_ways a_v_lanes a_v_sizes a_v_cells a_v_before v_hasOrder v_hasStart v_placed v_placedMany v_highest v_taped v_pos v_begun v_sort v_value v_fault v_wrongAt v_rightSum v_wrongSum v_allWays v_torn v_tape (v_begun + 3) o23 hc24) (cwV 1 hts gX10_is_X10_byteAt rfl rfl rfl (by decide +kernel) ⟨Nat.le_of_ble_eq_true rfl, Nat.le_of_ble_eq_true rfl⟩) rfl rfl rfl hE hP hDD rfl hS [0, 1] rfl rfl rfl rfl hl.1 (Nat.le_of_ble_eq_true rfl) ⟨Nat.zero_le _, Nat.zero_le _⟩ rfl dX10_is_61 rfl (fun H locs hP hS => ?_)
          refine lv_iload hx hb dX10_is_64 (lv_at hl 5 rfl) ?_
          obtain ⟨hr25, h⟩ := chk_some h
          obtain ⟨hr26, h⟩ := chk_some h
          refine wi_ic_ne (tgt := 73) hx hb dX10_is_66 (by decide) hr25 hr26 (fun c28 => ?_) (fun c28 => ?_)
          · have h := ite_f c28 h
            refine wi_ic hx hb dX10_is_73 ?_
            obtain rfl := Option.some.inj h
            exact KR _ _ _ _ (z01 (Or.inl rfl)) hP hS dX10_is_74
          · have h := ite_t c28 h
            refine wi_ic hx hb dX10_is_69 ?_
            refine lv_goto (tgt := 74) hx hb dX10_is_70 (by decide) ?_
            obtain rfl := Option.some.inj h
            exact KR _ _ _ _ (z01 (Or.inr rfl)) hP hS dX10_is_74
abbrev wd_X10_ends (cy : Nat → ClassId) (a_v : Nat) (a_v_tape : Nat) (a_v_st : Nat) (a_v_now : Nat) (a_v_isKept : Nat) (a_v_draft : Nat) (a_v_placedRow : Nat) (a_v_by : Nat) (a_v_told : Nat) (a_v_bestRow : Nat) (a_v_ways : Nat) (a_v_lanes : Nat) (a_v_sizes : Nat) (a_v_cells : Nat) (a_v_before : Nat) (v_hasOrder : Int) (v_hasStart : Int) (v_placed : Int) (v_placedMany : Int) (v_highest : Int) (v_taped : Int) (v_pos : Int) (v_begun : Int) (v_sort : Int) (v_value : Int) (v_fault : Int) (v_wrongAt : Int) (v_rightSum : Int) (v_wrongSum : Int) (v_allWays : Int) (v_torn : Int) (v_tape : Nat → Int) : va_W := [(a_v, .inr (10, [.ref a_v_st, .ref a_v_now, .ref a_v_isKept, .ref a_v_draft, .int (zI v_hasOrder), .int (zI v_hasStart), .int (zI v_placed), .int (zI v_placedMany), .ref a_v_placedRow, .int (zI v_highest), .ref a_v_tape, .int (zI v_taped), .int (zI v_pos), .int (zI v_begun), .int (zI v_sort), .int (zI v_value), .int (zI v_fault), .int (zI v_wrongAt), .ref a_v_by, .ref a_v_told, .ref a_v_bestRow, .long (zL v_rightSum), .long (zL v_wrongSum), .long (zL v_allWays), .ref a_v_ways, .ref a_v_lanes, .ref a_v_sizes, .ref a_v_cells, .int (zI v_torn), .ref a_v_before])), (a_v_tape, .inl (cy 0, 160, .inl (fun j => zI (v_tape j))))]
set_option maxHeartbeats 4000000 in
set_option maxRecDepth 100000 in
theorem c_X10_ends (l : Launch) (D : va_G) (cy : Nat → ClassId) (sa : Nat → Nat) (a_v : Nat) (a_v_tape : Nat) (a_v_st : Nat) (a_v_now : Nat) (a_v_isKept : Nat) (a_v_draft : Nat) (a_v_placedRow : Nat) (a_v_by : Nat) (a_v_told : Nat) (a_v_bestRow : Nat) (a_v_ways : Nat) (a_v_lanes : Nat) (a_v_sizes : Nat) (a_v_cells : Nat) (a_v_before : Nat) (v_hasOrder : Int) (v_hasStart : Int) (v_placed : Int) (v_placedMany : Int) (v_highest : Int) (v_taped : Int) (v_pos : Int) (v_begun : Int) (v_sort : Int) (v_value : Int) (v_fault : Int) (v_wrongAt : Int) (v_rightSum : Int) (v_wrongSum : Int) (v_allWays : Int) (v_torn : Int) (v_tape : Nat → Int) (x1 : Int) (x2 : Int) (o : Int) (h : f_M_ends v_taped v_begun v_tape x1 x2 = some o) : CtI l yX10_ends wsX10_ends ({ frames := 1, cells := 0, slots := 0, locals := 21 }) D cy sa [.ref a_v, .int (zI x1), .int (zI x2)] (wd_X10_ends cy a_v a_v_tape a_v_st a_v_now a_v_isKept a_v_draft a_v_placedRow a_v_by a_v_told a_v_bestRow a_v_ways a_v_lanes a_v_sizes a_v_cells a_v_before v_hasOrder v_hasStart v_placed v_placedMany v_highest v_taped v_pos v_begun v_sort v_value v_fault v_wrongAt v_rightSum v_wrongSum v_allWays v_torn v_tape) (wd_X10_ends cy a_v a_v_tape a_v_st a_v_now a_v_isKept a_v_draft a_v_placedRow a_v_by a_v_told a_v_bestRow a_v_ways a_v_lanes a_v_sizes a_v_cells a_v_before v_hasOrder v_hasStart v_placed v_placedMany v_highest v_taped v_pos v_begun v_sort v_value v_fault v_wrongAt v_rightSum v_wrongSum v_allWays v_torn v_tape) o := by
  refine ct_Z (cc := cX10_ends) (maxL := 3) (plainFor_of_name (by decide)) rfl (Nat.le_of_ble_eq_true rfl) ?_
  intro p e s m below meth c A args QQ hx hb hml hown hts hE hDD hP KR ls hl
  have hl : lv_has ls 3 [(0, .ref a_v), (1, .int (zI x1)), (2, .int (zI x2))] := hl
  have hDD : DD A [a_v, a_v_tape] := hDD
  have hS : va_S A s.heap s.heap [] := va_S.rf
  have q0 := hts (.fieldLink RX10 88 "HatHoursModel" "begun" "I") (List.mem_of_getElem? (i := 1) rfl)
  have iX10 : ∀ w ∈ u_ws RX10 TX10 30, w ∈ wsX10_ends := in_slice 9 30 rfl
  refine lv_aload_n hx hb dX10_ends_0 rfl (lv_at hl 0 rfl) ?_
  refine lv_aload_n hx hb dX10_ends_1 rfl (lv_at hl 0 rfl) ?_
  refine wi_get (v := .int (zI v_begun)) hx hb hts iX10 hown hE hP 0 rfl rfl 13 (by decide) q0 rfl dX10_ends_2 ?_
  refine wi_ic hx hb dX10_ends_5 ?_
  refine wi_iadd hx hb dX10_ends_6 ?_
  obtain ⟨o1, hc2, h⟩ := bnd_some h
  refine cV_i (rest := []) (w2 := (wd_X10_ends cy a_v a_v_tape a_v_st a_v_now a_v_isKept a_v_draft a_v_placedRow a_v_by a_v_told a_v_bestRow a_v_ways a_v_lanes a_v_sizes a_v_cells a_v_before v_hasOrder v_hasStart v_placed v_placedMany v_highest v_taped v_pos v_begun v_sort v_value v_fault v_wrongAt v_rightSum v_wrongSum v_allWays v_torn v_tape)) ⟨hx, hb, hml, hown, hts⟩ (c_X10_byteAt l D cy sa a_v a_v_tape a_v_st a_v_now a_v_isKept a_v_draft a_v_placedRow a_v_by a_v_told a_v_bestRow a_v_ways a_v_lanes a_v_sizes a_v_cells a_v_before v_hasOrder v_hasStart v_placed v_placedMany v_highest v_taped v_pos v_begun v_sort v_value v_fault v_wrongAt v_rightSum v_wrongSum v_allWays v_torn v_tape (v_begun + 4) o1 hc2) (cwV 1 hts gX10_ends_X10_byteAt rfl rfl rfl (by decide +kernel) ⟨Nat.le_of_ble_eq_true rfl, Nat.le_of_ble_eq_true rfl⟩) rfl rfl rfl hE hP hDD rfl hS [0, 1] rfl rfl rfl rfl hl.1 (Nat.le_of_ble_eq_true rfl) ⟨Nat.zero_le _, Nat.zero_le _⟩ rfl dX10_ends_7 rfl (fun H locs hP hS => ?_)
  refine lv_iload_n hx hb dX10_ends_10 rfl (lv_at hl 1 rfl) ?_
  obtain ⟨hr3, h⟩ := chk_some h
  obtain ⟨hr4, h⟩ := chk_some h
  refine wi_ic_ne (tgt := 36) hx hb dX10_ends_11 (by decide) hr3 hr4 (fun c6 => ?_) (fun c6 => ?_)
  · have h := ite_f c6 h
    refine wi_ic hx hb dX10_ends_36 ?_
    obtain rfl := Option.some.inj h
    exact KR _ _ _ _ (z01 (Or.inl rfl)) hP hS dX10_ends_37
  · have h := ite_t c6 h
    refine lv_iload_n hx hb dX10_ends_14 rfl (lv_at hl 2 rfl) ?_
    obtain ⟨hr7, h⟩ := chk_some h
    refine wi_if_eq (tgt := 32) hx hb dX10_ends_15 (by decide) hr7 (fun c9 => ?_) (fun c9 => ?_)
    · have h := ite_t c9 h
      refine wi_ic hx hb dX10_ends_32 ?_
      refine lv_goto (tgt := 37) hx hb dX10_ends_33 (by decide) ?_
      obtain rfl := Option.some.inj h
      exact KR _ _ _ _ (z01 (Or.inr rfl)) hP hS dX10_ends_37
    · have h := ite_f c9 h
      refine lv_aload_n hx hb dX10_ends_18 rfl (lv_at hl 0 rfl) ?_
      refine lv_aload_n hx hb dX10_ends_19 rfl (lv_at hl 0 rfl) ?_
      refine wi_get (v := .int (zI v_begun)) hx hb hts iX10 hown hE hP 0 rfl rfl 13 (by decide) q0 rfl dX10_ends_20 ?_
      refine wi_ic hx hb dX10_ends_23 ?_
      refine wi_iadd hx hb dX10_ends_24 ?_
      obtain ⟨o10, hc11, h⟩ := bnd_some h
      refine cV_i (rest := []) (w2 := (wd_X10_ends cy a_v a_v_tape a_v_st a_v_now a_v_isKept a_v_draft a_v_placedRow a_v_by a_v_told a_v_bestRow a_v_ways a_v_lanes a_v_sizes a_v_cells a_v_before v_hasOrder v_hasStart v_placed v_placedMany v_highest v_taped v_pos v_begun v_sort v_value v_fault v_wrongAt v_rightSum v_wrongSum v_allWays v_torn v_tape)) ⟨hx, hb, hml, hown, hts⟩ (c_X10_byteAt l D cy sa a_v a_v_tape a_v_st a_v_now a_v_isKept a_v_draft a_v_placedRow a_v_by a_v_told a_v_bestRow a_v_ways a_v_lanes a_v_sizes a_v_cells a_v_before v_hasOrder v_hasStart v_placed v_placedMany v_highest v_taped v_pos v_begun v_sort v_value v_fault v_wrongAt v_rightSum v_wrongSum v_allWays v_torn v_tape (v_begun + 5) o10 hc11) (cwV 1 hts gX10_ends_X10_byteAt rfl rfl rfl (by decide +kernel) ⟨Nat.le_of_ble_eq_true rfl, Nat.le_of_ble_eq_true rfl⟩) rfl rfl rfl hE hP hDD rfl hS [0, 1] rfl rfl rfl rfl hl.1 (Nat.le_of_ble_eq_true rfl) ⟨Nat.zero_le _, Nat.zero_le _⟩ rfl dX10_ends_25 rfl (fun H locs hP hS => ?_)
      refine lv_iload_n hx hb dX10_ends_28 rfl (lv_at hl 2 rfl) ?_
      obtain ⟨hr12, h⟩ := chk_some h
      refine wi_ic_ne (tgt := 36) hx hb dX10_ends_29 (by decide) hr12 hr7 (fun c14 => ?_) (fun c14 => ?_)
      · have h := ite_f c14 h
        refine wi_ic hx hb dX10_ends_36 ?_
        obtain rfl := Option.some.inj h
        exact KR _ _ _ _ (z01 (Or.inl rfl)) hP hS dX10_ends_37
      · have h := ite_t c14 h
        refine wi_ic hx hb dX10_ends_32 ?_
        refine lv_goto (tgt := 37) hx hb dX10_ends_33 (by decide) ?_
        obtain rfl := Option.some.inj h
        exact KR _ _ _ _ (z01 (Or.inr rfl)) hP hS dX10_ends_37
