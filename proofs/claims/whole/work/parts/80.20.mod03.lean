abbrev wd_X10_readLine (cy : Nat → ClassId) (a_v : Nat) (a_v_draft : Nat) (a_v_placedRow : Nat) (a_v_tape : Nat) (a_v_st : Nat) (a_v_now : Nat) (a_v_isKept : Nat) (a_v_by : Nat) (a_v_told : Nat) (a_v_bestRow : Nat) (a_v_ways : Nat) (a_v_lanes : Nat) (a_v_sizes : Nat) (a_v_cells : Nat) (a_v_before : Nat) (v_hasOrder : Int) (v_hasStart : Int) (v_placed : Int) (v_placedMany : Int) (v_highest : Int) (v_taped : Int) (v_pos : Int) (v_begun : Int) (v_sort : Int) (v_value : Int) (v_fault : Int) (v_wrongAt : Int) (v_rightSum : Int) (v_wrongSum : Int) (v_allWays : Int) (v_torn : Int) (v_draft : Nat → Int) (v_placedRow : Nat → Int) (v_tape : Nat → Int) : va_W := [(a_v, .inr (10, [.ref a_v_st, .ref a_v_now, .ref a_v_isKept, .ref a_v_draft, .int (zI v_hasOrder), .int (zI v_hasStart), .int (zI v_placed), .int (zI v_placedMany), .ref a_v_placedRow, .int (zI v_highest), .ref a_v_tape, .int (zI v_taped), .int (zI v_pos), .int (zI v_begun), .int (zI v_sort), .int (zI v_value), .int (zI v_fault), .int (zI v_wrongAt), .ref a_v_by, .ref a_v_told, .ref a_v_bestRow, .long (zL v_rightSum), .long (zL v_wrongSum), .long (zL v_allWays), .ref a_v_ways, .ref a_v_lanes, .ref a_v_sizes, .ref a_v_cells, .int (zI v_torn), .ref a_v_before])), (a_v_draft, .inl (cy 0, 56, .inl (fun j => zI (v_draft j)))), (a_v_placedRow, .inl (cy 0, 5, .inl (fun j => zI (v_placedRow j)))), (a_v_tape, .inl (cy 0, 160, .inl (fun j => zI (v_tape j))))]
set_option maxHeartbeats 4000000 in
set_option maxRecDepth 100000 in
theorem c_X10_readLine (l : Launch) (D : va_G) (cy : Nat → ClassId) (sa : Nat → Nat) (a_v : Nat) (a_v_draft : Nat) (a_v_placedRow : Nat) (a_v_tape : Nat) (a_v_st : Nat) (a_v_now : Nat) (a_v_isKept : Nat) (a_v_by : Nat) (a_v_told : Nat) (a_v_bestRow : Nat) (a_v_ways : Nat) (a_v_lanes : Nat) (a_v_sizes : Nat) (a_v_cells : Nat) (a_v_before : Nat) (v_hasOrder : Int) (v_hasStart : Int) (v_placed : Int) (v_placedMany : Int) (v_highest : Int) (v_taped : Int) (v_pos : Int) (v_begun : Int) (v_sort : Int) (v_value : Int) (v_fault : Int) (v_wrongAt : Int) (v_rightSum : Int) (v_wrongSum : Int) (v_allWays : Int) (v_torn : Int) (v_draft : Nat → Int) (v_placedRow : Nat → Int) (v_tape : Nat → Int) (o : Int × Int × Int × Int × Int × Int × Int × Int × Int × Int × Int × (Nat → Int) × (Nat → Int)) (h : f_M_readLine v_hasOrder v_hasStart v_placed v_placedMany v_highest v_taped v_pos v_begun v_sort v_value v_fault v_wrongAt v_draft v_placedRow v_tape = some o) : CtV l yX10_readLine wsX10_readLine ({ frames := 4, cells := 0, slots := 0, locals := 91 }) D cy sa [.ref a_v] (wd_X10_readLine cy a_v a_v_draft a_v_placedRow a_v_tape a_v_st a_v_now a_v_isKept a_v_by a_v_told a_v_bestRow a_v_ways a_v_lanes a_v_sizes a_v_cells a_v_before v_hasOrder v_hasStart v_placed v_placedMany v_highest v_taped v_pos v_begun v_sort v_value v_fault v_wrongAt v_rightSum v_wrongSum v_allWays v_torn v_draft v_placedRow v_tape) (wd_X10_readLine cy a_v a_v_draft a_v_placedRow a_v_tape a_v_st a_v_now a_v_isKept a_v_by a_v_told a_v_bestRow a_v_ways a_v_lanes a_v_sizes a_v_cells a_v_before o.1 o.2.1 o.2.2.1 o.2.2.2.1 o.2.2.2.2.1 v_taped o.2.2.2.2.2.1 o.2.2.2.2.2.2.1 o.2.2.2.2.2.2.2.1 o.2.2.2.2.2.2.2.2.1 o.2.2.2.2.2.2.2.2.2.1 o.2.2.2.2.2.2.2.2.2.2.1 v_rightSum v_wrongSum v_allWays v_torn o.2.2.2.2.2.2.2.2.2.2.2.1 o.2.2.2.2.2.2.2.2.2.2.2.2 v_tape)  := by
  refine ct_V (cc := cX10_readLine) (maxL := 2) (plainFor_of_name (by decide)) rfl (Nat.le_of_ble_eq_true rfl) ?_
  intro p e s m below meth c A args QQ hx hb hml hown hts hE hDD hP KR ls hl
  have hl : lv_has ls 2 [(0, .ref a_v)] := hl
  have hDD : DD A [a_v, a_v_draft, a_v_placedRow, a_v_tape] := hDD
  have hS : va_S A s.heap s.heap [] := va_S.rf
  have q0 := hts (.fieldLink RX10 109 "HatHoursModel" "sort" "I") (List.mem_of_getElem? (i := 1) rfl)
  have q1 := hts (.fieldLink RX10 59 "HatHoursModel" "hasOrder" "Z") (List.mem_of_getElem? (i := 3) rfl)
  have q2 := hts (.fieldLink RX10 63 "HatHoursModel" "hasStart" "Z") (List.mem_of_getElem? (i := 4) rfl)
  have q3 := hts (.fieldLink RX10 85 "HatHoursModel" "fault" "I") (List.mem_of_getElem? (i := 5) rfl)
  have q4 := hts (.fieldLink RX10 20 "HatHoursModel" "draft" "[I") (List.mem_of_getElem? (i := 2) rfl)
  have iX10 : ∀ w ∈ u_ws RX10 TX10 30, w ∈ wsX10_readLine := in_slice 64 30 rfl
  refine lv_aload_n hx hb dX10_readLine_0 rfl (lv_at hl 0 rfl) ?_
  refine wi_get (v := .int (zI v_sort)) hx hb hts iX10 hown hE hP 0 rfl rfl 14 (by decide) q0 rfl dX10_readLine_1 ?_
  refine wi_ic hx hb dX10_readLine_4 ?_
  obtain ⟨hr1, h⟩ := chk_some h
  obtain ⟨o2, hx3, h⟩ := bnd_some h
  have J4 : ∀ (H : Heap) (locs : List Loc) (ls : Array Slot), va_P D vwCl (wd_X10_readLine cy a_v a_v_draft a_v_placedRow a_v_tape a_v_st a_v_now a_v_isKept a_v_by a_v_told a_v_bestRow a_v_ways a_v_lanes a_v_sizes a_v_cells a_v_before v_hasOrder v_hasStart v_placed v_placedMany v_highest v_taped v_pos v_begun v_sort v_value v_fault v_wrongAt v_rightSum v_wrongSum v_allWays v_torn v_draft v_placedRow v_tape) H → va_S A s.heap H locs → lv_has ls 2 [(0, .ref a_v)] → W p l e { frames := 4, cells := 0, slots := 0, locals := 91 } s m args below meth c H locs 0 0 QQ (F0 m 17 ls [.int (zI o2)]) := by
    intro H locs ls hP hS hl
    refine lv_istore_n (lv' := [(1, .int (zI o2)), (0, .ref a_v)]) hx hb dX10_readLine_17 rfl hl (by decide) rfl (fun ls hl => ?_)
    refine lv_aload_n hx hb dX10_readLine_18 rfl (lv_at hl 1 rfl) ?_
    refine lv_iload_n hx hb dX10_readLine_19 rfl (lv_at hl 0 rfl) ?_
    refine wi_bi hx hb dX10_readLine_20 (by decide) ?_
    obtain ⟨hr5, h⟩ := chk_some h
    obtain ⟨o6, hx7, h⟩ := bnd_some h
    have J8 : ∀ (H : Heap) (locs : List Loc) (ls : Array Slot), va_P D vwCl (wd_X10_readLine cy a_v a_v_draft a_v_placedRow a_v_tape a_v_st a_v_now a_v_isKept a_v_by a_v_told a_v_bestRow a_v_ways a_v_lanes a_v_sizes a_v_cells a_v_before v_hasOrder v_hasStart v_placed v_placedMany v_highest v_taped v_pos v_begun v_sort v_value v_fault v_wrongAt v_rightSum v_wrongSum v_allWays v_torn v_draft v_placedRow v_tape) H → va_S A s.heap H locs → lv_has ls 2 [(0, .ref a_v), (1, .int (zI o2))] → W p l e { frames := 4, cells := 0, slots := 0, locals := 91 } s m args below meth c H locs 0 0 QQ (F0 m 30 ls [.int (zI o6), .ref a_v]) := by
      intro H locs ls hP hS hl
      refine wi_ic hx hb dX10_readLine_30 ?_
      obtain ⟨o9, hc10, h⟩ := bnd_some h
      refine cV_v (rest := []) (w2 := (wd_X10_readLine cy a_v a_v_draft a_v_placedRow a_v_tape a_v_st a_v_now a_v_isKept a_v_by a_v_told a_v_bestRow a_v_ways a_v_lanes a_v_sizes a_v_cells a_v_before v_hasOrder v_hasStart v_placed v_placedMany v_highest v_taped v_pos v_begun v_sort v_value o9.1 o9.2 v_rightSum v_wrongSum v_allWays v_torn v_draft v_placedRow v_tape)) ⟨hx, hb, hml, hown, hts⟩ (c_X10_needs l D cy sa a_v a_v_st a_v_now a_v_isKept a_v_draft a_v_placedRow a_v_tape a_v_by a_v_told a_v_bestRow a_v_ways a_v_lanes a_v_sizes a_v_cells a_v_before v_hasOrder v_hasStart v_placed v_placedMany v_highest v_taped v_pos v_begun v_sort v_value v_fault v_wrongAt v_rightSum v_wrongSum v_allWays v_torn o6 2 o9 hc10) (cwV 2 hts gX10_readLine_X10_needs rfl rfl rfl (by decide +kernel) ⟨Nat.le_of_ble_eq_true rfl, Nat.le_of_ble_eq_true rfl⟩) rfl rfl rfl hE hP hDD rfl hS [0] rfl rfl rfl rfl hl.1 (Nat.le_of_ble_eq_true rfl) ⟨Nat.zero_le _, Nat.zero_le _⟩ rfl dX10_readLine_31 rfl (fun H locs hP hS => ?_)
      refine lv_aload_n hx hb dX10_readLine_34 rfl (lv_at hl 0 rfl) ?_
      refine lv_iload_n hx hb dX10_readLine_35 rfl (lv_at hl 1 rfl) ?_
      refine wi_ic hx hb dX10_readLine_36 ?_
      obtain ⟨o11, hx12, h⟩ := bnd_some h
      have J13 : ∀ (H : Heap) (locs : List Loc) (ls : Array Slot), va_P D vwCl (wd_X10_readLine cy a_v a_v_draft a_v_placedRow a_v_tape a_v_st a_v_now a_v_isKept a_v_by a_v_told a_v_bestRow a_v_ways a_v_lanes a_v_sizes a_v_cells a_v_before v_hasOrder v_hasStart v_placed v_placedMany v_highest v_taped v_pos v_begun v_sort v_value o9.1 o9.2 v_rightSum v_wrongSum v_allWays v_torn v_draft v_placedRow v_tape) H → va_S A s.heap H locs → lv_has ls 2 [(0, .ref a_v), (1, .int (zI o2))] → W p l e { frames := 4, cells := 0, slots := 0, locals := 91 } s m args below meth c H locs 0 0 QQ (F0 m 56 ls [.int (zI o11), .ref a_v]) := by
        intro H locs ls hP hS hl
        refine wi_ic hx hb dX10_readLine_56 ?_
        obtain ⟨o14, hc15, h⟩ := bnd_some h
        refine cV_v (rest := []) (w2 := (wd_X10_readLine cy a_v a_v_draft a_v_placedRow a_v_tape a_v_st a_v_now a_v_isKept a_v_by a_v_told a_v_bestRow a_v_ways a_v_lanes a_v_sizes a_v_cells a_v_before v_hasOrder v_hasStart v_placed v_placedMany v_highest v_taped v_pos v_begun v_sort v_value o14.1 o14.2 v_rightSum v_wrongSum v_allWays v_torn v_draft v_placedRow v_tape)) ⟨hx, hb, hml, hown, hts⟩ (c_X10_needs l D cy sa a_v a_v_st a_v_now a_v_isKept a_v_draft a_v_placedRow a_v_tape a_v_by a_v_told a_v_bestRow a_v_ways a_v_lanes a_v_sizes a_v_cells a_v_before v_hasOrder v_hasStart v_placed v_placedMany v_highest v_taped v_pos v_begun v_sort v_value o9.1 o9.2 v_rightSum v_wrongSum v_allWays v_torn o11 5 o14 hc15) (cwV 2 hts gX10_readLine_X10_needs rfl rfl rfl (by decide +kernel) ⟨Nat.le_of_ble_eq_true rfl, Nat.le_of_ble_eq_true rfl⟩) rfl rfl rfl hE hP hDD rfl hS [0] rfl rfl rfl rfl hl.1 (Nat.le_of_ble_eq_true rfl) ⟨Nat.zero_le _, Nat.zero_le _⟩ rfl dX10_readLine_57 rfl (fun H locs hP hS => ?_)
        refine lv_aload_n hx hb dX10_readLine_60 rfl (lv_at hl 0 rfl) ?_
        refine lv_iload_n hx hb dX10_readLine_61 rfl (lv_at hl 1 rfl) ?_
        refine wi_ic hx hb dX10_readLine_62 ?_
        obtain ⟨o16, hx17, h⟩ := bnd_some h
        have J18 : ∀ (H : Heap) (locs : List Loc) (ls : Array Slot), va_P D vwCl (wd_X10_readLine cy a_v a_v_draft a_v_placedRow a_v_tape a_v_st a_v_now a_v_isKept a_v_by a_v_told a_v_bestRow a_v_ways a_v_lanes a_v_sizes a_v_cells a_v_before v_hasOrder v_hasStart v_placed v_placedMany v_highest v_taped v_pos v_begun v_sort v_value o14.1 o14.2 v_rightSum v_wrongSum v_allWays v_torn v_draft v_placedRow v_tape) H → va_S A s.heap H locs → lv_has ls 2 [(0, .ref a_v), (1, .int (zI o2))] → W p l e { frames := 4, cells := 0, slots := 0, locals := 91 } s m args below meth c H locs 0 0 QQ (F0 m 78 ls [.int (zI o16), .ref a_v]) := by
          intro H locs ls hP hS hl
          refine wi_ic hx hb dX10_readLine_78 ?_
          obtain ⟨o19, hc20, h⟩ := bnd_some h
          refine cV_v (rest := []) (w2 := (wd_X10_readLine cy a_v a_v_draft a_v_placedRow a_v_tape a_v_st a_v_now a_v_isKept a_v_by a_v_told a_v_bestRow a_v_ways a_v_lanes a_v_sizes a_v_cells a_v_before v_hasOrder v_hasStart v_placed v_placedMany v_highest v_taped v_pos v_begun v_sort v_value o19.1 o19.2 v_rightSum v_wrongSum v_allWays v_torn v_draft v_placedRow v_tape)) ⟨hx, hb, hml, hown, hts⟩ (c_X10_needs l D cy sa a_v a_v_st a_v_now a_v_isKept a_v_draft a_v_placedRow a_v_tape a_v_by a_v_told a_v_bestRow a_v_ways a_v_lanes a_v_sizes a_v_cells a_v_before v_hasOrder v_hasStart v_placed v_placedMany v_highest v_taped v_pos v_begun v_sort v_value o14.1 o14.2 v_rightSum v_wrongSum v_allWays v_torn o16 4 o19 hc20) (cwV 2 hts gX10_readLine_X10_needs rfl rfl rfl (by decide +kernel) ⟨Nat.le_of_ble_eq_true rfl, Nat.le_of_ble_eq_true rfl⟩) rfl rfl rfl hE hP hDD rfl hS [0] rfl rfl rfl rfl hl.1 (Nat.le_of_ble_eq_true rfl) ⟨Nat.zero_le _, Nat.zero_le _⟩ rfl dX10_readLine_79 rfl (fun H locs hP hS => ?_)
          refine lv_aload_n hx hb dX10_readLine_82 rfl (lv_at hl 0 rfl) ?_
          refine lv_iload_n hx hb dX10_readLine_83 rfl (lv_at hl 1 rfl) ?_
          refine wi_ic hx hb dX10_readLine_84 ?_
          obtain ⟨o21, hx22, h⟩ := bnd_some h
          have J23 : ∀ (H : Heap) (locs : List Loc) (ls : Array Slot), va_P D vwCl (wd_X10_readLine cy a_v a_v_draft a_v_placedRow a_v_tape a_v_st a_v_now a_v_isKept a_v_by a_v_told a_v_bestRow a_v_ways a_v_lanes a_v_sizes a_v_cells a_v_before v_hasOrder v_hasStart v_placed v_placedMany v_highest v_taped v_pos v_begun v_sort v_value o19.1 o19.2 v_rightSum v_wrongSum v_allWays v_torn v_draft v_placedRow v_tape) H → va_S A s.heap H locs → lv_has ls 2 [(0, .ref a_v), (1, .int (zI o2))] → W p l e { frames := 4, cells := 0, slots := 0, locals := 91 } s m args below meth c H locs 0 0 QQ (F0 m 100 ls [.int (zI o21), .ref a_v]) := by
            intro H locs ls hP hS hl
            refine wi_ic hx hb dX10_readLine_100 ?_
            obtain ⟨o24, hc25, h⟩ := bnd_some h
            refine cV_v (rest := []) (w2 := (wd_X10_readLine cy a_v a_v_draft a_v_placedRow a_v_tape a_v_st a_v_now a_v_isKept a_v_by a_v_told a_v_bestRow a_v_ways a_v_lanes a_v_sizes a_v_cells a_v_before v_hasOrder v_hasStart v_placed v_placedMany v_highest v_taped v_pos v_begun v_sort v_value o24.1 o24.2 v_rightSum v_wrongSum v_allWays v_torn v_draft v_placedRow v_tape)) ⟨hx, hb, hml, hown, hts⟩ (c_X10_needs l D cy sa a_v a_v_st a_v_now a_v_isKept a_v_draft a_v_placedRow a_v_tape a_v_by a_v_told a_v_bestRow a_v_ways a_v_lanes a_v_sizes a_v_cells a_v_before v_hasOrder v_hasStart v_placed v_placedMany v_highest v_taped v_pos v_begun v_sort v_value o19.1 o19.2 v_rightSum v_wrongSum v_allWays v_torn o21 4 o24 hc25) (cwV 2 hts gX10_readLine_X10_needs rfl rfl rfl (by decide +kernel) ⟨Nat.le_of_ble_eq_true rfl, Nat.le_of_ble_eq_true rfl⟩) rfl rfl rfl hE hP hDD rfl hS [0] rfl rfl rfl rfl hl.1 (Nat.le_of_ble_eq_true rfl) ⟨Nat.zero_le _, Nat.zero_le _⟩ rfl dX10_readLine_101 rfl (fun H locs hP hS => ?_)
            refine lv_aload_n hx hb dX10_readLine_104 rfl (lv_at hl 0 rfl) ?_
            refine lv_aload_n hx hb dX10_readLine_105 rfl (lv_at hl 0 rfl) ?_
            refine wi_get (v := .int (zI v_hasOrder)) hx hb hts iX10 hown hE hP 0 rfl rfl 4 (by decide) q1 rfl dX10_readLine_106 ?_
            obtain ⟨hr26, h⟩ := chk_some h
            obtain ⟨o27, hx28, h⟩ := bnd_some h
            have J29 : ∀ (H : Heap) (locs : List Loc) (ls : Array Slot), va_P D vwCl (wd_X10_readLine cy a_v a_v_draft a_v_placedRow a_v_tape a_v_st a_v_now a_v_isKept a_v_by a_v_told a_v_bestRow a_v_ways a_v_lanes a_v_sizes a_v_cells a_v_before v_hasOrder v_hasStart v_placed v_placedMany v_highest v_taped v_pos v_begun v_sort v_value o24.1 o24.2 v_rightSum v_wrongSum v_allWays v_torn v_draft v_placedRow v_tape) H → va_S A s.heap H locs → lv_has ls 2 [(0, .ref a_v), (1, .int (zI o2))] → W p l e { frames := 4, cells := 0, slots := 0, locals := 91 } s m args below meth c H locs 0 0 QQ (F0 m 122 ls [.int (zI o27), .ref a_v]) := by
              intro H locs ls hP hS hl
              obtain ⟨hk30, h⟩ := chk_some h
              refine wi_put (ty := .boolean) (v := .int (zI o27)) (w2 := (wd_X10_readLine cy a_v a_v_draft a_v_placedRow a_v_tape a_v_st a_v_now a_v_isKept a_v_by a_v_told a_v_bestRow a_v_ways a_v_lanes a_v_sizes a_v_cells a_v_before o27 v_hasStart v_placed v_placedMany v_highest v_taped v_pos v_begun v_sort v_value o24.1 o24.2 v_rightSum v_wrongSum v_allWays v_torn v_draft v_placedRow v_tape)) hx hb hts iX10 tyX10 tyX10_ok nmX10 hown hE hP hDD rfl hS 0 rfl rfl 4 (by decide) q1 rfl (by decide +kernel) (z01 hk30) (z01f hk30) (Nat.le_of_ble_eq_true rfl) dX10_readLine_122 rfl (fun H locs hP hS => ?_)
              refine lv_aload_n hx hb dX10_readLine_125 rfl (lv_at hl 0 rfl) ?_
              refine lv_aload_n hx hb dX10_readLine_126 rfl (lv_at hl 0 rfl) ?_
              refine wi_get (v := .int (zI v_hasStart)) hx hb hts iX10 hown hE hP 0 rfl rfl 5 (by decide) q2 rfl dX10_readLine_127 ?_
              obtain ⟨hr31, h⟩ := chk_some h
              obtain ⟨o32, hx33, h⟩ := bnd_some h
              have J34 : ∀ (H : Heap) (locs : List Loc) (ls : Array Slot), va_P D vwCl (wd_X10_readLine cy a_v a_v_draft a_v_placedRow a_v_tape a_v_st a_v_now a_v_isKept a_v_by a_v_told a_v_bestRow a_v_ways a_v_lanes a_v_sizes a_v_cells a_v_before o27 v_hasStart v_placed v_placedMany v_highest v_taped v_pos v_begun v_sort v_value o24.1 o24.2 v_rightSum v_wrongSum v_allWays v_torn v_draft v_placedRow v_tape) H → va_S A s.heap H locs → lv_has ls 2 [(0, .ref a_v), (1, .int (zI o2))] → W p l e { frames := 4, cells := 0, slots := 0, locals := 91 } s m args below meth c H locs 0 0 QQ (F0 m 143 ls [.int (zI o32), .ref a_v]) := by
                intro H locs ls hP hS hl
                obtain ⟨hk35, h⟩ := chk_some h
                refine wi_put (ty := .boolean) (v := .int (zI o32)) (w2 := (wd_X10_readLine cy a_v a_v_draft a_v_placedRow a_v_tape a_v_st a_v_now a_v_isKept a_v_by a_v_told a_v_bestRow a_v_ways a_v_lanes a_v_sizes a_v_cells a_v_before o27 o32 v_placed v_placedMany v_highest v_taped v_pos v_begun v_sort v_value o24.1 o24.2 v_rightSum v_wrongSum v_allWays v_torn v_draft v_placedRow v_tape)) hx hb hts iX10 tyX10 tyX10_ok nmX10 hown hE hP hDD rfl hS 0 rfl rfl 5 (by decide) q2 rfl (by decide +kernel) (z01 hk35) (z01f hk35) (Nat.le_of_ble_eq_true rfl) dX10_readLine_143 rfl (fun H locs hP hS => ?_)
                refine lv_aload_n hx hb dX10_readLine_146 rfl (lv_at hl 0 rfl) ?_
                obtain ⟨o36, hc37, h⟩ := bnd_some h
                refine cV_v (rest := []) (w2 := (wd_X10_readLine cy a_v a_v_draft a_v_placedRow a_v_tape a_v_st a_v_now a_v_isKept a_v_by a_v_told a_v_bestRow a_v_ways a_v_lanes a_v_sizes a_v_cells a_v_before o27 o32 v_placed v_placedMany v_highest v_taped o36.1 o36.2.1 o36.2.2.1 o36.2.2.2.1 o36.2.2.2.2.1 o36.2.2.2.2.2 v_rightSum v_wrongSum v_allWays v_torn v_draft v_placedRow v_tape)) ⟨hx, hb, hml, hown, hts⟩ (c_X10_takes l D cy sa a_v a_v_tape a_v_st a_v_now a_v_isKept a_v_draft a_v_placedRow a_v_by a_v_told a_v_bestRow a_v_ways a_v_lanes a_v_sizes a_v_cells a_v_before o27 o32 v_placed v_placedMany v_highest v_taped v_pos v_begun v_sort v_value o24.1 o24.2 v_rightSum v_wrongSum v_allWays v_torn v_tape o36 hc37) (cwV 0 hts gX10_readLine_X10_takes rfl rfl rfl (by decide +kernel) ⟨Nat.le_of_ble_eq_true rfl, Nat.le_of_ble_eq_true rfl⟩) rfl rfl rfl hE hP hDD rfl hS [0, 3] rfl rfl rfl rfl hl.1 (Nat.le_of_ble_eq_true rfl) ⟨Nat.zero_le _, Nat.zero_le _⟩ rfl dX10_readLine_147 rfl (fun H locs hP hS => ?_)
                refine lv_aload_n hx hb dX10_readLine_150 rfl (lv_at hl 0 rfl) ?_
                refine wi_get (v := .int (zI o36.2.2.2.2.1)) hx hb hts iX10 hown hE hP 0 rfl rfl 16 (by decide) q3 rfl dX10_readLine_151 ?_
                obtain ⟨hr38, h⟩ := chk_some h
                refine wi_if_le (tgt := 158) hx hb dX10_readLine_154 (by decide) hr38 (fun c40 => ?_) (fun c40 => ?_)
                · have h := ite_t c40 h
                  refine lv_aload_n hx hb dX10_readLine_158 rfl (lv_at hl 0 rfl) ?_
                  refine lv_iload_n hx hb dX10_readLine_159 rfl (lv_at hl 1 rfl) ?_
                  obtain ⟨o41, hc42, h⟩ := bnd_some h
                  refine cV_v (rest := []) (w2 := (wd_X10_readLine cy a_v a_v_draft a_v_placedRow a_v_tape a_v_st a_v_now a_v_isKept a_v_by a_v_told a_v_bestRow a_v_ways a_v_lanes a_v_sizes a_v_cells a_v_before o27 o32 o41.1 o41.2.1 o41.2.2.1 v_taped o41.2.2.2.1 o41.2.2.2.2.1 o41.2.2.2.2.2.1 o41.2.2.2.2.2.2.1 o41.2.2.2.2.2.2.2.1 o41.2.2.2.2.2.2.2.2.1 v_rightSum v_wrongSum v_allWays v_torn o41.2.2.2.2.2.2.2.2.2.1 o41.2.2.2.2.2.2.2.2.2.2 v_tape)) ⟨hx, hb, hml, hown, hts⟩ (c_X10_readLineOf l D cy sa a_v a_v_draft a_v_placedRow a_v_tape a_v_st a_v_now a_v_isKept a_v_by a_v_told a_v_bestRow a_v_ways a_v_lanes a_v_sizes a_v_cells a_v_before o27 o32 v_placed v_placedMany v_highest v_taped o36.1 o36.2.1 o36.2.2.1 o36.2.2.2.1 o36.2.2.2.2.1 o36.2.2.2.2.2 v_rightSum v_wrongSum v_allWays v_torn v_draft v_placedRow v_tape o2 o41 hc42) (cwV 1 hts gX10_readLine_X10_readLineOf rfl rfl rfl (by decide +kernel) ⟨Nat.le_of_ble_eq_true rfl, Nat.le_of_ble_eq_true rfl⟩) rfl rfl rfl hE hP hDD rfl hS [0, 1, 2, 3] rfl rfl rfl rfl hl.1 (Nat.le_of_ble_eq_true rfl) ⟨Nat.zero_le _, Nat.zero_le _⟩ rfl dX10_readLine_160 rfl (fun H locs hP hS => ?_)
                  refine lv_aload_n hx hb dX10_readLine_163 rfl (lv_at hl 0 rfl) ?_
                  refine wi_get (v := .int (zI o41.2.2.2.2.2.2.2.1)) hx hb hts iX10 hown hE hP 0 rfl rfl 16 (by decide) q3 rfl dX10_readLine_164 ?_
                  obtain ⟨hr43, h⟩ := chk_some h
                  obtain ⟨o44, hx45, h⟩ := bnd_some h
                  have J46 : ∀ (H : Heap) (locs : List Loc) (ls : Array Slot), va_P D vwCl (wd_X10_readLine cy a_v a_v_draft a_v_placedRow a_v_tape a_v_st a_v_now a_v_isKept a_v_by a_v_told a_v_bestRow a_v_ways a_v_lanes a_v_sizes a_v_cells a_v_before o27 o32 o41.1 o41.2.1 o41.2.2.1 v_taped o41.2.2.2.1 o41.2.2.2.2.1 o41.2.2.2.2.2.1 o41.2.2.2.2.2.2.1 o44.1 o44.2 v_rightSum v_wrongSum v_allWays v_torn o41.2.2.2.2.2.2.2.2.2.1 o41.2.2.2.2.2.2.2.2.2.2 v_tape) H → va_S A s.heap H locs → lv_has ls 2 [(0, .ref a_v)] → W p l e { frames := 4, cells := 0, slots := 0, locals := 91 } s m args below meth c H locs 0 0 QQ (F0 m 188 ls []) := by
                    intro H locs ls hP hS hl
                    refine lv_aload_n hx hb dX10_readLine_188 rfl (lv_at hl 0 rfl) ?_
                    obtain ⟨o47, hc48, h⟩ := bnd_some h
                    refine cV_v (rest := []) (w2 := (wd_X10_readLine cy a_v a_v_draft a_v_placedRow a_v_tape a_v_st a_v_now a_v_isKept a_v_by a_v_told a_v_bestRow a_v_ways a_v_lanes a_v_sizes a_v_cells a_v_before o27 o32 o41.1 o41.2.1 o41.2.2.1 v_taped o47.1 o47.2.1 o47.2.2.1 o47.2.2.2.1 o47.2.2.2.2.1 o47.2.2.2.2.2 v_rightSum v_wrongSum v_allWays v_torn o41.2.2.2.2.2.2.2.2.2.1 o41.2.2.2.2.2.2.2.2.2.2 v_tape)) ⟨hx, hb, hml, hown, hts⟩ (c_X10_takes l D cy sa a_v a_v_tape a_v_st a_v_now a_v_isKept a_v_draft a_v_placedRow a_v_by a_v_told a_v_bestRow a_v_ways a_v_lanes a_v_sizes a_v_cells a_v_before o27 o32 o41.1 o41.2.1 o41.2.2.1 v_taped o41.2.2.2.1 o41.2.2.2.2.1 o41.2.2.2.2.2.1 o41.2.2.2.2.2.2.1 o44.1 o44.2 v_rightSum v_wrongSum v_allWays v_torn v_tape o47 hc48) (cwV 0 hts gX10_readLine_X10_takes rfl rfl rfl (by decide +kernel) ⟨Nat.le_of_ble_eq_true rfl, Nat.le_of_ble_eq_true rfl⟩) rfl rfl rfl hE hP hDD rfl hS [0, 3] rfl rfl rfl rfl hl.1 (Nat.le_of_ble_eq_true rfl) ⟨Nat.zero_le _, Nat.zero_le _⟩ rfl dX10_readLine_189 rfl (fun H locs hP hS => ?_)
                    obtain rfl := Option.some.inj h
                    exact KR _ _ _ _ hP hS dX10_readLine_192
                  clear h
                  have h := hx45
                  clear hx45
                  refine wi_if_ne (tgt := 188) hx hb dX10_readLine_167 (by decide) hr43 (fun c49 => ?_) (fun c49 => ?_)
                  · have h := ite_f c49 h
                    obtain rfl := Option.some.inj h
                    exact J46 _ _ _ hP hS (lv_sub hl [0] rfl)
                  · have h := ite_t c49 h
                    refine lv_aload_n hx hb dX10_readLine_170 rfl (lv_at hl 0 rfl) ?_
                    refine lv_aload_n hx hb dX10_readLine_171 rfl (lv_at hl 0 rfl) ?_
                    refine wi_get (v := .int (zI o41.2.2.2.2.2.1)) hx hb hts iX10 hown hE hP 0 rfl rfl 14 (by decide) q0 rfl dX10_readLine_172 ?_
                    refine wi_ic hx hb dX10_readLine_175 ?_
                    obtain ⟨hr50, h⟩ := chk_some h
                    obtain ⟨o51, hx52, h⟩ := bnd_some h
                    have J53 : ∀ (H : Heap) (locs : List Loc) (ls : Array Slot), va_P D vwCl (wd_X10_readLine cy a_v a_v_draft a_v_placedRow a_v_tape a_v_st a_v_now a_v_isKept a_v_by a_v_told a_v_bestRow a_v_ways a_v_lanes a_v_sizes a_v_cells a_v_before o27 o32 o41.1 o41.2.1 o41.2.2.1 v_taped o41.2.2.2.1 o41.2.2.2.2.1 o41.2.2.2.2.2.1 o41.2.2.2.2.2.2.1 o41.2.2.2.2.2.2.2.1 o41.2.2.2.2.2.2.2.2.1 v_rightSum v_wrongSum v_allWays v_torn o41.2.2.2.2.2.2.2.2.2.1 o41.2.2.2.2.2.2.2.2.2.2 v_tape) H → va_S A s.heap H locs → lv_has ls 2 [(0, .ref a_v)] → W p l e { frames := 4, cells := 0, slots := 0, locals := 91 } s m args below meth c H locs 0 0 QQ (F0 m 184 ls [.int (zI o51), .ref a_v]) := by
                      intro H locs ls hP hS hl
                      refine wi_ic hx hb dX10_readLine_184 ?_
                      obtain ⟨o54, hc55, h⟩ := bnd_some h
                      refine cV_v (rest := []) (w2 := (wd_X10_readLine cy a_v a_v_draft a_v_placedRow a_v_tape a_v_st a_v_now a_v_isKept a_v_by a_v_told a_v_bestRow a_v_ways a_v_lanes a_v_sizes a_v_cells a_v_before o27 o32 o41.1 o41.2.1 o41.2.2.1 v_taped o41.2.2.2.1 o41.2.2.2.2.1 o41.2.2.2.2.2.1 o41.2.2.2.2.2.2.1 o54.1 o54.2 v_rightSum v_wrongSum v_allWays v_torn o41.2.2.2.2.2.2.2.2.2.1 o41.2.2.2.2.2.2.2.2.2.2 v_tape)) ⟨hx, hb, hml, hown, hts⟩ (c_X10_needs l D cy sa a_v a_v_st a_v_now a_v_isKept a_v_draft a_v_placedRow a_v_tape a_v_by a_v_told a_v_bestRow a_v_ways a_v_lanes a_v_sizes a_v_cells a_v_before o27 o32 o41.1 o41.2.1 o41.2.2.1 v_taped o41.2.2.2.1 o41.2.2.2.2.1 o41.2.2.2.2.2.1 o41.2.2.2.2.2.2.1 o41.2.2.2.2.2.2.2.1 o41.2.2.2.2.2.2.2.2.1 v_rightSum v_wrongSum v_allWays v_torn o51 2 o54 hc55) (cwV 2 hts gX10_readLine_X10_needs rfl rfl rfl (by decide +kernel) ⟨Nat.le_of_ble_eq_true rfl, Nat.le_of_ble_eq_true rfl⟩) rfl rfl rfl hE hP hDD rfl hS [0] rfl rfl rfl rfl hl.1 (Nat.le_of_ble_eq_true rfl) ⟨Nat.zero_le _, Nat.zero_le _⟩ rfl dX10_readLine_185 rfl (fun H locs hP hS => ?_)
                      obtain rfl := Option.some.inj h
                      exact J46 _ _ _ hP hS (lv_sub hl [0] rfl)
                    clear h
                    have h := hx52
                    clear hx52
                    refine wi_ic_ne (tgt := 183) hx hb dX10_readLine_176 (by decide) hr50 (by decide) (fun c56 => ?_) (fun c56 => ?_)
                    · have h := ite_f c56 h
                      refine wi_ic hx hb dX10_readLine_183 ?_
                      obtain rfl := Option.some.inj h
                      exact J53 _ _ _ hP hS (lv_sub hl [0] rfl)
                    · have h := ite_t c56 h
                      refine wi_ic hx hb dX10_readLine_179 ?_
                      refine lv_goto (tgt := 184) hx hb dX10_readLine_180 (by decide) ?_
                      obtain rfl := Option.some.inj h
                      exact J53 _ _ _ hP hS (lv_sub hl [0] rfl)
                · have h := ite_f c40 h
                  obtain rfl := Option.some.inj h
                  exact KR _ _ _ _ hP hS dX10_readLine_157
              clear h
              have h := hx33
              clear hx33
              refine wi_if_ne (tgt := 138) hx hb dX10_readLine_130 (by decide) hr31 (fun c57 => ?_) (fun c57 => ?_)
              · have h := ite_f c57 h
                refine wi_ic hx hb dX10_readLine_138 ?_
                refine lv_goto (tgt := 143) hx hb dX10_readLine_139 (by decide) ?_
                obtain rfl := Option.some.inj h
                exact J34 _ _ _ hP hS (lv_sub hl [0, 1] rfl)
              · have h := ite_t c57 h
                refine lv_iload_n hx hb dX10_readLine_133 rfl (lv_at hl 1 rfl) ?_
                refine wi_ic hx hb dX10_readLine_134 ?_
                refine wi_ic_ne (tgt := 142) hx hb dX10_readLine_135 (by decide) hr5 (by decide) (fun c59 => ?_) (fun c59 => ?_)
                · have h := ite_f c59 h
                  refine wi_ic hx hb dX10_readLine_142 ?_
                  obtain rfl := Option.some.inj h
                  exact J34 _ _ _ hP hS (lv_sub hl [0, 1] rfl)
                · have h := ite_t c59 h
                  refine wi_ic hx hb dX10_readLine_138 ?_
                  refine lv_goto (tgt := 143) hx hb dX10_readLine_139 (by decide) ?_
                  obtain rfl := Option.some.inj h
                  exact J34 _ _ _ hP hS (lv_sub hl [0, 1] rfl)
            clear h
            have h := hx28
            clear hx28
            refine wi_if_ne (tgt := 117) hx hb dX10_readLine_109 (by decide) hr26 (fun c60 => ?_) (fun c60 => ?_)
            · have h := ite_f c60 h
              refine wi_ic hx hb dX10_readLine_117 ?_
              refine lv_goto (tgt := 122) hx hb dX10_readLine_118 (by decide) ?_
              obtain rfl := Option.some.inj h
              exact J29 _ _ _ hP hS (lv_sub hl [0, 1] rfl)
            · have h := ite_t c60 h
              refine lv_iload_n hx hb dX10_readLine_112 rfl (lv_at hl 1 rfl) ?_
              refine wi_ic hx hb dX10_readLine_113 ?_
              refine wi_ic_ne (tgt := 121) hx hb dX10_readLine_114 (by decide) hr5 (by decide) (fun c62 => ?_) (fun c62 => ?_)
              · have h := ite_f c62 h
                refine wi_ic hx hb dX10_readLine_121 ?_
                obtain rfl := Option.some.inj h
                exact J29 _ _ _ hP hS (lv_sub hl [0, 1] rfl)
              · have h := ite_t c62 h
                refine wi_ic hx hb dX10_readLine_117 ?_
                refine lv_goto (tgt := 122) hx hb dX10_readLine_118 (by decide) ?_
                obtain rfl := Option.some.inj h
                exact J29 _ _ _ hP hS (lv_sub hl [0, 1] rfl)
          clear h
          have h := hx22
          clear hx22
          refine wi_ic_ne (tgt := 95) hx hb dX10_readLine_85 (by decide) hr5 (by decide) (fun c63 => ?_) (fun c63 => ?_)
          · have h := ite_f c63 h
            refine wi_ic hx hb dX10_readLine_95 ?_
            refine lv_goto (tgt := 100) hx hb dX10_readLine_96 (by decide) ?_
            obtain rfl := Option.some.inj h
            exact J23 _ _ _ hP hS (lv_sub hl [0, 1] rfl)
          · have h := ite_t c63 h
            refine lv_aload_n hx hb dX10_readLine_88 rfl (lv_at hl 0 rfl) ?_
            refine wi_get (v := .int (zI v_hasStart)) hx hb hts iX10 hown hE hP 0 rfl rfl 5 (by decide) q2 rfl dX10_readLine_89 ?_
            obtain ⟨hr64, h⟩ := chk_some h
            refine wi_if_ne (tgt := 99) hx hb dX10_readLine_92 (by decide) hr64 (fun c66 => ?_) (fun c66 => ?_)
            · have h := ite_f c66 h
              refine wi_ic hx hb dX10_readLine_99 ?_
              obtain rfl := Option.some.inj h
              exact J23 _ _ _ hP hS (lv_sub hl [0, 1] rfl)
            · have h := ite_t c66 h
              refine wi_ic hx hb dX10_readLine_95 ?_
              refine lv_goto (tgt := 100) hx hb dX10_readLine_96 (by decide) ?_
              obtain rfl := Option.some.inj h
              exact J23 _ _ _ hP hS (lv_sub hl [0, 1] rfl)
        clear h
        have h := hx17
        clear hx17
        refine wi_ic_ne (tgt := 73) hx hb dX10_readLine_63 (by decide) hr5 (by decide) (fun c67 => ?_) (fun c67 => ?_)
        · have h := ite_f c67 h
          refine wi_ic hx hb dX10_readLine_73 ?_
          refine lv_goto (tgt := 78) hx hb dX10_readLine_74 (by decide) ?_
          obtain rfl := Option.some.inj h
          exact J18 _ _ _ hP hS (lv_sub hl [0, 1] rfl)
        · have h := ite_t c67 h
          refine lv_aload_n hx hb dX10_readLine_66 rfl (lv_at hl 0 rfl) ?_
          refine wi_get (v := .int (zI v_hasOrder)) hx hb hts iX10 hown hE hP 0 rfl rfl 4 (by decide) q1 rfl dX10_readLine_67 ?_
          obtain ⟨hr68, h⟩ := chk_some h
          refine wi_if_ne (tgt := 77) hx hb dX10_readLine_70 (by decide) hr68 (fun c70 => ?_) (fun c70 => ?_)
          · have h := ite_f c70 h
            refine wi_ic hx hb dX10_readLine_77 ?_
            obtain rfl := Option.some.inj h
            exact J18 _ _ _ hP hS (lv_sub hl [0, 1] rfl)
          · have h := ite_t c70 h
            refine wi_ic hx hb dX10_readLine_73 ?_
            refine lv_goto (tgt := 78) hx hb dX10_readLine_74 (by decide) ?_
            obtain rfl := Option.some.inj h
            exact J18 _ _ _ hP hS (lv_sub hl [0, 1] rfl)
      clear h
      have h := hx12
      clear hx12
      refine wi_ic_ge (tgt := 51) hx hb dX10_readLine_37 (by decide) hr5 (by decide) (fun c71 => ?_) (fun c71 => ?_)
      · have h := ite_t c71 h
        refine wi_ic hx hb dX10_readLine_51 ?_
        refine lv_goto (tgt := 56) hx hb dX10_readLine_52 (by decide) ?_
        obtain rfl := Option.some.inj h
        exact J13 _ _ _ hP hS (lv_sub hl [0, 1] rfl)
      · have h := ite_f c71 h
        refine lv_aload_n hx hb dX10_readLine_40 rfl (lv_at hl 0 rfl) ?_
        refine wi_get (v := .ref a_v_draft) hx hb hts iX10 hown hE hP 0 rfl rfl 3 (by decide) q4 rfl dX10_readLine_41 ?_
        refine wi_bi hx hb dX10_readLine_44 (by decide) ?_
        refine wi_iald hx hb hE hP 1 rfl (by decide) (by decide) dX10_readLine_46 ?_
        refine wi_ic hx hb dX10_readLine_47 ?_
        obtain ⟨hr72, h⟩ := chk_some h
        refine wi_ic_ge (tgt := 55) hx hb dX10_readLine_48 (by decide) hr72 (by decide) (fun c74 => ?_) (fun c74 => ?_)
        · have h := ite_t c74 h
          refine wi_ic hx hb dX10_readLine_55 ?_
          obtain rfl := Option.some.inj h
          exact J13 _ _ _ hP hS (lv_sub hl [0, 1] rfl)
        · have h := ite_f c74 h
          refine wi_ic hx hb dX10_readLine_51 ?_
          refine lv_goto (tgt := 56) hx hb dX10_readLine_52 (by decide) ?_
          obtain rfl := Option.some.inj h
          exact J13 _ _ _ hP hS (lv_sub hl [0, 1] rfl)
    clear h
    have h := hx7
    clear hx7
    refine wi_ic_eq (tgt := 29) hx hb dX10_readLine_22 (by decide) hr5 (by decide) (fun c75 => ?_) (fun c75 => ?_)
    · have h := ite_t c75 h
      refine wi_ic hx hb dX10_readLine_29 ?_
      obtain rfl := Option.some.inj h
      exact J8 _ _ _ hP hS (lv_sub hl [1, 0] rfl)
    · have h := ite_f c75 h
      refine wi_ic hx hb dX10_readLine_25 ?_
      refine lv_goto (tgt := 30) hx hb dX10_readLine_26 (by decide) ?_
      obtain rfl := Option.some.inj h
      exact J8 _ _ _ hP hS (lv_sub hl [1, 0] rfl)
  clear h
  have h := hx3
  clear hx3
  refine wi_ic_ne (tgt := 15) hx hb dX10_readLine_5 (by decide) hr1 (by decide) (fun c76 => ?_) (fun c76 => ?_)
  · have h := ite_f c76 h
    refine wi_bi hx hb dX10_readLine_15 (by decide) ?_
    obtain rfl := Option.some.inj h
    exact J4 _ _ _ hP hS (lv_sub hl [0] rfl)
  · have h := ite_t c76 h
    refine lv_aload_n hx hb dX10_readLine_8 rfl (lv_at hl 0 rfl) ?_
    obtain ⟨o77, hc78, h⟩ := bnd_some h
    refine cV_i (rest := []) (w2 := (wd_X10_readLine cy a_v a_v_draft a_v_placedRow a_v_tape a_v_st a_v_now a_v_isKept a_v_by a_v_told a_v_bestRow a_v_ways a_v_lanes a_v_sizes a_v_cells a_v_before v_hasOrder v_hasStart v_placed v_placedMany v_highest v_taped v_pos v_begun v_sort v_value v_fault v_wrongAt v_rightSum v_wrongSum v_allWays v_torn v_draft v_placedRow v_tape)) ⟨hx, hb, hml, hown, hts⟩ (c_X10_lineNow l D cy sa a_v a_v_tape a_v_st a_v_now a_v_isKept a_v_draft a_v_placedRow a_v_by a_v_told a_v_bestRow a_v_ways a_v_lanes a_v_sizes a_v_cells a_v_before v_hasOrder v_hasStart v_placed v_placedMany v_highest v_taped v_pos v_begun v_sort v_value v_fault v_wrongAt v_rightSum v_wrongSum v_allWays v_torn v_tape o77 hc78) (cwV 0 hts gX10_readLine_X10_lineNow rfl rfl rfl (by decide +kernel) ⟨Nat.le_of_ble_eq_true rfl, Nat.le_of_ble_eq_true rfl⟩) rfl rfl rfl hE hP hDD rfl hS [0, 3] rfl rfl rfl rfl hl.1 (Nat.le_of_ble_eq_true rfl) ⟨Nat.zero_le _, Nat.zero_le _⟩ rfl dX10_readLine_9 rfl (fun H locs hP hS => ?_)
    refine lv_goto (tgt := 17) hx hb dX10_readLine_12 (by decide) ?_
    obtain rfl := Option.some.inj h
    exact J4 _ _ _ hP hS (lv_sub hl [0] rfl)
abbrev wd_X10_text (cy : Nat → ClassId) (a_v : Nat) (a_v_draft : Nat) (a_v_isKept : Nat) (a_v_placedRow : Nat) (a_v_st : Nat) (a_v_tape : Nat) (a_v_now : Nat) (a_v_by : Nat) (a_v_told : Nat) (a_v_bestRow : Nat) (a_v_ways : Nat) (a_v_lanes : Nat) (a_v_sizes : Nat) (a_v_cells : Nat) (a_v_before : Nat) (v_hasOrder : Int) (v_hasStart : Int) (v_placed : Int) (v_placedMany : Int) (v_highest : Int) (v_taped : Int) (v_pos : Int) (v_begun : Int) (v_sort : Int) (v_value : Int) (v_fault : Int) (v_wrongAt : Int) (v_rightSum : Int) (v_wrongSum : Int) (v_allWays : Int) (v_torn : Int) (v_draft : Nat → Int) (v_isKept : Nat → Int) (v_placedRow : Nat → Int) (v_st : Nat → Int) (v_tape : Nat → Int) : va_W := [(a_v, .inr (10, [.ref a_v_st, .ref a_v_now, .ref a_v_isKept, .ref a_v_draft, .int (zI v_hasOrder), .int (zI v_hasStart), .int (zI v_placed), .int (zI v_placedMany), .ref a_v_placedRow, .int (zI v_highest), .ref a_v_tape, .int (zI v_taped), .int (zI v_pos), .int (zI v_begun), .int (zI v_sort), .int (zI v_value), .int (zI v_fault), .int (zI v_wrongAt), .ref a_v_by, .ref a_v_told, .ref a_v_bestRow, .long (zL v_rightSum), .long (zL v_wrongSum), .long (zL v_allWays), .ref a_v_ways, .ref a_v_lanes, .ref a_v_sizes, .ref a_v_cells, .int (zI v_torn), .ref a_v_before])), (a_v_draft, .inl (cy 0, 56, .inl (fun j => zI (v_draft j)))), (a_v_isKept, .inl (cy 3, 2, .inl (fun j => zI (v_isKept j)))), (a_v_placedRow, .inl (cy 0, 5, .inl (fun j => zI (v_placedRow j)))), (a_v_st, .inl (cy 0, 168, .inl (fun j => zI (v_st j)))), (a_v_tape, .inl (cy 0, 160, .inl (fun j => zI (v_tape j))))]
set_option maxHeartbeats 4000000 in
set_option maxRecDepth 100000 in
theorem c_X10_text (l : Launch) (D : va_G) (cy : Nat → ClassId) (sa : Nat → Nat) (a_v : Nat) (a_v_draft : Nat) (a_v_isKept : Nat) (a_v_placedRow : Nat) (a_v_st : Nat) (a_v_tape : Nat) (a_v_now : Nat) (a_v_by : Nat) (a_v_told : Nat) (a_v_bestRow : Nat) (a_v_ways : Nat) (a_v_lanes : Nat) (a_v_sizes : Nat) (a_v_cells : Nat) (a_v_before : Nat) (v_hasOrder : Int) (v_hasStart : Int) (v_placed : Int) (v_placedMany : Int) (v_highest : Int) (v_taped : Int) (v_pos : Int) (v_begun : Int) (v_sort : Int) (v_value : Int) (v_fault : Int) (v_wrongAt : Int) (v_rightSum : Int) (v_wrongSum : Int) (v_allWays : Int) (v_torn : Int) (v_draft : Nat → Int) (v_isKept : Nat → Int) (v_placedRow : Nat → Int) (v_st : Nat → Int) (v_tape : Nat → Int) (o : Int × Int × Int × Int × Int × Int × Int × Int × Int × Int × Int × Int × Int × (Nat → Int) × (Nat → Int) × (Nat → Int) × (Nat → Int)) (h : f_M_text v_hasOrder v_hasStart v_placed v_placedMany v_highest v_taped v_pos v_begun v_sort v_value v_fault v_wrongAt v_draft v_isKept v_placedRow v_st v_tape = some o) : CtI l yX10_text wsX10_text ({ frames := 5, cells := 0, slots := 0, locals := 112 }) D cy sa [.ref a_v] (wd_X10_text cy a_v a_v_draft a_v_isKept a_v_placedRow a_v_st a_v_tape a_v_now a_v_by a_v_told a_v_bestRow a_v_ways a_v_lanes a_v_sizes a_v_cells a_v_before v_hasOrder v_hasStart v_placed v_placedMany v_highest v_taped v_pos v_begun v_sort v_value v_fault v_wrongAt v_rightSum v_wrongSum v_allWays v_torn v_draft v_isKept v_placedRow v_st v_tape) (wd_X10_text cy a_v a_v_draft a_v_isKept a_v_placedRow a_v_st a_v_tape a_v_now a_v_by a_v_told a_v_bestRow a_v_ways a_v_lanes a_v_sizes a_v_cells a_v_before o.2.1 o.2.2.1 o.2.2.2.1 o.2.2.2.2.1 o.2.2.2.2.2.1 o.2.2.2.2.2.2.1 o.2.2.2.2.2.2.2.1 o.2.2.2.2.2.2.2.2.1 o.2.2.2.2.2.2.2.2.2.1 o.2.2.2.2.2.2.2.2.2.2.1 o.2.2.2.2.2.2.2.2.2.2.2.1 o.2.2.2.2.2.2.2.2.2.2.2.2.1 v_rightSum v_wrongSum v_allWays v_torn o.2.2.2.2.2.2.2.2.2.2.2.2.2.1 o.2.2.2.2.2.2.2.2.2.2.2.2.2.2.1 o.2.2.2.2.2.2.2.2.2.2.2.2.2.2.2.1 o.2.2.2.2.2.2.2.2.2.2.2.2.2.2.2.2 v_tape) o.1 := by
  refine ct_I (cc := cX10_text) (maxL := 2) (plainFor_of_name (by decide)) rfl (Nat.le_of_ble_eq_true rfl) ?_
  intro p e s m below meth c A args QQ hx hb hml hown hts hE hDD hP KR ls hl
  have hl : lv_has ls 2 [(0, .ref a_v)] := hl
  have hDD : DD A [a_v, a_v_draft, a_v_isKept, a_v_placedRow, a_v_st, a_v_tape] := hDD
  have hS : va_S A s.heap s.heap [] := va_S.rf
  have q0 := hts (.fieldLink RX10 85 "HatHoursModel" "fault" "I") (List.mem_of_getElem? (i := 1) rfl)
  have q1 := hts (.fieldLink RX10 94 "HatHoursModel" "pos" "I") (List.mem_of_getElem? (i := 2) rfl)
  have q2 := hts (.fieldLink RX10 109 "HatHoursModel" "sort" "I") (List.mem_of_getElem? (i := 3) rfl)
  have q3 := hts (.fieldLink RX10 82 "HatHoursModel" "taped" "I") (List.mem_of_getElem? (i := 6) rfl)
  have q4 := hts (.fieldLink RX10 91 "HatHoursModel" "wrongAt" "I") (List.mem_of_getElem? (i := 7) rfl)
  have q5 := hts (.fieldLink RX10 73 "HatHoursModel" "highest" "I") (List.mem_of_getElem? (i := 4) rfl)
  have q6 := hts (.fieldLink RX10 20 "HatHoursModel" "draft" "[I") (List.mem_of_getElem? (i := 5) rfl)
  have iX10 : ∀ w ∈ u_ws RX10 TX10 30, w ∈ wsX10_text := in_slice 78 30 rfl
  have L20 : ∀ (fuel : Nat) (v_hasOrder : Int) (v_hasStart : Int) (v_placed : Int) (v_placedMany : Int) (v_highest : Int) (v_taped : Int) (v_pos : Int) (v_begun : Int) (v_sort : Int) (v_value : Int) (v_fault : Int) (v_wrongAt : Int) (v_draft : Nat → Int) (v_isKept : Nat → Int) (v_placedRow : Nat → Int) (v_st : Nat → Int) (x1 : Int) (H : Heap) (locs : List Loc) (ls : Array Slot) (ex : Int × Int × Int × Int × Int × Int × Int × Int × Int × Int × Int × Int × (Nat → Int) × (Nat → Int)), va_P D vwCl (wd_X10_text cy a_v a_v_draft a_v_isKept a_v_placedRow a_v_st a_v_tape a_v_now a_v_by a_v_told a_v_bestRow a_v_ways a_v_lanes a_v_sizes a_v_cells a_v_before v_hasOrder v_hasStart v_placed v_placedMany v_highest v_taped v_pos v_begun v_sort v_value v_fault v_wrongAt v_rightSum v_wrongSum v_allWays v_torn v_draft v_isKept v_placedRow v_st v_tape) H → va_S A s.heap H locs → lv_has ls 2 [(0, .ref a_v), (1, .int (zI x1))] → f_M_text_L20 fuel v_hasOrder v_hasStart v_placed v_placedMany v_highest v_taped v_pos v_begun v_sort v_value v_fault v_wrongAt v_draft v_placedRow v_tape x1 = some ex → (∀ (H : Heap) (locs : List Loc) (ls : Array Slot), va_P D vwCl (wd_X10_text cy a_v a_v_draft a_v_isKept a_v_placedRow a_v_st a_v_tape a_v_now a_v_by a_v_told a_v_bestRow a_v_ways a_v_lanes a_v_sizes a_v_cells a_v_before ex.2.1 ex.2.2.1 ex.2.2.2.1 ex.2.2.2.2.1 ex.2.2.2.2.2.1 v_taped ex.2.2.2.2.2.2.1 ex.2.2.2.2.2.2.2.1 ex.2.2.2.2.2.2.2.2.1 ex.2.2.2.2.2.2.2.2.2.1 ex.2.2.2.2.2.2.2.2.2.2.1 ex.2.2.2.2.2.2.2.2.2.2.2.1 v_rightSum v_wrongSum v_allWays v_torn ex.2.2.2.2.2.2.2.2.2.2.2.2.1 v_isKept ex.2.2.2.2.2.2.2.2.2.2.2.2.2 v_st v_tape) H → va_S A s.heap H locs → lv_has ls 2 [(0, .ref a_v), (1, .int (zI ex.1))] → W p l e { frames := 5, cells := 0, slots := 0, locals := 112 } s m args below meth c H locs 0 0 QQ (F0 m 44 ls [])) → W p l e { frames := 5, cells := 0, slots := 0, locals := 112 } s m args below meth c H locs 0 0 QQ (F0 m 20 ls []) := by
    intro fuel
    induction fuel with
    | zero => intro _ _ _ _ _ _ _ _ _ _ _ _ _ _ _ _ _ H locs ls ex hP hS hl h K; cases h
    | succ fuel ih =>
      intro v_hasOrder v_hasStart v_placed v_placedMany v_highest v_taped v_pos v_begun v_sort v_value v_fault v_wrongAt v_draft v_isKept v_placedRow v_st x1 H locs ls ex hP hS hl h K
      refine lv_aload_n hx hb dX10_text_20 rfl (lv_at hl 0 rfl) ?_
      refine wi_get (v := .int (zI v_fault)) hx hb hts iX10 hown hE hP 0 rfl rfl 16 (by decide) q0 rfl dX10_text_21 ?_
      obtain ⟨hr5, h⟩ := chk_some h
      refine wi_if_ne (tgt := 44) hx hb dX10_text_24 (by decide) hr5 (fun c7 => ?_) (fun c7 => ?_)
      · have h := ite_f c7 h
        obtain rfl := Option.some.inj h
        exact K _ _ _ hP hS (lv_sub hl [0, 1] rfl)
      · have h := ite_t c7 h
        refine lv_aload_n hx hb dX10_text_27 rfl (lv_at hl 0 rfl) ?_
        refine wi_get (v := .int (zI v_sort)) hx hb hts iX10 hown hE hP 0 rfl rfl 14 (by decide) q2 rfl dX10_text_28 ?_
        obtain ⟨hr8, h⟩ := chk_some h
        refine wi_if_eq (tgt := 44) hx hb dX10_text_31 (by decide) hr8 (fun c10 => ?_) (fun c10 => ?_)
        · have h := ite_t c10 h
          obtain rfl := Option.some.inj h
          exact K _ _ _ hP hS (lv_sub hl [0, 1] rfl)
        · have h := ite_f c10 h
          refine lv_aload_n hx hb dX10_text_34 rfl (lv_at hl 0 rfl) ?_
          obtain ⟨o11, hc12, h⟩ := bnd_some h
          refine cV_v (rest := []) (w2 := (wd_X10_text cy a_v a_v_draft a_v_isKept a_v_placedRow a_v_st a_v_tape a_v_now a_v_by a_v_told a_v_bestRow a_v_ways a_v_lanes a_v_sizes a_v_cells a_v_before o11.1 o11.2.1 o11.2.2.1 o11.2.2.2.1 o11.2.2.2.2.1 v_taped o11.2.2.2.2.2.1 o11.2.2.2.2.2.2.1 o11.2.2.2.2.2.2.2.1 o11.2.2.2.2.2.2.2.2.1 o11.2.2.2.2.2.2.2.2.2.1 o11.2.2.2.2.2.2.2.2.2.2.1 v_rightSum v_wrongSum v_allWays v_torn o11.2.2.2.2.2.2.2.2.2.2.2.1 v_isKept o11.2.2.2.2.2.2.2.2.2.2.2.2 v_st v_tape)) ⟨hx, hb, hml, hown, hts⟩ (c_X10_readLine l D cy sa a_v a_v_draft a_v_placedRow a_v_tape a_v_st a_v_now a_v_isKept a_v_by a_v_told a_v_bestRow a_v_ways a_v_lanes a_v_sizes a_v_cells a_v_before v_hasOrder v_hasStart v_placed v_placedMany v_highest v_taped v_pos v_begun v_sort v_value v_fault v_wrongAt v_rightSum v_wrongSum v_allWays v_torn v_draft v_placedRow v_tape o11 hc12) (cwV 0 hts gX10_text_X10_readLine rfl rfl rfl (by decide +kernel) ⟨Nat.le_of_ble_eq_true rfl, Nat.le_of_ble_eq_true rfl⟩) rfl rfl rfl hE hP hDD rfl hS [0, 1, 3, 5] rfl rfl rfl rfl hl.1 (Nat.le_of_ble_eq_true rfl) ⟨Nat.zero_le _, Nat.zero_le _⟩ rfl dX10_text_35 rfl (fun H locs hP hS => ?_)
          refine wi_iinc (k := 1) (lv' := [(1, .int (zI (x1 + 1))), (0, .ref a_v)]) hx hb dX10_text_38 hl rfl (by decide) rfl (fun ls hl => ?_)
          refine lv_goto (tgt := 20) hx hb dX10_text_41 (by decide) ?_
          exact ih o11.1 o11.2.1 o11.2.2.1 o11.2.2.2.1 o11.2.2.2.2.1 v_taped o11.2.2.2.2.2.1 o11.2.2.2.2.2.2.1 o11.2.2.2.2.2.2.2.1 o11.2.2.2.2.2.2.2.2.1 o11.2.2.2.2.2.2.2.2.2.1 o11.2.2.2.2.2.2.2.2.2.2.1 o11.2.2.2.2.2.2.2.2.2.2.2.1 v_isKept o11.2.2.2.2.2.2.2.2.2.2.2.2 v_st (x1 + 1) _ _ _ _ hP hS (lv_sub hl [1, 0] rfl) h K
  refine wi_ic hx hb dX10_text_0 ?_
  refine lv_istore_n (lv' := [(1, .int (zI 0)), (0, .ref a_v)]) hx hb dX10_text_1 rfl hl (by decide) rfl (fun ls hl => ?_)
  refine lv_aload_n hx hb dX10_text_2 rfl (lv_at hl 1 rfl) ?_
  refine wi_ic hx hb dX10_text_3 ?_
  refine wi_put (ty := .int) (v := .int (zI 0)) (w2 := (wd_X10_text cy a_v a_v_draft a_v_isKept a_v_placedRow a_v_st a_v_tape a_v_now a_v_by a_v_told a_v_bestRow a_v_ways a_v_lanes a_v_sizes a_v_cells a_v_before v_hasOrder v_hasStart v_placed v_placedMany v_highest v_taped v_pos v_begun v_sort v_value 0 v_wrongAt v_rightSum v_wrongSum v_allWays v_torn v_draft v_isKept v_placedRow v_st v_tape)) hx hb hts iX10 tyX10 tyX10_ok nmX10 hown hE hP hDD rfl hS 0 rfl rfl 16 (by decide) q0 rfl (by decide +kernel) rfl rfl (Nat.le_of_ble_eq_true rfl) dX10_text_4 rfl (fun H locs hP hS => ?_)
  refine lv_aload_n hx hb dX10_text_7 rfl (lv_at hl 1 rfl) ?_
  refine wi_ic hx hb dX10_text_8 ?_
  refine wi_put (ty := .int) (v := .int (zI 0)) (w2 := (wd_X10_text cy a_v a_v_draft a_v_isKept a_v_placedRow a_v_st a_v_tape a_v_now a_v_by a_v_told a_v_bestRow a_v_ways a_v_lanes a_v_sizes a_v_cells a_v_before v_hasOrder v_hasStart v_placed v_placedMany v_highest v_taped 0 v_begun v_sort v_value 0 v_wrongAt v_rightSum v_wrongSum v_allWays v_torn v_draft v_isKept v_placedRow v_st v_tape)) hx hb hts iX10 tyX10 tyX10_ok nmX10 hown hE hP hDD rfl hS 0 rfl rfl 12 (by decide) q1 rfl (by decide +kernel) rfl rfl (Nat.le_of_ble_eq_true rfl) dX10_text_9 rfl (fun H locs hP hS => ?_)
  refine lv_aload_n hx hb dX10_text_12 rfl (lv_at hl 1 rfl) ?_
  obtain ⟨o1, hc2, h⟩ := bnd_some h
  refine cV_v (rest := []) (w2 := (wd_X10_text cy a_v a_v_draft a_v_isKept a_v_placedRow a_v_st a_v_tape a_v_now a_v_by a_v_told a_v_bestRow a_v_ways a_v_lanes a_v_sizes a_v_cells a_v_before o1.1 o1.2.1 o1.2.2.1 o1.2.2.2.1 o1.2.2.2.2.1 v_taped 0 v_begun v_sort v_value 0 v_wrongAt v_rightSum v_wrongSum v_allWays v_torn o1.2.2.2.2.2 v_isKept v_placedRow v_st v_tape)) ⟨hx, hb, hml, hown, hts⟩ (c_X10_firstDraft l D cy sa a_v a_v_draft a_v_st a_v_now a_v_isKept a_v_placedRow a_v_tape a_v_by a_v_told a_v_bestRow a_v_ways a_v_lanes a_v_sizes a_v_cells a_v_before v_hasOrder v_hasStart v_placed v_placedMany v_highest v_taped 0 v_begun v_sort v_value 0 v_wrongAt v_rightSum v_wrongSum v_allWays v_torn v_draft o1 hc2) (cwV 0 hts gX10_text_X10_firstDraft rfl rfl rfl (by decide +kernel) ⟨Nat.le_of_ble_eq_true rfl, Nat.le_of_ble_eq_true rfl⟩) rfl rfl rfl hE hP hDD rfl hS [0, 1] rfl rfl rfl rfl hl.1 (Nat.le_of_ble_eq_true rfl) ⟨Nat.zero_le _, Nat.zero_le _⟩ rfl dX10_text_13 rfl (fun H locs hP hS => ?_)
  refine lv_aload_n hx hb dX10_text_16 rfl (lv_at hl 1 rfl) ?_
  obtain ⟨o3, hc4, h⟩ := bnd_some h
  refine cV_v (rest := []) (w2 := (wd_X10_text cy a_v a_v_draft a_v_isKept a_v_placedRow a_v_st a_v_tape a_v_now a_v_by a_v_told a_v_bestRow a_v_ways a_v_lanes a_v_sizes a_v_cells a_v_before o1.1 o1.2.1 o1.2.2.1 o1.2.2.2.1 o1.2.2.2.2.1 v_taped o3.1 o3.2.1 o3.2.2.1 o3.2.2.2.1 o3.2.2.2.2.1 o3.2.2.2.2.2 v_rightSum v_wrongSum v_allWays v_torn o1.2.2.2.2.2 v_isKept v_placedRow v_st v_tape)) ⟨hx, hb, hml, hown, hts⟩ (c_X10_takes l D cy sa a_v a_v_tape a_v_st a_v_now a_v_isKept a_v_draft a_v_placedRow a_v_by a_v_told a_v_bestRow a_v_ways a_v_lanes a_v_sizes a_v_cells a_v_before o1.1 o1.2.1 o1.2.2.1 o1.2.2.2.1 o1.2.2.2.2.1 v_taped 0 v_begun v_sort v_value 0 v_wrongAt v_rightSum v_wrongSum v_allWays v_torn v_tape o3 hc4) (cwV 0 hts gX10_text_X10_takes rfl rfl rfl (by decide +kernel) ⟨Nat.le_of_ble_eq_true rfl, Nat.le_of_ble_eq_true rfl⟩) rfl rfl rfl hE hP hDD rfl hS [0, 5] rfl rfl rfl rfl hl.1 (Nat.le_of_ble_eq_true rfl) ⟨Nat.zero_le _, Nat.zero_le _⟩ rfl dX10_text_17 rfl (fun H locs hP hS => ?_)
  obtain ⟨o13, hx14, h⟩ := bnd_some h
  refine L20 5000 o1.1 o1.2.1 o1.2.2.1 o1.2.2.2.1 o1.2.2.2.2.1 v_taped o3.1 o3.2.1 o3.2.2.1 o3.2.2.2.1 o3.2.2.2.2.1 o3.2.2.2.2.2 o1.2.2.2.2.2 v_isKept v_placedRow v_st 0 _ _ _ _ hP hS (lv_sub hl [1, 0] rfl) hx14 ?_
  clear hx14
  intro H locs ls hP hS hl
  refine lv_aload_n hx hb dX10_text_44 rfl (lv_at hl 0 rfl) ?_
  refine wi_get (v := .int (zI o13.2.2.2.2.2.2.2.2.2.2.1)) hx hb hts iX10 hown hE hP 0 rfl rfl 16 (by decide) q0 rfl dX10_text_45 ?_
  obtain ⟨hr15, h⟩ := chk_some h
  obtain ⟨o16, hx17, h⟩ := bnd_some h
  have J18 : ∀ (H : Heap) (locs : List Loc) (ls : Array Slot), va_P D vwCl (wd_X10_text cy a_v a_v_draft a_v_isKept a_v_placedRow a_v_st a_v_tape a_v_now a_v_by a_v_told a_v_bestRow a_v_ways a_v_lanes a_v_sizes a_v_cells a_v_before o13.2.1 o13.2.2.1 o13.2.2.2.1 o13.2.2.2.2.1 o13.2.2.2.2.2.1 v_taped o13.2.2.2.2.2.2.1 o13.2.2.2.2.2.2.2.1 o13.2.2.2.2.2.2.2.2.1 o13.2.2.2.2.2.2.2.2.2.1 o16.1 o16.2 v_rightSum v_wrongSum v_allWays v_torn o13.2.2.2.2.2.2.2.2.2.2.2.2.1 v_isKept o13.2.2.2.2.2.2.2.2.2.2.2.2.2 v_st v_tape) H → va_S A s.heap H locs → lv_has ls 2 [(0, .ref a_v), (1, .int (zI o13.1))] → W p l e { frames := 5, cells := 0, slots := 0, locals := 112 } s m args below meth c H locs 0 0 QQ (F0 m 76 ls []) := by
    intro H locs ls hP hS hl
    refine lv_aload_n hx hb dX10_text_76 rfl (lv_at hl 0 rfl) ?_
    refine wi_ic hx hb dX10_text_77 ?_
    refine wi_put (ty := .int) (v := .int (zI 0)) (w2 := (wd_X10_text cy a_v a_v_draft a_v_isKept a_v_placedRow a_v_st a_v_tape a_v_now a_v_by a_v_told a_v_bestRow a_v_ways a_v_lanes a_v_sizes a_v_cells a_v_before o13.2.1 o13.2.2.1 o13.2.2.2.1 o13.2.2.2.2.1 o13.2.2.2.2.2.1 0 o13.2.2.2.2.2.2.1 o13.2.2.2.2.2.2.2.1 o13.2.2.2.2.2.2.2.2.1 o13.2.2.2.2.2.2.2.2.2.1 o16.1 o16.2 v_rightSum v_wrongSum v_allWays v_torn o13.2.2.2.2.2.2.2.2.2.2.2.2.1 v_isKept o13.2.2.2.2.2.2.2.2.2.2.2.2.2 v_st v_tape)) hx hb hts iX10 tyX10 tyX10_ok nmX10 hown hE hP hDD rfl hS 0 rfl rfl 11 (by decide) q3 rfl (by decide +kernel) rfl rfl (Nat.le_of_ble_eq_true rfl) dX10_text_78 rfl (fun H locs hP hS => ?_)
    refine lv_aload_n hx hb dX10_text_81 rfl (lv_at hl 0 rfl) ?_
    refine wi_get (v := .int (zI o16.1)) hx hb hts iX10 hown hE hP 0 rfl rfl 16 (by decide) q0 rfl dX10_text_82 ?_
    obtain ⟨hr19, h⟩ := chk_some h
    refine wi_if_le (tgt := 96) hx hb dX10_text_85 (by decide) hr19 (fun c21 => ?_) (fun c21 => ?_)
    · have h := ite_t c21 h
      refine lv_aload_n hx hb dX10_text_96 rfl (lv_at hl 0 rfl) ?_
      obtain ⟨o22, hc23, h⟩ := bnd_some h
      refine cV_v (rest := []) (w2 := (wd_X10_text cy a_v a_v_draft a_v_isKept a_v_placedRow a_v_st a_v_tape a_v_now a_v_by a_v_told a_v_bestRow a_v_ways a_v_lanes a_v_sizes a_v_cells a_v_before o13.2.1 o13.2.2.1 o13.2.2.2.1 o13.2.2.2.2.1 o13.2.2.2.2.2.1 0 o13.2.2.2.2.2.2.1 o13.2.2.2.2.2.2.2.1 o13.2.2.2.2.2.2.2.2.1 o13.2.2.2.2.2.2.2.2.2.1 o16.1 o16.2 v_rightSum v_wrongSum v_allWays v_torn o13.2.2.2.2.2.2.2.2.2.2.2.2.1 o22.1 o13.2.2.2.2.2.2.2.2.2.2.2.2.2 o22.2 v_tape)) ⟨hx, hb, hml, hown, hts⟩ (c_X10_keepDraft l D cy sa a_v a_v_draft a_v_isKept a_v_placedRow a_v_st a_v_now a_v_tape a_v_by a_v_told a_v_bestRow a_v_ways a_v_lanes a_v_sizes a_v_cells a_v_before o13.2.1 o13.2.2.1 o13.2.2.2.1 o13.2.2.2.2.1 o13.2.2.2.2.2.1 0 o13.2.2.2.2.2.2.1 o13.2.2.2.2.2.2.2.1 o13.2.2.2.2.2.2.2.2.1 o13.2.2.2.2.2.2.2.2.2.1 o16.1 o16.2 v_rightSum v_wrongSum v_allWays v_torn o13.2.2.2.2.2.2.2.2.2.2.2.2.1 v_isKept o13.2.2.2.2.2.2.2.2.2.2.2.2.2 v_st o22 hc23) (cwV 0 hts gX10_text_X10_keepDraft rfl rfl rfl (by decide +kernel) ⟨Nat.le_of_ble_eq_true rfl, Nat.le_of_ble_eq_true rfl⟩) rfl rfl rfl hE hP hDD rfl hS [0, 1, 2, 3, 4] rfl rfl rfl rfl hl.1 (Nat.le_of_ble_eq_true rfl) ⟨Nat.zero_le _, Nat.zero_le _⟩ rfl dX10_text_97 rfl (fun H locs hP hS => ?_)
      refine lv_iload_n hx hb dX10_text_100 rfl (lv_at hl 1 rfl) ?_
      obtain rfl := Option.some.inj h
      exact KR _ _ _ _ hP hS dX10_text_101
    · have h := ite_f c21 h
      refine wi_bi hx hb dX10_text_88 (by decide) ?_
      refine lv_aload_n hx hb dX10_text_90 rfl (lv_at hl 0 rfl) ?_
      refine wi_get (v := .int (zI o16.2)) hx hb hts iX10 hown hE hP 0 rfl rfl 17 (by decide) q4 rfl dX10_text_91 ?_
      refine wi_isub hx hb dX10_text_94 ?_
      obtain rfl := Option.some.inj h
      exact KR _ _ _ _ hP hS dX10_text_95
  clear h
  have h := hx17
  clear hx17
  refine wi_if_ne (tgt := 76) hx hb dX10_text_48 (by decide) hr15 (fun c24 => ?_) (fun c24 => ?_)
  · have h := ite_f c24 h
    obtain rfl := Option.some.inj h
    exact J18 _ _ _ hP hS (lv_sub hl [0, 1] rfl)
  · have h := ite_t c24 h
    refine lv_aload_n hx hb dX10_text_51 rfl (lv_at hl 0 rfl) ?_
    refine lv_aload_n hx hb dX10_text_52 rfl (lv_at hl 0 rfl) ?_
    refine wi_get (v := .int (zI o13.2.2.2.2.2.1)) hx hb hts iX10 hown hE hP 0 rfl rfl 9 (by decide) q5 rfl dX10_text_53 ?_
    refine lv_aload_n hx hb dX10_text_56 rfl (lv_at hl 0 rfl) ?_
    refine wi_get (v := .ref a_v_draft) hx hb hts iX10 hown hE hP 0 rfl rfl 3 (by decide) q6 rfl dX10_text_57 ?_
    refine wi_bi hx hb dX10_text_60 (by decide) ?_
    refine wi_iald hx hb hE hP 1 rfl (by decide) (by decide) dX10_text_62 ?_
    obtain ⟨hr25, h⟩ := chk_some h
    obtain ⟨hr26, h⟩ := chk_some h
    obtain ⟨o27, hx28, h⟩ := bnd_some h
    have J29 : ∀ (H : Heap) (locs : List Loc) (ls : Array Slot), va_P D vwCl (wd_X10_text cy a_v a_v_draft a_v_isKept a_v_placedRow a_v_st a_v_tape a_v_now a_v_by a_v_told a_v_bestRow a_v_ways a_v_lanes a_v_sizes a_v_cells a_v_before o13.2.1 o13.2.2.1 o13.2.2.2.1 o13.2.2.2.2.1 o13.2.2.2.2.2.1 v_taped o13.2.2.2.2.2.2.1 o13.2.2.2.2.2.2.2.1 o13.2.2.2.2.2.2.2.2.1 o13.2.2.2.2.2.2.2.2.2.1 o13.2.2.2.2.2.2.2.2.2.2.1 o13.2.2.2.2.2.2.2.2.2.2.2.1 v_rightSum v_wrongSum v_allWays v_torn o13.2.2.2.2.2.2.2.2.2.2.2.2.1 v_isKept o13.2.2.2.2.2.2.2.2.2.2.2.2.2 v_st v_tape) H → va_S A s.heap H locs → lv_has ls 2 [(0, .ref a_v), (1, .int (zI o13.1))] → W p l e { frames := 5, cells := 0, slots := 0, locals := 112 } s m args below meth c H locs 0 0 QQ (F0 m 71 ls [.int (zI o27), .ref a_v]) := by
      intro H locs ls hP hS hl
      refine wi_bi hx hb dX10_text_71 (by decide) ?_
      obtain ⟨o30, hc31, h⟩ := bnd_some h
      refine cV_v (rest := []) (w2 := (wd_X10_text cy a_v a_v_draft a_v_isKept a_v_placedRow a_v_st a_v_tape a_v_now a_v_by a_v_told a_v_bestRow a_v_ways a_v_lanes a_v_sizes a_v_cells a_v_before o13.2.1 o13.2.2.1 o13.2.2.2.1 o13.2.2.2.2.1 o13.2.2.2.2.2.1 v_taped o13.2.2.2.2.2.2.1 o13.2.2.2.2.2.2.2.1 o13.2.2.2.2.2.2.2.2.1 o13.2.2.2.2.2.2.2.2.2.1 o30.1 o30.2 v_rightSum v_wrongSum v_allWays v_torn o13.2.2.2.2.2.2.2.2.2.2.2.2.1 v_isKept o13.2.2.2.2.2.2.2.2.2.2.2.2.2 v_st v_tape)) ⟨hx, hb, hml, hown, hts⟩ (c_X10_needs l D cy sa a_v a_v_st a_v_now a_v_isKept a_v_draft a_v_placedRow a_v_tape a_v_by a_v_told a_v_bestRow a_v_ways a_v_lanes a_v_sizes a_v_cells a_v_before o13.2.1 o13.2.2.1 o13.2.2.2.1 o13.2.2.2.2.1 o13.2.2.2.2.2.1 v_taped o13.2.2.2.2.2.2.1 o13.2.2.2.2.2.2.2.1 o13.2.2.2.2.2.2.2.2.1 o13.2.2.2.2.2.2.2.2.2.1 o13.2.2.2.2.2.2.2.2.2.2.1 o13.2.2.2.2.2.2.2.2.2.2.2.1 v_rightSum v_wrongSum v_allWays v_torn o27 6 o30 hc31) (cwV 2 hts gX10_text_X10_needs rfl rfl rfl (by decide +kernel) ⟨Nat.le_of_ble_eq_true rfl, Nat.le_of_ble_eq_true rfl⟩) rfl rfl rfl hE hP hDD rfl hS [0] rfl rfl rfl rfl hl.1 (Nat.le_of_ble_eq_true rfl) ⟨Nat.zero_le _, Nat.zero_le _⟩ rfl dX10_text_73 rfl (fun H locs hP hS => ?_)
      obtain rfl := Option.some.inj h
      exact J18 _ _ _ hP hS (lv_sub hl [0, 1] rfl)
    clear h
    have h := hx28
    clear hx28
    refine wi_ic_ge (tgt := 70) hx hb dX10_text_63 (by decide) hr25 hr26 (fun c32 => ?_) (fun c32 => ?_)
    · have h := ite_t c32 h
      refine wi_ic hx hb dX10_text_70 ?_
      obtain rfl := Option.some.inj h
      exact J29 _ _ _ hP hS (lv_sub hl [0, 1] rfl)
    · have h := ite_f c32 h
      refine wi_ic hx hb dX10_text_66 ?_
      refine lv_goto (tgt := 71) hx hb dX10_text_67 (by decide) ?_
      obtain rfl := Option.some.inj h
      exact J29 _ _ _ hP hS (lv_sub hl [0, 1] rfl)
abbrev wd_X10_fault (cy : Nat → ClassId) (a_v : Nat) (a_v_st : Nat) (a_v_now : Nat) (a_v_isKept : Nat) (a_v_draft : Nat) (a_v_placedRow : Nat) (a_v_tape : Nat) (a_v_by : Nat) (a_v_told : Nat) (a_v_bestRow : Nat) (a_v_ways : Nat) (a_v_lanes : Nat) (a_v_sizes : Nat) (a_v_cells : Nat) (a_v_before : Nat) (v_hasOrder : Int) (v_hasStart : Int) (v_placed : Int) (v_placedMany : Int) (v_highest : Int) (v_taped : Int) (v_pos : Int) (v_begun : Int) (v_sort : Int) (v_value : Int) (v_fault : Int) (v_wrongAt : Int) (v_rightSum : Int) (v_wrongSum : Int) (v_allWays : Int) (v_torn : Int) : va_W := [(a_v, .inr (10, [.ref a_v_st, .ref a_v_now, .ref a_v_isKept, .ref a_v_draft, .int (zI v_hasOrder), .int (zI v_hasStart), .int (zI v_placed), .int (zI v_placedMany), .ref a_v_placedRow, .int (zI v_highest), .ref a_v_tape, .int (zI v_taped), .int (zI v_pos), .int (zI v_begun), .int (zI v_sort), .int (zI v_value), .int (zI v_fault), .int (zI v_wrongAt), .ref a_v_by, .ref a_v_told, .ref a_v_bestRow, .long (zL v_rightSum), .long (zL v_wrongSum), .long (zL v_allWays), .ref a_v_ways, .ref a_v_lanes, .ref a_v_sizes, .ref a_v_cells, .int (zI v_torn), .ref a_v_before]))]
set_option maxHeartbeats 4000000 in
set_option maxRecDepth 100000 in
theorem c_X10_fault (l : Launch) (D : va_G) (cy : Nat → ClassId) (sa : Nat → Nat) (a_v : Nat) (a_v_st : Nat) (a_v_now : Nat) (a_v_isKept : Nat) (a_v_draft : Nat) (a_v_placedRow : Nat) (a_v_tape : Nat) (a_v_by : Nat) (a_v_told : Nat) (a_v_bestRow : Nat) (a_v_ways : Nat) (a_v_lanes : Nat) (a_v_sizes : Nat) (a_v_cells : Nat) (a_v_before : Nat) (v_hasOrder : Int) (v_hasStart : Int) (v_placed : Int) (v_placedMany : Int) (v_highest : Int) (v_taped : Int) (v_pos : Int) (v_begun : Int) (v_sort : Int) (v_value : Int) (v_fault : Int) (v_wrongAt : Int) (v_rightSum : Int) (v_wrongSum : Int) (v_allWays : Int) (v_torn : Int) (o : Int) (h : f_M_fault v_fault = some o) : CtI l yX10_fault wsX10_fault ({ frames := 0, cells := 0, slots := 0, locals := 0 }) D cy sa [.ref a_v] (wd_X10_fault cy a_v a_v_st a_v_now a_v_isKept a_v_draft a_v_placedRow a_v_tape a_v_by a_v_told a_v_bestRow a_v_ways a_v_lanes a_v_sizes a_v_cells a_v_before v_hasOrder v_hasStart v_placed v_placedMany v_highest v_taped v_pos v_begun v_sort v_value v_fault v_wrongAt v_rightSum v_wrongSum v_allWays v_torn) (wd_X10_fault cy a_v a_v_st a_v_now a_v_isKept a_v_draft a_v_placedRow a_v_tape a_v_by a_v_told a_v_bestRow a_v_ways a_v_lanes a_v_sizes a_v_cells a_v_before v_hasOrder v_hasStart v_placed v_placedMany v_highest v_taped v_pos v_begun v_sort v_value v_fault v_wrongAt v_rightSum v_wrongSum v_allWays v_torn) o := by
  refine ct_I (cc := cX10_fault) (maxL := 1) (plainFor_of_name (by decide)) rfl (Nat.le_of_ble_eq_true rfl) ?_
  intro p e s m below meth c A args QQ hx hb hml hown hts hE hDD hP KR ls hl
  have hl : lv_has ls 1 [(0, .ref a_v)] := hl
  have hDD : DD A [a_v] := hDD
  have hS : va_S A s.heap s.heap [] := va_S.rf
  have q0 := hts (.fieldLink RX10 85 "HatHoursModel" "fault" "I") (List.mem_of_getElem? (i := 1) rfl)
  have iX10 : ∀ w ∈ u_ws RX10 TX10 30, w ∈ wsX10_fault := in_slice 2 30 rfl
  refine lv_aload_n hx hb dX10_fault_0 rfl (lv_at hl 0 rfl) ?_
  refine wi_get (v := .int (zI v_fault)) hx hb hts iX10 hown hE hP 0 rfl rfl 16 (by decide) q0 rfl dX10_fault_1 ?_
  obtain rfl := Option.some.inj h
  exact KR _ _ _ _ hP hS dX10_fault_4
abbrev wd_X10_isBox (cy : Nat → ClassId) (a_v : Nat) (a_v_st : Nat) (a_v_now : Nat) (a_v_isKept : Nat) (a_v_draft : Nat) (a_v_placedRow : Nat) (a_v_tape : Nat) (a_v_by : Nat) (a_v_told : Nat) (a_v_bestRow : Nat) (a_v_ways : Nat) (a_v_lanes : Nat) (a_v_sizes : Nat) (a_v_cells : Nat) (a_v_before : Nat) (v_hasOrder : Int) (v_hasStart : Int) (v_placed : Int) (v_placedMany : Int) (v_highest : Int) (v_taped : Int) (v_pos : Int) (v_begun : Int) (v_sort : Int) (v_value : Int) (v_fault : Int) (v_wrongAt : Int) (v_rightSum : Int) (v_wrongSum : Int) (v_allWays : Int) (v_torn : Int) (v_st : Nat → Int) : va_W := [(a_v, .inr (10, [.ref a_v_st, .ref a_v_now, .ref a_v_isKept, .ref a_v_draft, .int (zI v_hasOrder), .int (zI v_hasStart), .int (zI v_placed), .int (zI v_placedMany), .ref a_v_placedRow, .int (zI v_highest), .ref a_v_tape, .int (zI v_taped), .int (zI v_pos), .int (zI v_begun), .int (zI v_sort), .int (zI v_value), .int (zI v_fault), .int (zI v_wrongAt), .ref a_v_by, .ref a_v_told, .ref a_v_bestRow, .long (zL v_rightSum), .long (zL v_wrongSum), .long (zL v_allWays), .ref a_v_ways, .ref a_v_lanes, .ref a_v_sizes, .ref a_v_cells, .int (zI v_torn), .ref a_v_before])), (a_v_st, .inl (cy 0, 168, .inl (fun j => zI (v_st j))))]
set_option maxHeartbeats 4000000 in
set_option maxRecDepth 100000 in
theorem c_X10_isBox (l : Launch) (D : va_G) (cy : Nat → ClassId) (sa : Nat → Nat) (a_v : Nat) (a_v_st : Nat) (a_v_now : Nat) (a_v_isKept : Nat) (a_v_draft : Nat) (a_v_placedRow : Nat) (a_v_tape : Nat) (a_v_by : Nat) (a_v_told : Nat) (a_v_bestRow : Nat) (a_v_ways : Nat) (a_v_lanes : Nat) (a_v_sizes : Nat) (a_v_cells : Nat) (a_v_before : Nat) (v_hasOrder : Int) (v_hasStart : Int) (v_placed : Int) (v_placedMany : Int) (v_highest : Int) (v_taped : Int) (v_pos : Int) (v_begun : Int) (v_sort : Int) (v_value : Int) (v_fault : Int) (v_wrongAt : Int) (v_rightSum : Int) (v_wrongSum : Int) (v_allWays : Int) (v_torn : Int) (v_st : Nat → Int) (x1 : Int) (o : Int) (h : f_M_isBox v_st x1 = some o) : CtI l yX10_isBox wsX10_isBox ({ frames := 1, cells := 0, slots := 0, locals := 25 }) D cy sa [.ref a_v, .int (zI x1)] (wd_X10_isBox cy a_v a_v_st a_v_now a_v_isKept a_v_draft a_v_placedRow a_v_tape a_v_by a_v_told a_v_bestRow a_v_ways a_v_lanes a_v_sizes a_v_cells a_v_before v_hasOrder v_hasStart v_placed v_placedMany v_highest v_taped v_pos v_begun v_sort v_value v_fault v_wrongAt v_rightSum v_wrongSum v_allWays v_torn v_st) (wd_X10_isBox cy a_v a_v_st a_v_now a_v_isKept a_v_draft a_v_placedRow a_v_tape a_v_by a_v_told a_v_bestRow a_v_ways a_v_lanes a_v_sizes a_v_cells a_v_before v_hasOrder v_hasStart v_placed v_placedMany v_highest v_taped v_pos v_begun v_sort v_value v_fault v_wrongAt v_rightSum v_wrongSum v_allWays v_torn v_st) o := by
  refine ct_Z (cc := cX10_isBox) (maxL := 2) (plainFor_of_name (by decide)) rfl (Nat.le_of_ble_eq_true rfl) ?_
  intro p e s m below meth c A args QQ hx hb hml hown hts hE hDD hP KR ls hl
  have hl : lv_has ls 2 [(0, .ref a_v), (1, .int (zI x1))] := hl
  have hDD : DD A [a_v, a_v_st] := hDD
  have hS : va_S A s.heap s.heap [] := va_S.rf
  have q0 := hts (.fieldLink RX10 7 "HatHoursModel" "st" "[I") (List.mem_of_getElem? (i := 1) rfl)
  have iX10 : ∀ w ∈ u_ws RX10 TX10 30, w ∈ wsX10_isBox := in_slice 6 30 rfl
  refine lv_iload_n hx hb dX10_isBox_0 rfl (lv_at hl 1 rfl) ?_
  obtain ⟨hr1, h⟩ := chk_some h
  refine wi_i2l hx hb dX10_isBox_1 hr1 ?_
  refine wi_lc (v := 0) hx hb dX10_isBox_2 rfl ?_
  refine lv_aload_n hx hb dX10_isBox_3 rfl (lv_at hl 0 rfl) ?_
  refine wi_get (v := .ref a_v_st) hx hb hts iX10 hown hE hP 0 rfl rfl 0 (by decide) q0 rfl dX10_isBox_4 ?_
  refine wi_bi hx hb dX10_isBox_7 (by decide) ?_
  refine wi_iald hx hb hE hP 1 rfl (by decide) (by decide) dX10_isBox_9 ?_
  refine wi_ic hx hb dX10_isBox_10 ?_
  refine wi_isub hx hb dX10_isBox_11 ?_
  obtain ⟨hr2, h⟩ := chk_some h
  refine wi_i2l hx hb dX10_isBox_12 hr2 ?_
  obtain ⟨o3, hc4, h⟩ := bnd_some h
  refine cS_i (rest := []) (w2 := (wd_X10_isBox cy a_v a_v_st a_v_now a_v_isKept a_v_draft a_v_placedRow a_v_tape a_v_by a_v_told a_v_bestRow a_v_ways a_v_lanes a_v_sizes a_v_cells a_v_before v_hasOrder v_hasStart v_placed v_placedMany v_highest v_taped v_pos v_begun v_sort v_value v_fault v_wrongAt v_rightSum v_wrongSum v_allWays v_torn v_st)) ⟨hx, hb, hml, hown, hts⟩ (c_X10_in l D cy sa x1 0 ((v_st 30) - 1) o3 hc4) (va_cwS 3 hts gX10_isBox_X10_in rfl rfl rfl (by decide +kernel) ⟨Nat.le_of_ble_eq_true rfl, Nat.le_of_ble_eq_true rfl⟩) hE hP hDD rfl hS [] rfl rfl rfl rfl hl.1 (Nat.le_of_ble_eq_true rfl) ⟨Nat.zero_le _, Nat.zero_le _⟩ rfl dX10_isBox_13 rfl (fun H locs hP hS => ?_)
  obtain ⟨hk5, h⟩ := chk_some h
  obtain rfl := Option.some.inj h
  exact KR _ _ _ _ (z01 hk5) hP hS dX10_isBox_16
abbrev wd_X10_isHour (cy : Nat → ClassId) : va_W := []
set_option maxHeartbeats 4000000 in
set_option maxRecDepth 100000 in
theorem c_X10_isHour (l : Launch) (D : va_G) (cy : Nat → ClassId) (sa : Nat → Nat) (x0 : Int) (o : Int) (h : f_M_isHour x0 = some o) : CtI l yX10_isHour wsX10_isHour ({ frames := 1, cells := 0, slots := 0, locals := 25 }) D cy sa [.int (zI x0)] (wd_X10_isHour cy ) (wd_X10_isHour cy ) o := by
  refine ct_Z (cc := cX10_isHour) (maxL := 1) (plainFor_of_name (by decide)) rfl (Nat.le_of_ble_eq_true rfl) ?_
  intro p e s m below meth c A args QQ hx hb hml hown hts hE hDD hP KR ls hl
  have hl : lv_has ls 1 [(0, .int (zI x0))] := hl
  have hDD : DD A [] := hDD
  have hS : va_S A s.heap s.heap [] := va_S.rf
  have q0 := hts (.constantLong RX10 151 (23)) (List.mem_of_getElem? (i := 1) rfl)
  refine lv_iload_n hx hb dX10_isHour_0 rfl (lv_at hl 0 rfl) ?_
  obtain ⟨hr1, h⟩ := chk_some h
  refine wi_i2l hx hb dX10_isHour_1 hr1 ?_
  refine wi_lc (v := 0) hx hb dX10_isHour_2 rfl ?_
  refine wi_ldc2 (n := 23) hx hb hown q0 dX10_isHour_3 rfl ?_
  obtain ⟨o2, hc3, h⟩ := bnd_some h
  refine cS_i (rest := []) (w2 := (wd_X10_isHour cy )) ⟨hx, hb, hml, hown, hts⟩ (c_X10_in l D cy sa x0 0 23 o2 hc3) (va_cwS 3 hts gX10_isHour_X10_in rfl rfl rfl (by decide +kernel) ⟨Nat.le_of_ble_eq_true rfl, Nat.le_of_ble_eq_true rfl⟩) hE hP hDD rfl hS [] rfl rfl rfl rfl hl.1 (Nat.le_of_ble_eq_true rfl) ⟨Nat.zero_le _, Nat.zero_le _⟩ rfl dX10_isHour_6 rfl (fun H locs hP hS => ?_)
  obtain ⟨hk4, h⟩ := chk_some h
  obtain rfl := Option.some.inj h
  exact KR _ _ _ _ (z01 hk4) hP hS dX10_isHour_9
abbrev wd_X10_isRoom (cy : Nat → ClassId) : va_W := []
set_option maxHeartbeats 4000000 in
set_option maxRecDepth 100000 in
theorem c_X10_isRoom (l : Launch) (D : va_G) (cy : Nat → ClassId) (sa : Nat → Nat) (x0 : Int) (o : Int) (h : f_M_isRoom x0 = some o) : CtI l yX10_isRoom wsX10_isRoom ({ frames := 1, cells := 0, slots := 0, locals := 25 }) D cy sa [.int (zI x0)] (wd_X10_isRoom cy ) (wd_X10_isRoom cy ) o := by
  refine ct_Z (cc := cX10_isRoom) (maxL := 1) (plainFor_of_name (by decide)) rfl (Nat.le_of_ble_eq_true rfl) ?_
  intro p e s m below meth c A args QQ hx hb hml hown hts hE hDD hP KR ls hl
  have hl : lv_has ls 1 [(0, .int (zI x0))] := hl
  have hDD : DD A [] := hDD
  have hS : va_S A s.heap s.heap [] := va_S.rf
  have q0 := hts (.constantLong RX10 153 (4)) (List.mem_of_getElem? (i := 1) rfl)
  refine lv_iload_n hx hb dX10_isRoom_0 rfl (lv_at hl 0 rfl) ?_
  obtain ⟨hr1, h⟩ := chk_some h
  refine wi_i2l hx hb dX10_isRoom_1 hr1 ?_
  refine wi_lc (v := 0) hx hb dX10_isRoom_2 rfl ?_
  refine wi_ldc2 (n := 4) hx hb hown q0 dX10_isRoom_3 rfl ?_
  obtain ⟨o2, hc3, h⟩ := bnd_some h
  refine cS_i (rest := []) (w2 := (wd_X10_isRoom cy )) ⟨hx, hb, hml, hown, hts⟩ (c_X10_in l D cy sa x0 0 4 o2 hc3) (va_cwS 3 hts gX10_isRoom_X10_in rfl rfl rfl (by decide +kernel) ⟨Nat.le_of_ble_eq_true rfl, Nat.le_of_ble_eq_true rfl⟩) hE hP hDD rfl hS [] rfl rfl rfl rfl hl.1 (Nat.le_of_ble_eq_true rfl) ⟨Nat.zero_le _, Nat.zero_le _⟩ rfl dX10_isRoom_6 rfl (fun H locs hP hS => ?_)
  obtain ⟨hk4, h⟩ := chk_some h
  obtain rfl := Option.some.inj h
  exact KR _ _ _ _ (z01 hk4) hP hS dX10_isRoom_9
abbrev wd_X10_isPart (cy : Nat → ClassId) : va_W := []
set_option maxHeartbeats 4000000 in
set_option maxRecDepth 100000 in
theorem c_X10_isPart (l : Launch) (D : va_G) (cy : Nat → ClassId) (sa : Nat → Nat) (x0 : Int) (o : Int) (h : f_M_isPart x0 = some o) : CtI l yX10_isPart wsX10_isPart ({ frames := 1, cells := 0, slots := 0, locals := 25 }) D cy sa [.int (zI x0)] (wd_X10_isPart cy ) (wd_X10_isPart cy ) o := by
  refine ct_Z (cc := cX10_isPart) (maxL := 1) (plainFor_of_name (by decide)) rfl (Nat.le_of_ble_eq_true rfl) ?_
  intro p e s m below meth c A args QQ hx hb hml hown hts hE hDD hP KR ls hl
  have hl : lv_has ls 1 [(0, .int (zI x0))] := hl
  have hDD : DD A [] := hDD
  have hS : va_S A s.heap s.heap [] := va_S.rf
  refine lv_iload_n hx hb dX10_isPart_0 rfl (lv_at hl 0 rfl) ?_
  obtain ⟨hr1, h⟩ := chk_some h
  refine wi_i2l hx hb dX10_isPart_1 hr1 ?_
  refine wi_lc (v := 0) hx hb dX10_isPart_2 rfl ?_
  refine wi_lc (v := 1) hx hb dX10_isPart_3 rfl ?_
  obtain ⟨o2, hc3, h⟩ := bnd_some h
  refine cS_i (rest := []) (w2 := (wd_X10_isPart cy )) ⟨hx, hb, hml, hown, hts⟩ (c_X10_in l D cy sa x0 0 1 o2 hc3) (va_cwS 3 hts gX10_isPart_X10_in rfl rfl rfl (by decide +kernel) ⟨Nat.le_of_ble_eq_true rfl, Nat.le_of_ble_eq_true rfl⟩) hE hP hDD rfl hS [] rfl rfl rfl rfl hl.1 (Nat.le_of_ble_eq_true rfl) ⟨Nat.zero_le _, Nat.zero_le _⟩ rfl dX10_isPart_4 rfl (fun H locs hP hS => ?_)
  obtain ⟨hk4, h⟩ := chk_some h
  obtain rfl := Option.some.inj h
  exact KR _ _ _ _ (z01 hk4) hP hS dX10_isPart_7
abbrev wd_X10_fetches (cy : Nat → ClassId) (a_v : Nat) (a_v_now : Nat) (a_v_st : Nat) (a_v_isKept : Nat) (a_v_draft : Nat) (a_v_placedRow : Nat) (a_v_tape : Nat) (a_v_by : Nat) (a_v_told : Nat) (a_v_bestRow : Nat) (a_v_ways : Nat) (a_v_lanes : Nat) (a_v_sizes : Nat) (a_v_cells : Nat) (a_v_before : Nat) (v_hasOrder : Int) (v_hasStart : Int) (v_placed : Int) (v_placedMany : Int) (v_highest : Int) (v_taped : Int) (v_pos : Int) (v_begun : Int) (v_sort : Int) (v_value : Int) (v_fault : Int) (v_wrongAt : Int) (v_rightSum : Int) (v_wrongSum : Int) (v_allWays : Int) (v_torn : Int) (v_now : Nat → Int) (v_st : Nat → Int) : va_W := [(a_v, .inr (10, [.ref a_v_st, .ref a_v_now, .ref a_v_isKept, .ref a_v_draft, .int (zI v_hasOrder), .int (zI v_hasStart), .int (zI v_placed), .int (zI v_placedMany), .ref a_v_placedRow, .int (zI v_highest), .ref a_v_tape, .int (zI v_taped), .int (zI v_pos), .int (zI v_begun), .int (zI v_sort), .int (zI v_value), .int (zI v_fault), .int (zI v_wrongAt), .ref a_v_by, .ref a_v_told, .ref a_v_bestRow, .long (zL v_rightSum), .long (zL v_wrongSum), .long (zL v_allWays), .ref a_v_ways, .ref a_v_lanes, .ref a_v_sizes, .ref a_v_cells, .int (zI v_torn), .ref a_v_before])), (a_v_now, .inl (cy 0, 56, .inl (fun j => zI (v_now j)))), (a_v_st, .inl (cy 0, 168, .inl (fun j => zI (v_st j))))]
set_option maxHeartbeats 4000000 in
set_option maxRecDepth 100000 in
theorem c_X10_fetches (l : Launch) (D : va_G) (cy : Nat → ClassId) (sa : Nat → Nat) (a_v : Nat) (a_v_now : Nat) (a_v_st : Nat) (a_v_isKept : Nat) (a_v_draft : Nat) (a_v_placedRow : Nat) (a_v_tape : Nat) (a_v_by : Nat) (a_v_told : Nat) (a_v_bestRow : Nat) (a_v_ways : Nat) (a_v_lanes : Nat) (a_v_sizes : Nat) (a_v_cells : Nat) (a_v_before : Nat) (v_hasOrder : Int) (v_hasStart : Int) (v_placed : Int) (v_placedMany : Int) (v_highest : Int) (v_taped : Int) (v_pos : Int) (v_begun : Int) (v_sort : Int) (v_value : Int) (v_fault : Int) (v_wrongAt : Int) (v_rightSum : Int) (v_wrongSum : Int) (v_allWays : Int) (v_torn : Int) (v_now : Nat → Int) (v_st : Nat → Int) (o : (Nat → Int)) (h : f_M_fetches v_now v_st = some o) : CtV l yX10_fetches wsX10_fetches ({ frames := 0, cells := 0, slots := 0, locals := 0 }) D cy sa [.ref a_v] (wd_X10_fetches cy a_v a_v_now a_v_st a_v_isKept a_v_draft a_v_placedRow a_v_tape a_v_by a_v_told a_v_bestRow a_v_ways a_v_lanes a_v_sizes a_v_cells a_v_before v_hasOrder v_hasStart v_placed v_placedMany v_highest v_taped v_pos v_begun v_sort v_value v_fault v_wrongAt v_rightSum v_wrongSum v_allWays v_torn v_now v_st) (wd_X10_fetches cy a_v a_v_now a_v_st a_v_isKept a_v_draft a_v_placedRow a_v_tape a_v_by a_v_told a_v_bestRow a_v_ways a_v_lanes a_v_sizes a_v_cells a_v_before v_hasOrder v_hasStart v_placed v_placedMany v_highest v_taped v_pos v_begun v_sort v_value v_fault v_wrongAt v_rightSum v_wrongSum v_allWays v_torn o v_st)  := by
  refine ct_V (cc := cX10_fetches) (maxL := 2) (plainFor_of_name (by decide)) rfl (Nat.le_of_ble_eq_true rfl) ?_
  intro p e s m below meth c A args QQ hx hb hml hown hts hE hDD hP KR ls hl
  have hl : lv_has ls 2 [(0, .ref a_v)] := hl
  have hDD : DD A [a_v, a_v_now, a_v_st] := hDD
  have hS : va_S A s.heap s.heap [] := va_S.rf
  have q0 := hts (.fieldLink RX10 13 "HatHoursModel" "now" "[I") (List.mem_of_getElem? (i := 1) rfl)
  have q1 := hts (.fieldLink RX10 7 "HatHoursModel" "st" "[I") (List.mem_of_getElem? (i := 2) rfl)
  have iX10 : ∀ w ∈ u_ws RX10 TX10 30, w ∈ wsX10_fetches := in_slice 3 30 rfl
  have L2 : ∀ (fuel : Nat) (v_now : Nat → Int) (x1 : Int) (H : Heap) (locs : List Loc) (ls : Array Slot) (ex : (Nat → Int)), va_P D vwCl (wd_X10_fetches cy a_v a_v_now a_v_st a_v_isKept a_v_draft a_v_placedRow a_v_tape a_v_by a_v_told a_v_bestRow a_v_ways a_v_lanes a_v_sizes a_v_cells a_v_before v_hasOrder v_hasStart v_placed v_placedMany v_highest v_taped v_pos v_begun v_sort v_value v_fault v_wrongAt v_rightSum v_wrongSum v_allWays v_torn v_now v_st) H → va_S A s.heap H locs → lv_has ls 2 [(0, .ref a_v), (1, .int (zI x1))] → f_M_fetches_L2 fuel v_now v_st x1 = some ex → (∀ (H : Heap) (locs : List Loc) (ls : Array Slot), va_P D vwCl (wd_X10_fetches cy a_v a_v_now a_v_st a_v_isKept a_v_draft a_v_placedRow a_v_tape a_v_by a_v_told a_v_bestRow a_v_ways a_v_lanes a_v_sizes a_v_cells a_v_before v_hasOrder v_hasStart v_placed v_placedMany v_highest v_taped v_pos v_begun v_sort v_value v_fault v_wrongAt v_rightSum v_wrongSum v_allWays v_torn ex v_st) H → va_S A s.heap H locs → lv_has ls 2 [] → W p l e { frames := 0, cells := 0, slots := 0, locals := 0 } s m args below meth c H locs 0 0 QQ (F0 m 26 ls [])) → W p l e { frames := 0, cells := 0, slots := 0, locals := 0 } s m args below meth c H locs 0 0 QQ (F0 m 2 ls []) := by
    intro fuel
    induction fuel with
    | zero => intro _ _ H locs ls ex hP hS hl h K; cases h
    | succ fuel ih =>
      intro v_now x1 H locs ls ex hP hS hl h K
      refine lv_iload_n hx hb dX10_fetches_2 rfl (lv_at hl 1 rfl) ?_
      refine wi_bi hx hb dX10_fetches_3 (by decide) ?_
      obtain ⟨hr1, h⟩ := chk_some h
      refine wi_ic_ge (tgt := 26) hx hb dX10_fetches_5 (by decide) hr1 (by decide) (fun c3 => ?_) (fun c3 => ?_)
      · have h := ite_t c3 h
        obtain rfl := Option.some.inj h
        exact K _ _ _ hP hS (lv_sub hl [] rfl)
      · have h := ite_f c3 h
        refine lv_aload_n hx hb dX10_fetches_8 rfl (lv_at hl 0 rfl) ?_
        refine wi_get (v := .ref a_v_now) hx hb hts iX10 hown hE hP 0 rfl rfl 1 (by decide) q0 rfl dX10_fetches_9 ?_
        refine lv_iload_n hx hb dX10_fetches_12 rfl (lv_at hl 1 rfl) ?_
        refine lv_aload_n hx hb dX10_fetches_13 rfl (lv_at hl 0 rfl) ?_
        refine wi_get (v := .ref a_v_st) hx hb hts iX10 hown hE hP 0 rfl rfl 0 (by decide) q1 rfl dX10_fetches_14 ?_
        refine lv_iload_n hx hb dX10_fetches_17 rfl (lv_at hl 1 rfl) ?_
        obtain ⟨hk4, h⟩ := chk_some h
        refine wi_iald hx hb hE hP 2 rfl (by decide) hk4 dX10_fetches_18 ?_
        obtain ⟨hk5, h⟩ := chk_some h
        refine wi_iast (w2 := (wd_X10_fetches cy a_v a_v_now a_v_st a_v_isKept a_v_draft a_v_placedRow a_v_tape a_v_by a_v_told a_v_bestRow a_v_ways a_v_lanes a_v_sizes a_v_cells a_v_before v_hasOrder v_hasStart v_placed v_placedMany v_highest v_taped v_pos v_begun v_sort v_value v_fault v_wrongAt v_rightSum v_wrongSum v_allWays v_torn (upZ v_now (x1).toNat (v_st (x1).toNat)) v_st)) hx hb hE hP hDD rfl hS 1 rfl (by decide) hk5 dX10_fetches_19 rfl (fun H locs hP hS => ?_)
        refine wi_iinc (k := 1) (lv' := [(1, .int (zI (x1 + 1))), (0, .ref a_v)]) hx hb dX10_fetches_20 hl rfl (by decide) rfl (fun ls hl => ?_)
        refine lv_goto (tgt := 2) hx hb dX10_fetches_23 (by decide) ?_
        exact ih (upZ v_now (x1).toNat (v_st (x1).toNat)) (x1 + 1) _ _ _ _ hP hS (lv_sub hl [1, 0] rfl) h K
  refine wi_ic hx hb dX10_fetches_0 ?_
  refine lv_istore_n (lv' := [(1, .int (zI 0)), (0, .ref a_v)]) hx hb dX10_fetches_1 rfl hl (by decide) rfl (fun ls hl => ?_)
  obtain ⟨o6, hx7, h⟩ := bnd_some h
  refine L2 5000 v_now 0 _ _ _ _ hP hS (lv_sub hl [1, 0] rfl) hx7 ?_
  clear hx7
  intro H locs ls hP hS hl
  obtain rfl := Option.some.inj h
  exact KR _ _ _ _ hP hS dX10_fetches_26
abbrev wd_X10_of (cy : Nat → ClassId) (a_v : Nat) (a_v_now : Nat) (a_v_st : Nat) (a_v_isKept : Nat) (a_v_draft : Nat) (a_v_placedRow : Nat) (a_v_tape : Nat) (a_v_by : Nat) (a_v_told : Nat) (a_v_bestRow : Nat) (a_v_ways : Nat) (a_v_lanes : Nat) (a_v_sizes : Nat) (a_v_cells : Nat) (a_v_before : Nat) (v_hasOrder : Int) (v_hasStart : Int) (v_placed : Int) (v_placedMany : Int) (v_highest : Int) (v_taped : Int) (v_pos : Int) (v_begun : Int) (v_sort : Int) (v_value : Int) (v_fault : Int) (v_wrongAt : Int) (v_rightSum : Int) (v_wrongSum : Int) (v_allWays : Int) (v_torn : Int) (v_now : Nat → Int) : va_W := [(a_v, .inr (10, [.ref a_v_st, .ref a_v_now, .ref a_v_isKept, .ref a_v_draft, .int (zI v_hasOrder), .int (zI v_hasStart), .int (zI v_placed), .int (zI v_placedMany), .ref a_v_placedRow, .int (zI v_highest), .ref a_v_tape, .int (zI v_taped), .int (zI v_pos), .int (zI v_begun), .int (zI v_sort), .int (zI v_value), .int (zI v_fault), .int (zI v_wrongAt), .ref a_v_by, .ref a_v_told, .ref a_v_bestRow, .long (zL v_rightSum), .long (zL v_wrongSum), .long (zL v_allWays), .ref a_v_ways, .ref a_v_lanes, .ref a_v_sizes, .ref a_v_cells, .int (zI v_torn), .ref a_v_before])), (a_v_now, .inl (cy 0, 56, .inl (fun j => zI (v_now j))))]
set_option maxHeartbeats 4000000 in
set_option maxRecDepth 100000 in
theorem c_X10_of (l : Launch) (D : va_G) (cy : Nat → ClassId) (sa : Nat → Nat) (a_v : Nat) (a_v_now : Nat) (a_v_st : Nat) (a_v_isKept : Nat) (a_v_draft : Nat) (a_v_placedRow : Nat) (a_v_tape : Nat) (a_v_by : Nat) (a_v_told : Nat) (a_v_bestRow : Nat) (a_v_ways : Nat) (a_v_lanes : Nat) (a_v_sizes : Nat) (a_v_cells : Nat) (a_v_before : Nat) (v_hasOrder : Int) (v_hasStart : Int) (v_placed : Int) (v_placedMany : Int) (v_highest : Int) (v_taped : Int) (v_pos : Int) (v_begun : Int) (v_sort : Int) (v_value : Int) (v_fault : Int) (v_wrongAt : Int) (v_rightSum : Int) (v_wrongSum : Int) (v_allWays : Int) (v_torn : Int) (v_now : Nat → Int) (x1 : Int) (x2 : Int) (o : Int) (h : f_M_of v_now x1 x2 = some o) : CtI l yX10_of wsX10_of ({ frames := 0, cells := 0, slots := 0, locals := 0 }) D cy sa [.ref a_v, .int (zI x1), .int (zI x2)] (wd_X10_of cy a_v a_v_now a_v_st a_v_isKept a_v_draft a_v_placedRow a_v_tape a_v_by a_v_told a_v_bestRow a_v_ways a_v_lanes a_v_sizes a_v_cells a_v_before v_hasOrder v_hasStart v_placed v_placedMany v_highest v_taped v_pos v_begun v_sort v_value v_fault v_wrongAt v_rightSum v_wrongSum v_allWays v_torn v_now) (wd_X10_of cy a_v a_v_now a_v_st a_v_isKept a_v_draft a_v_placedRow a_v_tape a_v_by a_v_told a_v_bestRow a_v_ways a_v_lanes a_v_sizes a_v_cells a_v_before v_hasOrder v_hasStart v_placed v_placedMany v_highest v_taped v_pos v_begun v_sort v_value v_fault v_wrongAt v_rightSum v_wrongSum v_allWays v_torn v_now) o := by
  refine ct_I (cc := cX10_of) (maxL := 3) (plainFor_of_name (by decide)) rfl (Nat.le_of_ble_eq_true rfl) ?_
  intro p e s m below meth c A args QQ hx hb hml hown hts hE hDD hP KR ls hl
  have hl : lv_has ls 3 [(0, .ref a_v), (1, .int (zI x1)), (2, .int (zI x2))] := hl
  have hDD : DD A [a_v, a_v_now] := hDD
  have hS : va_S A s.heap s.heap [] := va_S.rf
  have q0 := hts (.fieldLink RX10 13 "HatHoursModel" "now" "[I") (List.mem_of_getElem? (i := 1) rfl)
  have iX10 : ∀ w ∈ u_ws RX10 TX10 30, w ∈ wsX10_of := in_slice 2 30 rfl
  refine lv_aload_n hx hb dX10_of_0 rfl (lv_at hl 0 rfl) ?_
  refine wi_get (v := .ref a_v_now) hx hb hts iX10 hown hE hP 0 rfl rfl 1 (by decide) q0 rfl dX10_of_1 ?_
  refine wi_bi hx hb dX10_of_4 (by decide) ?_
  refine lv_iload_n hx hb dX10_of_6 rfl (lv_at hl 1 rfl) ?_
  refine wi_imul hx hb dX10_of_7 ?_
  refine lv_iload_n hx hb dX10_of_8 rfl (lv_at hl 2 rfl) ?_
  refine wi_iadd hx hb dX10_of_9 ?_
  obtain ⟨hk1, h⟩ := chk_some h
  refine wi_iald hx hb hE hP 1 rfl (by decide) hk1 dX10_of_10 ?_
  obtain rfl := Option.some.inj h
  exact KR _ _ _ _ hP hS dX10_of_11
abbrev wd_X10_becomesOf (cy : Nat → ClassId) (a_v : Nat) (a_v_now : Nat) (a_v_st : Nat) (a_v_isKept : Nat) (a_v_draft : Nat) (a_v_placedRow : Nat) (a_v_tape : Nat) (a_v_by : Nat) (a_v_told : Nat) (a_v_bestRow : Nat) (a_v_ways : Nat) (a_v_lanes : Nat) (a_v_sizes : Nat) (a_v_cells : Nat) (a_v_before : Nat) (v_hasOrder : Int) (v_hasStart : Int) (v_placed : Int) (v_placedMany : Int) (v_highest : Int) (v_taped : Int) (v_pos : Int) (v_begun : Int) (v_sort : Int) (v_value : Int) (v_fault : Int) (v_wrongAt : Int) (v_rightSum : Int) (v_wrongSum : Int) (v_allWays : Int) (v_torn : Int) (v_now : Nat → Int) : va_W := [(a_v, .inr (10, [.ref a_v_st, .ref a_v_now, .ref a_v_isKept, .ref a_v_draft, .int (zI v_hasOrder), .int (zI v_hasStart), .int (zI v_placed), .int (zI v_placedMany), .ref a_v_placedRow, .int (zI v_highest), .ref a_v_tape, .int (zI v_taped), .int (zI v_pos), .int (zI v_begun), .int (zI v_sort), .int (zI v_value), .int (zI v_fault), .int (zI v_wrongAt), .ref a_v_by, .ref a_v_told, .ref a_v_bestRow, .long (zL v_rightSum), .long (zL v_wrongSum), .long (zL v_allWays), .ref a_v_ways, .ref a_v_lanes, .ref a_v_sizes, .ref a_v_cells, .int (zI v_torn), .ref a_v_before])), (a_v_now, .inl (cy 0, 56, .inl (fun j => zI (v_now j))))]
set_option maxHeartbeats 4000000 in
set_option maxRecDepth 100000 in
theorem c_X10_becomesOf (l : Launch) (D : va_G) (cy : Nat → ClassId) (sa : Nat → Nat) (a_v : Nat) (a_v_now : Nat) (a_v_st : Nat) (a_v_isKept : Nat) (a_v_draft : Nat) (a_v_placedRow : Nat) (a_v_tape : Nat) (a_v_by : Nat) (a_v_told : Nat) (a_v_bestRow : Nat) (a_v_ways : Nat) (a_v_lanes : Nat) (a_v_sizes : Nat) (a_v_cells : Nat) (a_v_before : Nat) (v_hasOrder : Int) (v_hasStart : Int) (v_placed : Int) (v_placedMany : Int) (v_highest : Int) (v_taped : Int) (v_pos : Int) (v_begun : Int) (v_sort : Int) (v_value : Int) (v_fault : Int) (v_wrongAt : Int) (v_rightSum : Int) (v_wrongSum : Int) (v_allWays : Int) (v_torn : Int) (v_now : Nat → Int) (x1 : Int) (x2 : Int) (x3 : Int) (o : (Nat → Int)) (h : f_M_becomesOf v_now x1 x2 x3 = some o) : CtV l yX10_becomesOf wsX10_becomesOf ({ frames := 0, cells := 0, slots := 0, locals := 0 }) D cy sa [.ref a_v, .int (zI x1), .int (zI x2), .int (zI x3)] (wd_X10_becomesOf cy a_v a_v_now a_v_st a_v_isKept a_v_draft a_v_placedRow a_v_tape a_v_by a_v_told a_v_bestRow a_v_ways a_v_lanes a_v_sizes a_v_cells a_v_before v_hasOrder v_hasStart v_placed v_placedMany v_highest v_taped v_pos v_begun v_sort v_value v_fault v_wrongAt v_rightSum v_wrongSum v_allWays v_torn v_now) (wd_X10_becomesOf cy a_v a_v_now a_v_st a_v_isKept a_v_draft a_v_placedRow a_v_tape a_v_by a_v_told a_v_bestRow a_v_ways a_v_lanes a_v_sizes a_v_cells a_v_before v_hasOrder v_hasStart v_placed v_placedMany v_highest v_taped v_pos v_begun v_sort v_value v_fault v_wrongAt v_rightSum v_wrongSum v_allWays v_torn o)  := by
  refine ct_V (cc := cX10_becomesOf) (maxL := 4) (plainFor_of_name (by decide)) rfl (Nat.le_of_ble_eq_true rfl) ?_
  intro p e s m below meth c A args QQ hx hb hml hown hts hE hDD hP KR ls hl
  have hl : lv_has ls 4 [(0, .ref a_v), (1, .int (zI x1)), (2, .int (zI x2)), (3, .int (zI x3))] := hl
  have hDD : DD A [a_v, a_v_now] := hDD
  have hS : va_S A s.heap s.heap [] := va_S.rf
  have q0 := hts (.fieldLink RX10 13 "HatHoursModel" "now" "[I") (List.mem_of_getElem? (i := 1) rfl)
  have iX10 : ∀ w ∈ u_ws RX10 TX10 30, w ∈ wsX10_becomesOf := in_slice 2 30 rfl
  refine lv_aload_n hx hb dX10_becomesOf_0 rfl (lv_at hl 0 rfl) ?_
  refine wi_get (v := .ref a_v_now) hx hb hts iX10 hown hE hP 0 rfl rfl 1 (by decide) q0 rfl dX10_becomesOf_1 ?_
  refine wi_bi hx hb dX10_becomesOf_4 (by decide) ?_
  refine lv_iload_n hx hb dX10_becomesOf_6 rfl (lv_at hl 1 rfl) ?_
  refine wi_imul hx hb dX10_becomesOf_7 ?_
  refine lv_iload_n hx hb dX10_becomesOf_8 rfl (lv_at hl 2 rfl) ?_
  refine wi_iadd hx hb dX10_becomesOf_9 ?_
  refine lv_iload_n hx hb dX10_becomesOf_10 rfl (lv_at hl 3 rfl) ?_
  obtain ⟨hk1, h⟩ := chk_some h
  refine wi_iast (w2 := (wd_X10_becomesOf cy a_v a_v_now a_v_st a_v_isKept a_v_draft a_v_placedRow a_v_tape a_v_by a_v_told a_v_bestRow a_v_ways a_v_lanes a_v_sizes a_v_cells a_v_before v_hasOrder v_hasStart v_placed v_placedMany v_highest v_taped v_pos v_begun v_sort v_value v_fault v_wrongAt v_rightSum v_wrongSum v_allWays v_torn (upZ v_now ((6 * x1) + x2).toNat x3))) hx hb hE hP hDD rfl hS 1 rfl (by decide) hk1 dX10_becomesOf_11 rfl (fun H locs hP hS => ?_)
  obtain rfl := Option.some.inj h
  exact KR _ _ _ _ hP hS dX10_becomesOf_12
