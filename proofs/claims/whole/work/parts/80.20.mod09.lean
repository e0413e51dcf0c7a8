abbrev wd_X10_findOdds (cy : Nat → ClassId) (a_v : Nat) (a_v_now : Nat) (a_v_st : Nat) (a_v_isKept : Nat) (a_v_draft : Nat) (a_v_placedRow : Nat) (a_v_tape : Nat) (a_v_by : Nat) (a_v_told : Nat) (a_v_bestRow : Nat) (a_v_ways : Nat) (a_v_lanes : Nat) (a_v_sizes : Nat) (a_v_cells : Nat) (a_v_before : Nat) (v_hasOrder : Int) (v_hasStart : Int) (v_placed : Int) (v_placedMany : Int) (v_highest : Int) (v_taped : Int) (v_pos : Int) (v_begun : Int) (v_sort : Int) (v_value : Int) (v_fault : Int) (v_wrongAt : Int) (v_rightSum : Int) (v_wrongSum : Int) (v_allWays : Int) (v_torn : Int) (v_now : Nat → Int) (v_st : Nat → Int) : va_W := [(a_v, .inr (10, [.ref a_v_st, .ref a_v_now, .ref a_v_isKept, .ref a_v_draft, .int (zI v_hasOrder), .int (zI v_hasStart), .int (zI v_placed), .int (zI v_placedMany), .ref a_v_placedRow, .int (zI v_highest), .ref a_v_tape, .int (zI v_taped), .int (zI v_pos), .int (zI v_begun), .int (zI v_sort), .int (zI v_value), .int (zI v_fault), .int (zI v_wrongAt), .ref a_v_by, .ref a_v_told, .ref a_v_bestRow, .long (zL v_rightSum), .long (zL v_wrongSum), .long (zL v_allWays), .ref a_v_ways, .ref a_v_lanes, .ref a_v_sizes, .ref a_v_cells, .int (zI v_torn), .ref a_v_before])), (a_v_now, .inl (cy 0, 56, .inl (fun j => zI (v_now j)))), (a_v_st, .inl (cy 0, 168, .inl (fun j => zI (v_st j))))]
set_option maxHeartbeats 4000000 in
set_option maxRecDepth 100000 in
theorem c_X10_findOdds (l : Launch) (D : va_G) (cy : Nat → ClassId) (sa : Nat → Nat) (a_v : Nat) (a_v_now : Nat) (a_v_st : Nat) (a_v_isKept : Nat) (a_v_draft : Nat) (a_v_placedRow : Nat) (a_v_tape : Nat) (a_v_by : Nat) (a_v_told : Nat) (a_v_bestRow : Nat) (a_v_ways : Nat) (a_v_lanes : Nat) (a_v_sizes : Nat) (a_v_cells : Nat) (a_v_before : Nat) (v_hasOrder : Int) (v_hasStart : Int) (v_placed : Int) (v_placedMany : Int) (v_highest : Int) (v_taped : Int) (v_pos : Int) (v_begun : Int) (v_sort : Int) (v_value : Int) (v_fault : Int) (v_wrongAt : Int) (v_rightSum : Int) (v_wrongSum : Int) (v_allWays : Int) (v_torn : Int) (v_now : Nat → Int) (v_st : Nat → Int) (x1 : Int) (x2 : Int) (o : Int × Int × Int × (Nat → Int)) (h : f_M_findOdds v_rightSum v_wrongSum v_allWays v_now v_st x1 x2 = some o) : CtV l yX10_findOdds wsX10_findOdds ({ frames := 5, cells := 0, slots := 0, locals := 111 }) D cy sa [.ref a_v, .int (zI x1), .int (zI x2)] (wd_X10_findOdds cy a_v a_v_now a_v_st a_v_isKept a_v_draft a_v_placedRow a_v_tape a_v_by a_v_told a_v_bestRow a_v_ways a_v_lanes a_v_sizes a_v_cells a_v_before v_hasOrder v_hasStart v_placed v_placedMany v_highest v_taped v_pos v_begun v_sort v_value v_fault v_wrongAt v_rightSum v_wrongSum v_allWays v_torn v_now v_st) (wd_X10_findOdds cy a_v a_v_now a_v_st a_v_isKept a_v_draft a_v_placedRow a_v_tape a_v_by a_v_told a_v_bestRow a_v_ways a_v_lanes a_v_sizes a_v_cells a_v_before v_hasOrder v_hasStart v_placed v_placedMany v_highest v_taped v_pos v_begun v_sort v_value v_fault v_wrongAt o.1 o.2.1 o.2.2.1 v_torn o.2.2.2 v_st)  := by
  refine ct_V (cc := cX10_findOdds) (maxL := 8) (plainFor_of_name (by decide)) rfl (Nat.le_of_ble_eq_true rfl) ?_
  intro p e s m below meth c A args QQ hx hb hml hown hts hE hDD hP KR ls hl
  have hl : lv_has ls 8 [(0, .ref a_v), (1, .int (zI x1)), (2, .int (zI x2))] := hl
  have hDD : DD A [a_v, a_v_now, a_v_st] := hDD
  have hS : va_S A s.heap s.heap [] := va_S.rf
  have q0 := hts (.fieldLink RX10 248 "HatHoursModel" "rightSum" "J") (List.mem_of_getElem? (i := 1) rfl)
  have q1 := hts (.fieldLink RX10 252 "HatHoursModel" "wrongSum" "J") (List.mem_of_getElem? (i := 2) rfl)
  have q2 := hts (.fieldLink RX10 255 "HatHoursModel" "allWays" "J") (List.mem_of_getElem? (i := 3) rfl)
  have q3 := hts (.fieldLink RX10 7 "HatHoursModel" "st" "[I") (List.mem_of_getElem? (i := 4) rfl)
  have q4 := hts (.constantLong RX10 258 (10)) (List.mem_of_getElem? (i := 5) rfl)
  have iX10 : ∀ w ∈ u_ws RX10 TX10 30, w ∈ wsX10_findOdds := in_slice 46 30 rfl
  have L17 : ∀ (fuel : Nat) (v_rightSum : Int) (v_wrongSum : Int) (v_allWays : Int) (v_now : Nat → Int) (x1 : Int) (x2 : Int) (x3 : Int) (H : Heap) (locs : List Loc) (ls : Array Slot) (ex : Int), va_P D vwCl (wd_X10_findOdds cy a_v a_v_now a_v_st a_v_isKept a_v_draft a_v_placedRow a_v_tape a_v_by a_v_told a_v_bestRow a_v_ways a_v_lanes a_v_sizes a_v_cells a_v_before v_hasOrder v_hasStart v_placed v_placedMany v_highest v_taped v_pos v_begun v_sort v_value v_fault v_wrongAt v_rightSum v_wrongSum v_allWays v_torn v_now v_st) H → va_S A s.heap H locs → lv_has ls 8 [(0, .ref a_v), (1, .int (zI x1)), (2, .int (zI x2)), (3, .int (zI x3))] → f_M_findOdds_L17 fuel v_allWays v_st x3 = some ex → (∀ (H : Heap) (locs : List Loc) (ls : Array Slot), va_P D vwCl (wd_X10_findOdds cy a_v a_v_now a_v_st a_v_isKept a_v_draft a_v_placedRow a_v_tape a_v_by a_v_told a_v_bestRow a_v_ways a_v_lanes a_v_sizes a_v_cells a_v_before v_hasOrder v_hasStart v_placed v_placedMany v_highest v_taped v_pos v_begun v_sort v_value v_fault v_wrongAt v_rightSum v_wrongSum ex v_torn v_now v_st) H → va_S A s.heap H locs → lv_has ls 8 [(0, .ref a_v), (1, .int (zI x1)), (2, .int (zI x2))] → W p l e { frames := 5, cells := 0, slots := 0, locals := 111 } s m args below meth c H locs 0 0 QQ (F0 m 46 ls [])) → W p l e { frames := 5, cells := 0, slots := 0, locals := 111 } s m args below meth c H locs 0 0 QQ (F0 m 17 ls []) := by
    intro fuel
    induction fuel with
    | zero => intro _ _ _ _ _ _ _ H locs ls ex hP hS hl h K; cases h
    | succ fuel ih =>
      intro v_rightSum v_wrongSum v_allWays v_now x1 x2 x3 H locs ls ex hP hS hl h K
      refine lv_iload_n hx hb dX10_findOdds_17 rfl (lv_at hl 3 rfl) ?_
      refine lv_aload_n hx hb dX10_findOdds_18 rfl (lv_at hl 0 rfl) ?_
      refine wi_get (v := .ref a_v_st) hx hb hts iX10 hown hE hP 0 rfl rfl 0 (by decide) q3 rfl dX10_findOdds_19 ?_
      refine wi_bi hx hb dX10_findOdds_22 (by decide) ?_
      refine wi_iald hx hb hE hP 2 rfl (by decide) (by decide) dX10_findOdds_24 ?_
      obtain ⟨hr1, h⟩ := chk_some h
      obtain ⟨hr2, h⟩ := chk_some h
      refine wi_ic_ge (tgt := 46) hx hb dX10_findOdds_25 (by decide) hr1 hr2 (fun c4 => ?_) (fun c4 => ?_)
      · have h := ite_t c4 h
        obtain rfl := Option.some.inj h
        exact K _ _ _ hP hS (lv_sub hl [0, 1, 2] rfl)
      · have h := ite_f c4 h
        refine lv_aload_n hx hb dX10_findOdds_28 rfl (lv_at hl 0 rfl) ?_
        refine lv_dup hx hb dX10_findOdds_29 rfl ?_
        refine wi_get (v := .long (zL v_allWays)) hx hb hts iX10 hown hE hP 0 rfl rfl 23 (by decide) q2 rfl dX10_findOdds_30 ?_
        refine wi_ldc2 (n := 10) hx hb hown q4 dX10_findOdds_33 rfl ?_
        refine wi_lmul hx hb dX10_findOdds_36 ?_
        refine wi_put (ty := .long) (v := .long (zL (v_allWays * 10))) (w2 := (wd_X10_findOdds cy a_v a_v_now a_v_st a_v_isKept a_v_draft a_v_placedRow a_v_tape a_v_by a_v_told a_v_bestRow a_v_ways a_v_lanes a_v_sizes a_v_cells a_v_before v_hasOrder v_hasStart v_placed v_placedMany v_highest v_taped v_pos v_begun v_sort v_value v_fault v_wrongAt v_rightSum v_wrongSum (v_allWays * 10) v_torn v_now v_st)) hx hb hts iX10 tyX10 tyX10_ok nmX10 hown hE hP hDD rfl hS 0 rfl rfl 23 (by decide) q2 rfl (by decide +kernel) rfl rfl (Nat.le_of_ble_eq_true rfl) dX10_findOdds_37 rfl (fun H locs hP hS => ?_)
        refine wi_iinc (k := 3) (lv' := [(3, .int (zI (x3 + 1))), (0, .ref a_v), (1, .int (zI x1)), (2, .int (zI x2))]) hx hb dX10_findOdds_40 hl rfl (by decide) rfl (fun ls hl => ?_)
        refine lv_goto (tgt := 17) hx hb dX10_findOdds_43 (by decide) ?_
        exact ih v_rightSum v_wrongSum (v_allWays * 10) v_now x1 x2 (x3 + 1) _ _ _ _ hP hS (lv_sub hl [1, 2, 3, 0] rfl) h K
  have L71 : ∀ (fuel : Nat) (v_rightSum : Int) (v_wrongSum : Int) (v_allWays : Int) (v_now : Nat → Int) (x1 : Int) (x2 : Int) (x3 : Int) (x4 : Int) (x6 : Int) (H : Heap) (locs : List Loc) (ls : Array Slot) (ex : Int × (Nat → Int)), va_P D vwCl (wd_X10_findOdds cy a_v a_v_now a_v_st a_v_isKept a_v_draft a_v_placedRow a_v_tape a_v_by a_v_told a_v_bestRow a_v_ways a_v_lanes a_v_sizes a_v_cells a_v_before v_hasOrder v_hasStart v_placed v_placedMany v_highest v_taped v_pos v_begun v_sort v_value v_fault v_wrongAt v_rightSum v_wrongSum v_allWays v_torn v_now v_st) H → va_S A s.heap H locs → lv_has ls 8 [(0, .ref a_v), (1, .int (zI x1)), (2, .int (zI x2)), (3, .int (zI x3)), (4, .long (zL x4)), (6, .int (zI x6))] → f_M_findOdds_L71 fuel v_now v_st x1 x3 x4 x6 = some ex → (∀ (H : Heap) (locs : List Loc) (ls : Array Slot), va_P D vwCl (wd_X10_findOdds cy a_v a_v_now a_v_st a_v_isKept a_v_draft a_v_placedRow a_v_tape a_v_by a_v_told a_v_bestRow a_v_ways a_v_lanes a_v_sizes a_v_cells a_v_before v_hasOrder v_hasStart v_placed v_placedMany v_highest v_taped v_pos v_begun v_sort v_value v_fault v_wrongAt v_rightSum v_wrongSum v_allWays v_torn ex.2 v_st) H → va_S A s.heap H locs → lv_has ls 8 [(0, .ref a_v), (1, .int (zI x1)), (2, .int (zI x2)), (3, .int (zI x3)), (4, .long (zL ex.1))] → W p l e { frames := 5, cells := 0, slots := 0, locals := 111 } s m args below meth c H locs 0 0 QQ (F0 m 146 ls [])) → W p l e { frames := 5, cells := 0, slots := 0, locals := 111 } s m args below meth c H locs 0 0 QQ (F0 m 71 ls []) := by
    intro fuel
    induction fuel with
    | zero => intro _ _ _ _ _ _ _ _ _ H locs ls ex hP hS hl h K; cases h
    | succ fuel ih =>
      intro v_rightSum v_wrongSum v_allWays v_now x1 x2 x3 x4 x6 H locs ls ex hP hS hl h K
      refine lv_iload hx hb dX10_findOdds_71 (lv_at hl 5 rfl) ?_
      refine lv_aload_n hx hb dX10_findOdds_73 rfl (lv_at hl 0 rfl) ?_
      refine wi_get (v := .ref a_v_st) hx hb hts iX10 hown hE hP 0 rfl rfl 0 (by decide) q3 rfl dX10_findOdds_74 ?_
      refine wi_bi hx hb dX10_findOdds_77 (by decide) ?_
      refine wi_iald hx hb hE hP 2 rfl (by decide) (by decide) dX10_findOdds_79 ?_
      obtain ⟨hr12, h⟩ := chk_some h
      obtain ⟨hr13, h⟩ := chk_some h
      refine wi_ic_ge (tgt := 146) hx hb dX10_findOdds_80 (by decide) hr12 hr13 (fun c15 => ?_) (fun c15 => ?_)
      · have h := ite_t c15 h
        obtain rfl := Option.some.inj h
        exact K _ _ _ hP hS (lv_sub hl [0, 1, 2, 3, 4] rfl)
      · have h := ite_f c15 h
        refine lv_iload_n hx hb dX10_findOdds_83 rfl (lv_at hl 3 rfl) ?_
        refine lv_iload hx hb dX10_findOdds_84 (lv_at hl 5 rfl) ?_
        refine wi_ishr hx hb dX10_findOdds_86 ?_
        refine wi_ic hx hb dX10_findOdds_87 ?_
        refine wi_iand hx hb dX10_findOdds_88 ?_
        refine wi_ic hx hb dX10_findOdds_89 ?_
        obtain ⟨o16, hx17, h⟩ := bnd_some h
        have J18 : ∀ (H : Heap) (locs : List Loc) (ls : Array Slot), va_P D vwCl (wd_X10_findOdds cy a_v a_v_now a_v_st a_v_isKept a_v_draft a_v_placedRow a_v_tape a_v_by a_v_told a_v_bestRow a_v_ways a_v_lanes a_v_sizes a_v_cells a_v_before v_hasOrder v_hasStart v_placed v_placedMany v_highest v_taped v_pos v_begun v_sort v_value v_fault v_wrongAt v_rightSum v_wrongSum v_allWays v_torn v_now v_st) H → va_S A s.heap H locs → lv_has ls 8 [(0, .ref a_v), (1, .int (zI x1)), (2, .int (zI x2)), (3, .int (zI x3)), (4, .long (zL x4)), (6, .int (zI x6))] → W p l e { frames := 5, cells := 0, slots := 0, locals := 111 } s m args below meth c H locs 0 0 QQ (F0 m 98 ls [.int (zI o16)]) := by
          intro H locs ls hP hS hl
          refine lv_istore (lv' := [(7, .int (zI o16)), (0, .ref a_v), (1, .int (zI x1)), (2, .int (zI x2)), (3, .int (zI x3)), (4, .long (zL x4)), (6, .int (zI x6))]) hx hb dX10_findOdds_98 hl (by decide) rfl (fun ls hl => ?_)
          refine lv_lload hx hb dX10_findOdds_100 (lv_at hl 5 rfl) ?_
          refine lv_iload hx hb dX10_findOdds_102 (lv_at hl 0 rfl) ?_
          obtain ⟨hr19, h⟩ := chk_some h
          obtain ⟨o20, hx21, h⟩ := bnd_some h
          have J22 : ∀ (H : Heap) (locs : List Loc) (ls : Array Slot), va_P D vwCl (wd_X10_findOdds cy a_v a_v_now a_v_st a_v_isKept a_v_draft a_v_placedRow a_v_tape a_v_by a_v_told a_v_bestRow a_v_ways a_v_lanes a_v_sizes a_v_cells a_v_before v_hasOrder v_hasStart v_placed v_placedMany v_highest v_taped v_pos v_begun v_sort v_value v_fault v_wrongAt v_rightSum v_wrongSum v_allWays v_torn v_now v_st) H → va_S A s.heap H locs → lv_has ls 8 [(0, .ref a_v), (1, .int (zI x1)), (2, .int (zI x2)), (3, .int (zI x3)), (6, .int (zI x6)), (7, .int (zI o16))] → W p l e { frames := 5, cells := 0, slots := 0, locals := 111 } s m args below meth c H locs 0 0 QQ (F0 m 117 ls [.long (zL o20), .long (zL x4)]) := by
            intro H locs ls hP hS hl
            refine wi_lmul hx hb dX10_findOdds_117 ?_
            refine lv_lstore (lv' := [(4, .long (zL (x4 * o20))), (0, .ref a_v), (1, .int (zI x1)), (2, .int (zI x2)), (3, .int (zI x3)), (6, .int (zI x6)), (7, .int (zI o16))]) hx hb dX10_findOdds_118 hl (by decide) rfl (fun ls hl => ?_)
            refine lv_aload_n hx hb dX10_findOdds_120 rfl (lv_at hl 1 rfl) ?_
            refine lv_iload hx hb dX10_findOdds_121 (lv_at hl 5 rfl) ?_
            refine wi_ic hx hb dX10_findOdds_123 ?_
            refine lv_aload_n hx hb dX10_findOdds_124 rfl (lv_at hl 1 rfl) ?_
            refine lv_iload hx hb dX10_findOdds_125 (lv_at hl 5 rfl) ?_
            refine wi_ic hx hb dX10_findOdds_127 ?_
            obtain ⟨o23, hc24, h⟩ := bnd_some h
            refine cV_i (rest := [.int (zI 1), .int (zI x6), .ref a_v]) (w2 := (wd_X10_findOdds cy a_v a_v_now a_v_st a_v_isKept a_v_draft a_v_placedRow a_v_tape a_v_by a_v_told a_v_bestRow a_v_ways a_v_lanes a_v_sizes a_v_cells a_v_before v_hasOrder v_hasStart v_placed v_placedMany v_highest v_taped v_pos v_begun v_sort v_value v_fault v_wrongAt v_rightSum v_wrongSum v_allWays v_torn v_now v_st)) ⟨hx, hb, hml, hown, hts⟩ (c_X10_of l D cy sa a_v a_v_now a_v_st a_v_isKept a_v_draft a_v_placedRow a_v_tape a_v_by a_v_told a_v_bestRow a_v_ways a_v_lanes a_v_sizes a_v_cells a_v_before v_hasOrder v_hasStart v_placed v_placedMany v_highest v_taped v_pos v_begun v_sort v_value v_fault v_wrongAt v_rightSum v_wrongSum v_allWays v_torn v_now x6 1 o23 hc24) (cwV 2 hts gX10_findOdds_X10_of rfl rfl rfl (by decide +kernel) ⟨Nat.le_of_ble_eq_true rfl, Nat.le_of_ble_eq_true rfl⟩) rfl rfl rfl hE hP hDD rfl hS [0, 1] rfl rfl rfl rfl hl.1 (Nat.le_of_ble_eq_true rfl) ⟨Nat.zero_le _, Nat.zero_le _⟩ rfl dX10_findOdds_128 rfl (fun H locs hP hS => ?_)
            refine lv_iload hx hb dX10_findOdds_131 (lv_at hl 6 rfl) ?_
            obtain ⟨o25, hc26, h⟩ := bnd_some h
            refine cS_i (rest := [.int (zI o23), .int (zI 1), .int (zI x6), .ref a_v]) (w2 := (wd_X10_findOdds cy a_v a_v_now a_v_st a_v_isKept a_v_draft a_v_placedRow a_v_tape a_v_by a_v_told a_v_bestRow a_v_ways a_v_lanes a_v_sizes a_v_cells a_v_before v_hasOrder v_hasStart v_placed v_placedMany v_highest v_taped v_pos v_begun v_sort v_value v_fault v_wrongAt v_rightSum v_wrongSum v_allWays v_torn v_now v_st)) ⟨hx, hb, hml, hown, hts⟩ (c_X10_flag l D cy sa o16 o25 hc26) (va_cwS 1 hts gX10_findOdds_X10_flag rfl rfl rfl (by decide +kernel) ⟨Nat.le_of_ble_eq_true rfl, Nat.le_of_ble_eq_true rfl⟩) hE hP hDD rfl hS [] rfl rfl rfl rfl hl.1 (Nat.le_of_ble_eq_true rfl) ⟨Nat.zero_le _, Nat.zero_le _⟩ rfl dX10_findOdds_133 rfl (fun H locs hP hS => ?_)
            refine wi_iadd hx hb dX10_findOdds_136 ?_
            obtain ⟨o27, hc28, h⟩ := bnd_some h
            refine cV_v (rest := []) (w2 := (wd_X10_findOdds cy a_v a_v_now a_v_st a_v_isKept a_v_draft a_v_placedRow a_v_tape a_v_by a_v_told a_v_bestRow a_v_ways a_v_lanes a_v_sizes a_v_cells a_v_before v_hasOrder v_hasStart v_placed v_placedMany v_highest v_taped v_pos v_begun v_sort v_value v_fault v_wrongAt v_rightSum v_wrongSum v_allWays v_torn o27 v_st)) ⟨hx, hb, hml, hown, hts⟩ (c_X10_becomesOf l D cy sa a_v a_v_now a_v_st a_v_isKept a_v_draft a_v_placedRow a_v_tape a_v_by a_v_told a_v_bestRow a_v_ways a_v_lanes a_v_sizes a_v_cells a_v_before v_hasOrder v_hasStart v_placed v_placedMany v_highest v_taped v_pos v_begun v_sort v_value v_fault v_wrongAt v_rightSum v_wrongSum v_allWays v_torn v_now x6 1 (o23 + o25) o27 hc28) (cwV 3 hts gX10_findOdds_X10_becomesOf rfl rfl rfl (by decide +kernel) ⟨Nat.le_of_ble_eq_true rfl, Nat.le_of_ble_eq_true rfl⟩) rfl rfl rfl hE hP hDD rfl hS [0, 1] rfl rfl rfl rfl hl.1 (Nat.le_of_ble_eq_true rfl) ⟨Nat.zero_le _, Nat.zero_le _⟩ rfl dX10_findOdds_137 rfl (fun H locs hP hS => ?_)
            refine wi_iinc (k := 5) (lv' := [(6, .int (zI (x6 + 1))), (4, .long (zL (x4 * o20))), (0, .ref a_v), (1, .int (zI x1)), (2, .int (zI x2)), (3, .int (zI x3)), (7, .int (zI o16))]) hx hb dX10_findOdds_140 hl rfl (by decide) rfl (fun ls hl => ?_)
            refine lv_goto (tgt := 71) hx hb dX10_findOdds_143 (by decide) ?_
            exact ih v_rightSum v_wrongSum v_allWays o27 x1 x2 x3 (x4 * o20) (x6 + 1) _ _ _ _ hP hS (lv_sub hl [2, 3, 4, 5, 1, 0] rfl) h K
          clear h
          have h := hx21
          clear hx21
          refine wi_if_eq (tgt := 112) hx hb dX10_findOdds_104 (by decide) hr19 (fun c29 => ?_) (fun c29 => ?_)
          · have h := ite_t c29 h
            refine wi_bi hx hb dX10_findOdds_112 (by decide) ?_
            refine lv_iload_n hx hb dX10_findOdds_114 rfl (lv_at hl 2 rfl) ?_
            refine wi_isub hx hb dX10_findOdds_115 ?_
            obtain ⟨hr30, h⟩ := chk_some h
            refine wi_i2l hx hb dX10_findOdds_116 hr30 ?_
            obtain rfl := Option.some.inj h
            exact J22 _ _ _ hP hS (lv_sub hl [1, 2, 3, 4, 6, 0] rfl)
          · have h := ite_f c29 h
            refine lv_iload_n hx hb dX10_findOdds_107 rfl (lv_at hl 2 rfl) ?_
            obtain ⟨hr31, h⟩ := chk_some h
            refine wi_i2l hx hb dX10_findOdds_108 hr31 ?_
            refine lv_goto (tgt := 117) hx hb dX10_findOdds_109 (by decide) ?_
            obtain rfl := Option.some.inj h
            exact J22 _ _ _ hP hS (lv_sub hl [1, 2, 3, 4, 6, 0] rfl)
        clear h
        have h := hx17
        clear hx17
        refine wi_ic_ne (tgt := 97) hx hb dX10_findOdds_90 (by decide) (inR_of _) (by decide) (fun c32 => ?_) (fun c32 => ?_)
        · have h := ite_f c32 h
          refine wi_ic hx hb dX10_findOdds_97 ?_
          obtain rfl := Option.some.inj h
          exact J18 _ _ _ hP hS (lv_sub hl [0, 1, 2, 3, 4, 5] rfl)
        · have h := ite_t c32 h
          refine wi_ic hx hb dX10_findOdds_93 ?_
          refine lv_goto (tgt := 98) hx hb dX10_findOdds_94 (by decide) ?_
          obtain rfl := Option.some.inj h
          exact J18 _ _ _ hP hS (lv_sub hl [0, 1, 2, 3, 4, 5] rfl)
  have L48 : ∀ (fuel : Nat) (v_rightSum : Int) (v_wrongSum : Int) (v_allWays : Int) (v_now : Nat → Int) (x1 : Int) (x2 : Int) (x3 : Int) (H : Heap) (locs : List Loc) (ls : Array Slot) (ex : Int × Int × (Nat → Int)), va_P D vwCl (wd_X10_findOdds cy a_v a_v_now a_v_st a_v_isKept a_v_draft a_v_placedRow a_v_tape a_v_by a_v_told a_v_bestRow a_v_ways a_v_lanes a_v_sizes a_v_cells a_v_before v_hasOrder v_hasStart v_placed v_placedMany v_highest v_taped v_pos v_begun v_sort v_value v_fault v_wrongAt v_rightSum v_wrongSum v_allWays v_torn v_now v_st) H → va_S A s.heap H locs → lv_has ls 8 [(0, .ref a_v), (1, .int (zI x1)), (2, .int (zI x2)), (3, .int (zI x3))] → f_M_findOdds_L48 fuel v_rightSum v_wrongSum v_now v_st x1 x2 x3 = some ex → (∀ (H : Heap) (locs : List Loc) (ls : Array Slot), va_P D vwCl (wd_X10_findOdds cy a_v a_v_now a_v_st a_v_isKept a_v_draft a_v_placedRow a_v_tape a_v_by a_v_told a_v_bestRow a_v_ways a_v_lanes a_v_sizes a_v_cells a_v_before v_hasOrder v_hasStart v_placed v_placedMany v_highest v_taped v_pos v_begun v_sort v_value v_fault v_wrongAt ex.1 ex.2.1 v_allWays v_torn ex.2.2 v_st) H → va_S A s.heap H locs → lv_has ls 8 [] → W p l e { frames := 5, cells := 0, slots := 0, locals := 111 } s m args below meth c H locs 0 0 QQ (F0 m 204 ls [])) → W p l e { frames := 5, cells := 0, slots := 0, locals := 111 } s m args below meth c H locs 0 0 QQ (F0 m 48 ls []) := by
    intro fuel
    induction fuel with
    | zero => intro _ _ _ _ _ _ _ H locs ls ex hP hS hl h K; cases h
    | succ fuel ih =>
      intro v_rightSum v_wrongSum v_allWays v_now x1 x2 x3 H locs ls ex hP hS hl h K
      refine lv_iload_n hx hb dX10_findOdds_48 rfl (lv_at hl 3 rfl) ?_
      refine wi_ic hx hb dX10_findOdds_49 ?_
      refine lv_aload_n hx hb dX10_findOdds_50 rfl (lv_at hl 0 rfl) ?_
      refine wi_get (v := .ref a_v_st) hx hb hts iX10 hown hE hP 0 rfl rfl 0 (by decide) q3 rfl dX10_findOdds_51 ?_
      refine wi_bi hx hb dX10_findOdds_54 (by decide) ?_
      refine wi_iald hx hb hE hP 2 rfl (by decide) (by decide) dX10_findOdds_56 ?_
      refine wi_ishl hx hb dX10_findOdds_57 ?_
      obtain ⟨hr7, h⟩ := chk_some h
      refine wi_ic_ge (tgt := 204) hx hb dX10_findOdds_58 (by decide) hr7 (inR_of _) (fun c9 => ?_) (fun c9 => ?_)
      · have h := ite_t c9 h
        obtain rfl := Option.some.inj h
        exact K _ _ _ hP hS (lv_sub hl [] rfl)
      · have h := ite_f c9 h
        refine wi_lc (v := 1) hx hb dX10_findOdds_61 rfl ?_
        refine lv_lstore (lv' := [(4, .long (zL 1)), (0, .ref a_v), (1, .int (zI x1)), (2, .int (zI x2)), (3, .int (zI x3))]) hx hb dX10_findOdds_62 hl (by decide) rfl (fun ls hl => ?_)
        refine lv_aload_n hx hb dX10_findOdds_64 rfl (lv_at hl 1 rfl) ?_
        obtain ⟨o10, hc11, h⟩ := bnd_some h
        refine cV_v (rest := []) (w2 := (wd_X10_findOdds cy a_v a_v_now a_v_st a_v_isKept a_v_draft a_v_placedRow a_v_tape a_v_by a_v_told a_v_bestRow a_v_ways a_v_lanes a_v_sizes a_v_cells a_v_before v_hasOrder v_hasStart v_placed v_placedMany v_highest v_taped v_pos v_begun v_sort v_value v_fault v_wrongAt v_rightSum v_wrongSum v_allWays v_torn o10 v_st)) ⟨hx, hb, hml, hown, hts⟩ (c_X10_fetches l D cy sa a_v a_v_now a_v_st a_v_isKept a_v_draft a_v_placedRow a_v_tape a_v_by a_v_told a_v_bestRow a_v_ways a_v_lanes a_v_sizes a_v_cells a_v_before v_hasOrder v_hasStart v_placed v_placedMany v_highest v_taped v_pos v_begun v_sort v_value v_fault v_wrongAt v_rightSum v_wrongSum v_allWays v_torn v_now v_st o10 hc11) (cwV 0 hts gX10_findOdds_X10_fetches rfl rfl rfl (by decide +kernel) ⟨Nat.le_of_ble_eq_true rfl, Nat.le_of_ble_eq_true rfl⟩) rfl rfl rfl hE hP hDD rfl hS [0, 1, 2] rfl rfl rfl rfl hl.1 (Nat.le_of_ble_eq_true rfl) ⟨Nat.zero_le _, Nat.zero_le _⟩ rfl dX10_findOdds_65 rfl (fun H locs hP hS => ?_)
        refine wi_ic hx hb dX10_findOdds_68 ?_
        refine lv_istore (lv' := [(6, .int (zI 0)), (4, .long (zL 1)), (0, .ref a_v), (1, .int (zI x1)), (2, .int (zI x2)), (3, .int (zI x3))]) hx hb dX10_findOdds_69 hl (by decide) rfl (fun ls hl => ?_)
        obtain ⟨o33, hx34, h⟩ := bnd_some h
        refine L71 5000 v_rightSum v_wrongSum v_allWays o10 x1 x2 x3 1 0 _ _ _ _ hP hS (lv_sub hl [2, 3, 4, 5, 1, 0] rfl) hx34 ?_
        clear hx34
        intro H locs ls hP hS hl
        refine lv_aload_n hx hb dX10_findOdds_146 rfl (lv_at hl 0 rfl) ?_
        refine lv_dup hx hb dX10_findOdds_147 rfl ?_
        refine wi_get (v := .long (zL v_rightSum)) hx hb hts iX10 hown hE hP 0 rfl rfl 21 (by decide) q0 rfl dX10_findOdds_148 ?_
        refine lv_iload_n hx hb dX10_findOdds_151 rfl (lv_at hl 2 rfl) ?_
        refine wi_bi hx hb dX10_findOdds_152 (by decide) ?_
        obtain ⟨hr35, h⟩ := chk_some h
        obtain ⟨o36, hx37, h⟩ := bnd_some h
        have J38 : ∀ (H : Heap) (locs : List Loc) (ls : Array Slot), va_P D vwCl (wd_X10_findOdds cy a_v a_v_now a_v_st a_v_isKept a_v_draft a_v_placedRow a_v_tape a_v_by a_v_told a_v_bestRow a_v_ways a_v_lanes a_v_sizes a_v_cells a_v_before v_hasOrder v_hasStart v_placed v_placedMany v_highest v_taped v_pos v_begun v_sort v_value v_fault v_wrongAt v_rightSum v_wrongSum v_allWays v_torn o33.2 v_st) H → va_S A s.heap H locs → lv_has ls 8 [(0, .ref a_v), (1, .int (zI x1)), (2, .int (zI x2)), (3, .int (zI x3)), (4, .long (zL o33.1))] → W p l e { frames := 5, cells := 0, slots := 0, locals := 111 } s m args below meth c H locs 0 0 QQ (F0 m 177 ls [.long (zL o36), .long (zL v_rightSum), .ref a_v]) := by
          intro H locs ls hP hS hl
          refine wi_ladd hx hb dX10_findOdds_177 ?_
          refine wi_put (ty := .long) (v := .long (zL (v_rightSum + o36))) (w2 := (wd_X10_findOdds cy a_v a_v_now a_v_st a_v_isKept a_v_draft a_v_placedRow a_v_tape a_v_by a_v_told a_v_bestRow a_v_ways a_v_lanes a_v_sizes a_v_cells a_v_before v_hasOrder v_hasStart v_placed v_placedMany v_highest v_taped v_pos v_begun v_sort v_value v_fault v_wrongAt (v_rightSum + o36) v_wrongSum v_allWays v_torn o33.2 v_st)) hx hb hts iX10 tyX10 tyX10_ok nmX10 hown hE hP hDD rfl hS 0 rfl rfl 21 (by decide) q0 rfl (by decide +kernel) rfl rfl (Nat.le_of_ble_eq_true rfl) dX10_findOdds_178 rfl (fun H locs hP hS => ?_)
          refine lv_aload_n hx hb dX10_findOdds_181 rfl (lv_at hl 0 rfl) ?_
          refine lv_dup hx hb dX10_findOdds_182 rfl ?_
          refine wi_get (v := .long (zL v_wrongSum)) hx hb hts iX10 hown hE hP 0 rfl rfl 22 (by decide) q1 rfl dX10_findOdds_183 ?_
          refine lv_lload hx hb dX10_findOdds_186 (lv_at hl 4 rfl) ?_
          refine lv_aload_n hx hb dX10_findOdds_188 rfl (lv_at hl 0 rfl) ?_
          obtain ⟨o39, hc40, h⟩ := bnd_some h
          refine cV_i (rest := [.long (zL o33.1), .long (zL v_wrongSum), .ref a_v]) (w2 := (wd_X10_findOdds cy a_v a_v_now a_v_st a_v_isKept a_v_draft a_v_placedRow a_v_tape a_v_by a_v_told a_v_bestRow a_v_ways a_v_lanes a_v_sizes a_v_cells a_v_before v_hasOrder v_hasStart v_placed v_placedMany v_highest v_taped v_pos v_begun v_sort v_value v_fault v_wrongAt (v_rightSum + o36) v_wrongSum v_allWays v_torn o33.2 v_st)) ⟨hx, hb, hml, hown, hts⟩ (c_X10_allWrong l D cy sa a_v a_v_now a_v_st a_v_isKept a_v_draft a_v_placedRow a_v_tape a_v_by a_v_told a_v_bestRow a_v_ways a_v_lanes a_v_sizes a_v_cells a_v_before v_hasOrder v_hasStart v_placed v_placedMany v_highest v_taped v_pos v_begun v_sort v_value v_fault v_wrongAt (v_rightSum + o36) v_wrongSum v_allWays v_torn o33.2 o39 hc40) (cwV 0 hts gX10_findOdds_X10_allWrong rfl rfl rfl (by decide +kernel) ⟨Nat.le_of_ble_eq_true rfl, Nat.le_of_ble_eq_true rfl⟩) rfl rfl rfl hE hP hDD rfl hS [0, 1] rfl rfl rfl rfl hl.1 (Nat.le_of_ble_eq_true rfl) ⟨Nat.zero_le _, Nat.zero_le _⟩ rfl dX10_findOdds_189 rfl (fun H locs hP hS => ?_)
          obtain ⟨hr41, h⟩ := chk_some h
          refine wi_i2l hx hb dX10_findOdds_192 hr41 ?_
          refine wi_lmul hx hb dX10_findOdds_193 ?_
          refine wi_ladd hx hb dX10_findOdds_194 ?_
          refine wi_put (ty := .long) (v := .long (zL (v_wrongSum + (o33.1 * o39)))) (w2 := (wd_X10_findOdds cy a_v a_v_now a_v_st a_v_isKept a_v_draft a_v_placedRow a_v_tape a_v_by a_v_told a_v_bestRow a_v_ways a_v_lanes a_v_sizes a_v_cells a_v_before v_hasOrder v_hasStart v_placed v_placedMany v_highest v_taped v_pos v_begun v_sort v_value v_fault v_wrongAt (v_rightSum + o36) (v_wrongSum + (o33.1 * o39)) v_allWays v_torn o33.2 v_st)) hx hb hts iX10 tyX10 tyX10_ok nmX10 hown hE hP hDD rfl hS 0 rfl rfl 22 (by decide) q1 rfl (by decide +kernel) rfl rfl (Nat.le_of_ble_eq_true rfl) dX10_findOdds_195 rfl (fun H locs hP hS => ?_)
          refine wi_iinc (k := 3) (lv' := [(3, .int (zI (x3 + 1))), (0, .ref a_v), (1, .int (zI x1)), (2, .int (zI x2)), (4, .long (zL o33.1))]) hx hb dX10_findOdds_198 hl rfl (by decide) rfl (fun ls hl => ?_)
          refine lv_goto (tgt := 48) hx hb dX10_findOdds_201 (by decide) ?_
          exact ih (v_rightSum + o36) (v_wrongSum + (o33.1 * o39)) v_allWays o33.2 x1 x2 (x3 + 1) _ _ _ _ hP hS (lv_sub hl [1, 2, 3, 0] rfl) h K
        clear h
        have h := hx37
        clear hx37
        refine wi_ic_eq (tgt := 176) hx hb dX10_findOdds_154 (by decide) hr35 (by decide) (fun c42 => ?_) (fun c42 => ?_)
        · have h := ite_t c42 h
          refine wi_lc (v := 0) hx hb dX10_findOdds_176 rfl ?_
          obtain rfl := Option.some.inj h
          exact J38 _ _ _ hP hS (lv_sub hl [0, 1, 2, 3, 4] rfl)
        · have h := ite_f c42 h
          refine lv_aload_n hx hb dX10_findOdds_157 rfl (lv_at hl 0 rfl) ?_
          refine lv_iload_n hx hb dX10_findOdds_158 rfl (lv_at hl 2 rfl) ?_
          obtain ⟨o43, hc44, h⟩ := bnd_some h
          refine cV_i (rest := [.long (zL v_rightSum), .ref a_v]) (w2 := (wd_X10_findOdds cy a_v a_v_now a_v_st a_v_isKept a_v_draft a_v_placedRow a_v_tape a_v_by a_v_told a_v_bestRow a_v_ways a_v_lanes a_v_sizes a_v_cells a_v_before v_hasOrder v_hasStart v_placed v_placedMany v_highest v_taped v_pos v_begun v_sort v_value v_fault v_wrongAt v_rightSum v_wrongSum v_allWays v_torn o33.2 v_st)) ⟨hx, hb, hml, hown, hts⟩ (c_X10_ownHour l D cy sa a_v a_v_now a_v_st a_v_isKept a_v_draft a_v_placedRow a_v_tape a_v_by a_v_told a_v_bestRow a_v_ways a_v_lanes a_v_sizes a_v_cells a_v_before v_hasOrder v_hasStart v_placed v_placedMany v_highest v_taped v_pos v_begun v_sort v_value v_fault v_wrongAt v_rightSum v_wrongSum v_allWays v_torn o33.2 x2 o43 hc44) (cwV 1 hts gX10_findOdds_X10_ownHour rfl rfl rfl (by decide +kernel) ⟨Nat.le_of_ble_eq_true rfl, Nat.le_of_ble_eq_true rfl⟩) rfl rfl rfl hE hP hDD rfl hS [0, 1] rfl rfl rfl rfl hl.1 (Nat.le_of_ble_eq_true rfl) ⟨Nat.zero_le _, Nat.zero_le _⟩ rfl dX10_findOdds_159 rfl (fun H locs hP hS => ?_)
          refine lv_aload_n hx hb dX10_findOdds_162 rfl (lv_at hl 0 rfl) ?_
          refine lv_iload_n hx hb dX10_findOdds_163 rfl (lv_at hl 2 rfl) ?_
          refine wi_ic hx hb dX10_findOdds_164 ?_
          obtain ⟨o45, hc46, h⟩ := bnd_some h
          refine cV_i (rest := [.int (zI o43), .long (zL v_rightSum), .ref a_v]) (w2 := (wd_X10_findOdds cy a_v a_v_now a_v_st a_v_isKept a_v_draft a_v_placedRow a_v_tape a_v_by a_v_told a_v_bestRow a_v_ways a_v_lanes a_v_sizes a_v_cells a_v_before v_hasOrder v_hasStart v_placed v_placedMany v_highest v_taped v_pos v_begun v_sort v_value v_fault v_wrongAt v_rightSum v_wrongSum v_allWays v_torn o33.2 v_st)) ⟨hx, hb, hml, hown, hts⟩ (c_X10_of l D cy sa a_v a_v_now a_v_st a_v_isKept a_v_draft a_v_placedRow a_v_tape a_v_by a_v_told a_v_bestRow a_v_ways a_v_lanes a_v_sizes a_v_cells a_v_before v_hasOrder v_hasStart v_placed v_placedMany v_highest v_taped v_pos v_begun v_sort v_value v_fault v_wrongAt v_rightSum v_wrongSum v_allWays v_torn o33.2 x2 2 o45 hc46) (cwV 2 hts gX10_findOdds_X10_of rfl rfl rfl (by decide +kernel) ⟨Nat.le_of_ble_eq_true rfl, Nat.le_of_ble_eq_true rfl⟩) rfl rfl rfl hE hP hDD rfl hS [0, 1] rfl rfl rfl rfl hl.1 (Nat.le_of_ble_eq_true rfl) ⟨Nat.zero_le _, Nat.zero_le _⟩ rfl dX10_findOdds_165 rfl (fun H locs hP hS => ?_)
          obtain ⟨hr47, h⟩ := chk_some h
          obtain ⟨hr48, h⟩ := chk_some h
          refine wi_ic_ne (tgt := 176) hx hb dX10_findOdds_168 (by decide) hr47 hr48 (fun c50 => ?_) (fun c50 => ?_)
          · have h := ite_f c50 h
            refine wi_lc (v := 0) hx hb dX10_findOdds_176 rfl ?_
            obtain rfl := Option.some.inj h
            exact J38 _ _ _ hP hS (lv_sub hl [0, 1, 2, 3, 4] rfl)
          · have h := ite_t c50 h
            refine lv_lload hx hb dX10_findOdds_171 (lv_at hl 4 rfl) ?_
            refine lv_goto (tgt := 177) hx hb dX10_findOdds_173 (by decide) ?_
            obtain rfl := Option.some.inj h
            exact J38 _ _ _ hP hS (lv_sub hl [0, 1, 2, 3, 4] rfl)
  refine lv_aload_n hx hb dX10_findOdds_0 rfl (lv_at hl 0 rfl) ?_
  refine wi_lc (v := 0) hx hb dX10_findOdds_1 rfl ?_
  refine wi_put (ty := .long) (v := .long (zL 0)) (w2 := (wd_X10_findOdds cy a_v a_v_now a_v_st a_v_isKept a_v_draft a_v_placedRow a_v_tape a_v_by a_v_told a_v_bestRow a_v_ways a_v_lanes a_v_sizes a_v_cells a_v_before v_hasOrder v_hasStart v_placed v_placedMany v_highest v_taped v_pos v_begun v_sort v_value v_fault v_wrongAt 0 v_wrongSum v_allWays v_torn v_now v_st)) hx hb hts iX10 tyX10 tyX10_ok nmX10 hown hE hP hDD rfl hS 0 rfl rfl 21 (by decide) q0 rfl (by decide +kernel) rfl rfl (Nat.le_of_ble_eq_true rfl) dX10_findOdds_2 rfl (fun H locs hP hS => ?_)
  refine lv_aload_n hx hb dX10_findOdds_5 rfl (lv_at hl 0 rfl) ?_
  refine wi_lc (v := 0) hx hb dX10_findOdds_6 rfl ?_
  refine wi_put (ty := .long) (v := .long (zL 0)) (w2 := (wd_X10_findOdds cy a_v a_v_now a_v_st a_v_isKept a_v_draft a_v_placedRow a_v_tape a_v_by a_v_told a_v_bestRow a_v_ways a_v_lanes a_v_sizes a_v_cells a_v_before v_hasOrder v_hasStart v_placed v_placedMany v_highest v_taped v_pos v_begun v_sort v_value v_fault v_wrongAt 0 0 v_allWays v_torn v_now v_st)) hx hb hts iX10 tyX10 tyX10_ok nmX10 hown hE hP hDD rfl hS 0 rfl rfl 22 (by decide) q1 rfl (by decide +kernel) rfl rfl (Nat.le_of_ble_eq_true rfl) dX10_findOdds_7 rfl (fun H locs hP hS => ?_)
  refine lv_aload_n hx hb dX10_findOdds_10 rfl (lv_at hl 0 rfl) ?_
  refine wi_lc (v := 1) hx hb dX10_findOdds_11 rfl ?_
  refine wi_put (ty := .long) (v := .long (zL 1)) (w2 := (wd_X10_findOdds cy a_v a_v_now a_v_st a_v_isKept a_v_draft a_v_placedRow a_v_tape a_v_by a_v_told a_v_bestRow a_v_ways a_v_lanes a_v_sizes a_v_cells a_v_before v_hasOrder v_hasStart v_placed v_placedMany v_highest v_taped v_pos v_begun v_sort v_value v_fault v_wrongAt 0 0 1 v_torn v_now v_st)) hx hb hts iX10 tyX10 tyX10_ok nmX10 hown hE hP hDD rfl hS 0 rfl rfl 23 (by decide) q2 rfl (by decide +kernel) rfl rfl (Nat.le_of_ble_eq_true rfl) dX10_findOdds_12 rfl (fun H locs hP hS => ?_)
  refine wi_ic hx hb dX10_findOdds_15 ?_
  refine lv_istore_n (lv' := [(3, .int (zI 0)), (0, .ref a_v), (1, .int (zI x1)), (2, .int (zI x2))]) hx hb dX10_findOdds_16 rfl hl (by decide) rfl (fun ls hl => ?_)
  obtain ⟨o5, hx6, h⟩ := bnd_some h
  refine L17 5000 0 0 1 v_now x1 x2 0 _ _ _ _ hP hS (lv_sub hl [1, 2, 3, 0] rfl) hx6 ?_
  clear hx6
  intro H locs ls hP hS hl
  refine wi_ic hx hb dX10_findOdds_46 ?_
  refine lv_istore_n (lv' := [(3, .int (zI 0)), (0, .ref a_v), (1, .int (zI x1)), (2, .int (zI x2))]) hx hb dX10_findOdds_47 rfl hl (by decide) rfl (fun ls hl => ?_)
  obtain ⟨o51, hx52, h⟩ := bnd_some h
  refine L48 5000 0 0 o5 v_now x1 x2 0 _ _ _ _ hP hS (lv_sub hl [1, 2, 3, 0] rfl) hx52 ?_
  clear hx52
  intro H locs ls hP hS hl
  obtain rfl := Option.some.inj h
  exact KR _ _ _ _ hP hS dX10_findOdds_204
abbrev wd_X10_luck (cy : Nat → ClassId) (a_v : Nat) (a_v_now : Nat) (a_v_st : Nat) (a_v_isKept : Nat) (a_v_draft : Nat) (a_v_placedRow : Nat) (a_v_tape : Nat) (a_v_by : Nat) (a_v_told : Nat) (a_v_bestRow : Nat) (a_v_ways : Nat) (a_v_lanes : Nat) (a_v_sizes : Nat) (a_v_cells : Nat) (a_v_before : Nat) (v_hasOrder : Int) (v_hasStart : Int) (v_placed : Int) (v_placedMany : Int) (v_highest : Int) (v_taped : Int) (v_pos : Int) (v_begun : Int) (v_sort : Int) (v_value : Int) (v_fault : Int) (v_wrongAt : Int) (v_rightSum : Int) (v_wrongSum : Int) (v_allWays : Int) (v_torn : Int) (v_now : Nat → Int) (v_st : Nat → Int) : va_W := [(a_v, .inr (10, [.ref a_v_st, .ref a_v_now, .ref a_v_isKept, .ref a_v_draft, .int (zI v_hasOrder), .int (zI v_hasStart), .int (zI v_placed), .int (zI v_placedMany), .ref a_v_placedRow, .int (zI v_highest), .ref a_v_tape, .int (zI v_taped), .int (zI v_pos), .int (zI v_begun), .int (zI v_sort), .int (zI v_value), .int (zI v_fault), .int (zI v_wrongAt), .ref a_v_by, .ref a_v_told, .ref a_v_bestRow, .long (zL v_rightSum), .long (zL v_wrongSum), .long (zL v_allWays), .ref a_v_ways, .ref a_v_lanes, .ref a_v_sizes, .ref a_v_cells, .int (zI v_torn), .ref a_v_before])), (a_v_now, .inl (cy 0, 56, .inl (fun j => zI (v_now j)))), (a_v_st, .inl (cy 0, 168, .inl (fun j => zI (v_st j))))]
set_option maxHeartbeats 4000000 in
set_option maxRecDepth 100000 in
theorem c_X10_luck (l : Launch) (D : va_G) (cy : Nat → ClassId) (sa : Nat → Nat) (a_v : Nat) (a_v_now : Nat) (a_v_st : Nat) (a_v_isKept : Nat) (a_v_draft : Nat) (a_v_placedRow : Nat) (a_v_tape : Nat) (a_v_by : Nat) (a_v_told : Nat) (a_v_bestRow : Nat) (a_v_ways : Nat) (a_v_lanes : Nat) (a_v_sizes : Nat) (a_v_cells : Nat) (a_v_before : Nat) (v_hasOrder : Int) (v_hasStart : Int) (v_placed : Int) (v_placedMany : Int) (v_highest : Int) (v_taped : Int) (v_pos : Int) (v_begun : Int) (v_sort : Int) (v_value : Int) (v_fault : Int) (v_wrongAt : Int) (v_rightSum : Int) (v_wrongSum : Int) (v_allWays : Int) (v_torn : Int) (v_now : Nat → Int) (v_st : Nat → Int) (x1 : Int) (x2 : Int) (x3 : Int) (o : Int × Int × Int × Int × (Nat → Int)) (h : f_M_luck v_rightSum v_wrongSum v_allWays v_now v_st x1 x2 x3 = some o) : CtL l yX10_luck wsX10_luck ({ frames := 6, cells := 0, slots := 0, locals := 138 }) D cy sa [.ref a_v, .int (zI x1), .int (zI x2), .int (zI x3)] (wd_X10_luck cy a_v a_v_now a_v_st a_v_isKept a_v_draft a_v_placedRow a_v_tape a_v_by a_v_told a_v_bestRow a_v_ways a_v_lanes a_v_sizes a_v_cells a_v_before v_hasOrder v_hasStart v_placed v_placedMany v_highest v_taped v_pos v_begun v_sort v_value v_fault v_wrongAt v_rightSum v_wrongSum v_allWays v_torn v_now v_st) (wd_X10_luck cy a_v a_v_now a_v_st a_v_isKept a_v_draft a_v_placedRow a_v_tape a_v_by a_v_told a_v_bestRow a_v_ways a_v_lanes a_v_sizes a_v_cells a_v_before v_hasOrder v_hasStart v_placed v_placedMany v_highest v_taped v_pos v_begun v_sort v_value v_fault v_wrongAt o.2.1 o.2.2.1 o.2.2.2.1 v_torn o.2.2.2.2 v_st) o.1 := by
  refine ct_L (cc := cX10_luck) (maxL := 4) (plainFor_of_name (by decide)) rfl (Nat.le_of_ble_eq_true rfl) ?_
  intro p e s m below meth c A args QQ hx hb hml hown hts hE hDD hP KR ls hl
  have hl : lv_has ls 4 [(0, .ref a_v), (1, .int (zI x1)), (2, .int (zI x2)), (3, .int (zI x3))] := hl
  have hDD : DD A [a_v, a_v_now, a_v_st] := hDD
  have hS : va_S A s.heap s.heap [] := va_S.rf
  have q0 := hts (.constantLong RX10 258 (10)) (List.mem_of_getElem? (i := 1) rfl)
  have q1 := hts (.constantLong RX10 260 (-1)) (List.mem_of_getElem? (i := 2) rfl)
  have q2 := hts (.fieldLink RX10 248 "HatHoursModel" "rightSum" "J") (List.mem_of_getElem? (i := 3) rfl)
  have q3 := hts (.fieldLink RX10 255 "HatHoursModel" "allWays" "J") (List.mem_of_getElem? (i := 4) rfl)
  have iX10 : ∀ w ∈ u_ws RX10 TX10 30, w ∈ wsX10_luck := in_slice 67 30 rfl
  refine lv_iload_n hx hb dX10_luck_0 rfl (lv_at hl 1 rfl) ?_
  obtain ⟨hr1, h⟩ := chk_some h
  refine wi_i2l hx hb dX10_luck_1 hr1 ?_
  refine wi_lc (v := 0) hx hb dX10_luck_2 rfl ?_
  refine wi_ldc2 (n := 10) hx hb hown q0 dX10_luck_3 rfl ?_
  obtain ⟨o2, hc3, h⟩ := bnd_some h
  refine cS_i (rest := []) (w2 := (wd_X10_luck cy a_v a_v_now a_v_st a_v_isKept a_v_draft a_v_placedRow a_v_tape a_v_by a_v_told a_v_bestRow a_v_ways a_v_lanes a_v_sizes a_v_cells a_v_before v_hasOrder v_hasStart v_placed v_placedMany v_highest v_taped v_pos v_begun v_sort v_value v_fault v_wrongAt v_rightSum v_wrongSum v_allWays v_torn v_now v_st)) ⟨hx, hb, hml, hown, hts⟩ (c_X10_in l D cy sa x1 0 10 o2 hc3) (va_cwS 3 hts gX10_luck_X10_in rfl rfl rfl (by decide +kernel) ⟨Nat.le_of_ble_eq_true rfl, Nat.le_of_ble_eq_true rfl⟩) hE hP hDD rfl hS [] rfl rfl rfl rfl hl.1 (Nat.le_of_ble_eq_true rfl) ⟨Nat.zero_le _, Nat.zero_le _⟩ rfl dX10_luck_6 rfl (fun H locs hP hS => ?_)
  obtain ⟨hr4, h⟩ := chk_some h
  refine wi_if_eq (tgt := 27) hx hb dX10_luck_9 (by decide) hr4 (fun c6 => ?_) (fun c6 => ?_)
  · have h := ite_t c6 h
    refine wi_ldc2 (n := -1) hx hb hown q1 dX10_luck_27 rfl ?_
    obtain rfl := Option.some.inj h
    exact KR _ _ _ _ hP hS dX10_luck_30
  · have h := ite_f c6 h
    refine lv_aload_n hx hb dX10_luck_12 rfl (lv_at hl 0 rfl) ?_
    refine lv_iload_n hx hb dX10_luck_13 rfl (lv_at hl 2 rfl) ?_
    obtain ⟨o7, hc8, h⟩ := bnd_some h
    refine cV_i (rest := []) (w2 := (wd_X10_luck cy a_v a_v_now a_v_st a_v_isKept a_v_draft a_v_placedRow a_v_tape a_v_by a_v_told a_v_bestRow a_v_ways a_v_lanes a_v_sizes a_v_cells a_v_before v_hasOrder v_hasStart v_placed v_placedMany v_highest v_taped v_pos v_begun v_sort v_value v_fault v_wrongAt v_rightSum v_wrongSum v_allWays v_torn v_now v_st)) ⟨hx, hb, hml, hown, hts⟩ (c_X10_isBox l D cy sa a_v a_v_st a_v_now a_v_isKept a_v_draft a_v_placedRow a_v_tape a_v_by a_v_told a_v_bestRow a_v_ways a_v_lanes a_v_sizes a_v_cells a_v_before v_hasOrder v_hasStart v_placed v_placedMany v_highest v_taped v_pos v_begun v_sort v_value v_fault v_wrongAt v_rightSum v_wrongSum v_allWays v_torn v_st x2 o7 hc8) (cwV 1 hts gX10_luck_X10_isBox rfl rfl rfl (by decide +kernel) ⟨Nat.le_of_ble_eq_true rfl, Nat.le_of_ble_eq_true rfl⟩) rfl rfl rfl hE hP hDD rfl hS [0, 2] rfl rfl rfl rfl hl.1 (Nat.le_of_ble_eq_true rfl) ⟨Nat.zero_le _, Nat.zero_le _⟩ rfl dX10_luck_14 rfl (fun H locs hP hS => ?_)
    obtain ⟨hr9, h⟩ := chk_some h
    refine wi_if_eq (tgt := 27) hx hb dX10_luck_17 (by decide) hr9 (fun c11 => ?_) (fun c11 => ?_)
    · have h := ite_t c11 h
      refine wi_ldc2 (n := -1) hx hb hown q1 dX10_luck_27 rfl ?_
      obtain rfl := Option.some.inj h
      exact KR _ _ _ _ hP hS dX10_luck_30
    · have h := ite_f c11 h
      refine lv_iload_n hx hb dX10_luck_20 rfl (lv_at hl 3 rfl) ?_
      obtain ⟨o12, hc13, h⟩ := bnd_some h
      refine cS_i (rest := []) (w2 := (wd_X10_luck cy a_v a_v_now a_v_st a_v_isKept a_v_draft a_v_placedRow a_v_tape a_v_by a_v_told a_v_bestRow a_v_ways a_v_lanes a_v_sizes a_v_cells a_v_before v_hasOrder v_hasStart v_placed v_placedMany v_highest v_taped v_pos v_begun v_sort v_value v_fault v_wrongAt v_rightSum v_wrongSum v_allWays v_torn v_now v_st)) ⟨hx, hb, hml, hown, hts⟩ (c_X10_isPart l D cy sa x3 o12 hc13) (va_cwS 1 hts gX10_luck_X10_isPart rfl rfl rfl (by decide +kernel) ⟨Nat.le_of_ble_eq_true rfl, Nat.le_of_ble_eq_true rfl⟩) hE hP hDD rfl hS [] rfl rfl rfl rfl hl.1 (Nat.le_of_ble_eq_true rfl) ⟨Nat.zero_le _, Nat.zero_le _⟩ rfl dX10_luck_21 rfl (fun H locs hP hS => ?_)
      obtain ⟨hr14, h⟩ := chk_some h
      refine wi_if_ne (tgt := 31) hx hb dX10_luck_24 (by decide) hr14 (fun c16 => ?_) (fun c16 => ?_)
      · have h := ite_f c16 h
        refine lv_aload_n hx hb dX10_luck_31 rfl (lv_at hl 0 rfl) ?_
        refine lv_iload_n hx hb dX10_luck_32 rfl (lv_at hl 1 rfl) ?_
        refine lv_iload_n hx hb dX10_luck_33 rfl (lv_at hl 2 rfl) ?_
        obtain ⟨o17, hc18, h⟩ := bnd_some h
        refine cV_v (rest := []) (w2 := (wd_X10_luck cy a_v a_v_now a_v_st a_v_isKept a_v_draft a_v_placedRow a_v_tape a_v_by a_v_told a_v_bestRow a_v_ways a_v_lanes a_v_sizes a_v_cells a_v_before v_hasOrder v_hasStart v_placed v_placedMany v_highest v_taped v_pos v_begun v_sort v_value v_fault v_wrongAt o17.1 o17.2.1 o17.2.2.1 v_torn o17.2.2.2 v_st)) ⟨hx, hb, hml, hown, hts⟩ (c_X10_findOdds l D cy sa a_v a_v_now a_v_st a_v_isKept a_v_draft a_v_placedRow a_v_tape a_v_by a_v_told a_v_bestRow a_v_ways a_v_lanes a_v_sizes a_v_cells a_v_before v_hasOrder v_hasStart v_placed v_placedMany v_highest v_taped v_pos v_begun v_sort v_value v_fault v_wrongAt v_rightSum v_wrongSum v_allWays v_torn v_now v_st x1 x2 o17 hc18) (cwV 2 hts gX10_luck_X10_findOdds rfl rfl rfl (by decide +kernel) ⟨Nat.le_of_ble_eq_true rfl, Nat.le_of_ble_eq_true rfl⟩) rfl rfl rfl hE hP hDD rfl hS [0, 1, 2] rfl rfl rfl rfl hl.1 (Nat.le_of_ble_eq_true rfl) ⟨Nat.zero_le _, Nat.zero_le _⟩ rfl dX10_luck_34 rfl (fun H locs hP hS => ?_)
        refine lv_aload_n hx hb dX10_luck_37 rfl (lv_at hl 0 rfl) ?_
        refine wi_get (v := .long (zL o17.1)) hx hb hts iX10 hown hE hP 0 rfl rfl 21 (by decide) q2 rfl dX10_luck_38 ?_
        refine lv_aload_n hx hb dX10_luck_41 rfl (lv_at hl 0 rfl) ?_
        refine wi_get (v := .long (zL o17.2.2.1)) hx hb hts iX10 hown hE hP 0 rfl rfl 23 (by decide) q3 rfl dX10_luck_42 ?_
        refine lv_iload_n hx hb dX10_luck_45 rfl (lv_at hl 3 rfl) ?_
        obtain ⟨o19, hc20, h⟩ := bnd_some h
        refine cS_l (rest := []) (w2 := (wd_X10_luck cy a_v a_v_now a_v_st a_v_isKept a_v_draft a_v_placedRow a_v_tape a_v_by a_v_told a_v_bestRow a_v_ways a_v_lanes a_v_sizes a_v_cells a_v_before v_hasOrder v_hasStart v_placed v_placedMany v_highest v_taped v_pos v_begun v_sort v_value v_fault v_wrongAt o17.1 o17.2.1 o17.2.2.1 v_torn o17.2.2.2 v_st)) ⟨hx, hb, hml, hown, hts⟩ (c_X10_lowest l D cy sa o17.1 o17.2.2.1 x3 o19 hc20) (va_cwS 3 hts gX10_luck_X10_lowest rfl rfl rfl (by decide +kernel) ⟨Nat.le_of_ble_eq_true rfl, Nat.le_of_ble_eq_true rfl⟩) hE hP hDD rfl hS [] rfl rfl rfl rfl hl.1 (Nat.le_of_ble_eq_true rfl) ⟨Nat.zero_le _, Nat.zero_le _⟩ rfl dX10_luck_46 rfl (fun H locs hP hS => ?_)
        obtain rfl := Option.some.inj h
        exact KR _ _ _ _ hP hS dX10_luck_49
      · have h := ite_t c16 h
        refine wi_ldc2 (n := -1) hx hb hown q1 dX10_luck_27 rfl ?_
        obtain rfl := Option.some.inj h
        exact KR _ _ _ _ hP hS dX10_luck_30
abbrev wd_X10_mean (cy : Nat → ClassId) (a_v : Nat) (a_v_now : Nat) (a_v_st : Nat) (a_v_isKept : Nat) (a_v_draft : Nat) (a_v_placedRow : Nat) (a_v_tape : Nat) (a_v_by : Nat) (a_v_told : Nat) (a_v_bestRow : Nat) (a_v_ways : Nat) (a_v_lanes : Nat) (a_v_sizes : Nat) (a_v_cells : Nat) (a_v_before : Nat) (v_hasOrder : Int) (v_hasStart : Int) (v_placed : Int) (v_placedMany : Int) (v_highest : Int) (v_taped : Int) (v_pos : Int) (v_begun : Int) (v_sort : Int) (v_value : Int) (v_fault : Int) (v_wrongAt : Int) (v_rightSum : Int) (v_wrongSum : Int) (v_allWays : Int) (v_torn : Int) (v_now : Nat → Int) (v_st : Nat → Int) : va_W := [(a_v, .inr (10, [.ref a_v_st, .ref a_v_now, .ref a_v_isKept, .ref a_v_draft, .int (zI v_hasOrder), .int (zI v_hasStart), .int (zI v_placed), .int (zI v_placedMany), .ref a_v_placedRow, .int (zI v_highest), .ref a_v_tape, .int (zI v_taped), .int (zI v_pos), .int (zI v_begun), .int (zI v_sort), .int (zI v_value), .int (zI v_fault), .int (zI v_wrongAt), .ref a_v_by, .ref a_v_told, .ref a_v_bestRow, .long (zL v_rightSum), .long (zL v_wrongSum), .long (zL v_allWays), .ref a_v_ways, .ref a_v_lanes, .ref a_v_sizes, .ref a_v_cells, .int (zI v_torn), .ref a_v_before])), (a_v_now, .inl (cy 0, 56, .inl (fun j => zI (v_now j)))), (a_v_st, .inl (cy 0, 168, .inl (fun j => zI (v_st j))))]
set_option maxHeartbeats 4000000 in
set_option maxRecDepth 100000 in
theorem c_X10_mean (l : Launch) (D : va_G) (cy : Nat → ClassId) (sa : Nat → Nat) (a_v : Nat) (a_v_now : Nat) (a_v_st : Nat) (a_v_isKept : Nat) (a_v_draft : Nat) (a_v_placedRow : Nat) (a_v_tape : Nat) (a_v_by : Nat) (a_v_told : Nat) (a_v_bestRow : Nat) (a_v_ways : Nat) (a_v_lanes : Nat) (a_v_sizes : Nat) (a_v_cells : Nat) (a_v_before : Nat) (v_hasOrder : Int) (v_hasStart : Int) (v_placed : Int) (v_placedMany : Int) (v_highest : Int) (v_taped : Int) (v_pos : Int) (v_begun : Int) (v_sort : Int) (v_value : Int) (v_fault : Int) (v_wrongAt : Int) (v_rightSum : Int) (v_wrongSum : Int) (v_allWays : Int) (v_torn : Int) (v_now : Nat → Int) (v_st : Nat → Int) (x1 : Int) (x2 : Int) (o : Int × Int × Int × Int × (Nat → Int)) (h : f_M_mean v_rightSum v_wrongSum v_allWays v_now v_st x1 x2 = some o) : CtL l yX10_mean wsX10_mean ({ frames := 6, cells := 0, slots := 0, locals := 138 }) D cy sa [.ref a_v, .int (zI x1), .int (zI x2)] (wd_X10_mean cy a_v a_v_now a_v_st a_v_isKept a_v_draft a_v_placedRow a_v_tape a_v_by a_v_told a_v_bestRow a_v_ways a_v_lanes a_v_sizes a_v_cells a_v_before v_hasOrder v_hasStart v_placed v_placedMany v_highest v_taped v_pos v_begun v_sort v_value v_fault v_wrongAt v_rightSum v_wrongSum v_allWays v_torn v_now v_st) (wd_X10_mean cy a_v a_v_now a_v_st a_v_isKept a_v_draft a_v_placedRow a_v_tape a_v_by a_v_told a_v_bestRow a_v_ways a_v_lanes a_v_sizes a_v_cells a_v_before v_hasOrder v_hasStart v_placed v_placedMany v_highest v_taped v_pos v_begun v_sort v_value v_fault v_wrongAt o.2.1 o.2.2.1 o.2.2.2.1 v_torn o.2.2.2.2 v_st) o.1 := by
  refine ct_L (cc := cX10_mean) (maxL := 3) (plainFor_of_name (by decide)) rfl (Nat.le_of_ble_eq_true rfl) ?_
  intro p e s m below meth c A args QQ hx hb hml hown hts hE hDD hP KR ls hl
  have hl : lv_has ls 3 [(0, .ref a_v), (1, .int (zI x1)), (2, .int (zI x2))] := hl
  have hDD : DD A [a_v, a_v_now, a_v_st] := hDD
  have hS : va_S A s.heap s.heap [] := va_S.rf
  have q0 := hts (.constantLong RX10 258 (10)) (List.mem_of_getElem? (i := 1) rfl)
  have q1 := hts (.constantLong RX10 260 (-1)) (List.mem_of_getElem? (i := 2) rfl)
  have q2 := hts (.fieldLink RX10 252 "HatHoursModel" "wrongSum" "J") (List.mem_of_getElem? (i := 3) rfl)
  have q3 := hts (.fieldLink RX10 255 "HatHoursModel" "allWays" "J") (List.mem_of_getElem? (i := 4) rfl)
  have iX10 : ∀ w ∈ u_ws RX10 TX10 30, w ∈ wsX10_mean := in_slice 63 30 rfl
  refine lv_iload_n hx hb dX10_mean_0 rfl (lv_at hl 1 rfl) ?_
  obtain ⟨hr1, h⟩ := chk_some h
  refine wi_i2l hx hb dX10_mean_1 hr1 ?_
  refine wi_lc (v := 0) hx hb dX10_mean_2 rfl ?_
  refine wi_ldc2 (n := 10) hx hb hown q0 dX10_mean_3 rfl ?_
  obtain ⟨o2, hc3, h⟩ := bnd_some h
  refine cS_i (rest := []) (w2 := (wd_X10_mean cy a_v a_v_now a_v_st a_v_isKept a_v_draft a_v_placedRow a_v_tape a_v_by a_v_told a_v_bestRow a_v_ways a_v_lanes a_v_sizes a_v_cells a_v_before v_hasOrder v_hasStart v_placed v_placedMany v_highest v_taped v_pos v_begun v_sort v_value v_fault v_wrongAt v_rightSum v_wrongSum v_allWays v_torn v_now v_st)) ⟨hx, hb, hml, hown, hts⟩ (c_X10_in l D cy sa x1 0 10 o2 hc3) (va_cwS 3 hts gX10_mean_X10_in rfl rfl rfl (by decide +kernel) ⟨Nat.le_of_ble_eq_true rfl, Nat.le_of_ble_eq_true rfl⟩) hE hP hDD rfl hS [] rfl rfl rfl rfl hl.1 (Nat.le_of_ble_eq_true rfl) ⟨Nat.zero_le _, Nat.zero_le _⟩ rfl dX10_mean_6 rfl (fun H locs hP hS => ?_)
  obtain ⟨hr4, h⟩ := chk_some h
  refine wi_if_eq (tgt := 19) hx hb dX10_mean_9 (by decide) hr4 (fun c6 => ?_) (fun c6 => ?_)
  · have h := ite_t c6 h
    refine wi_ldc2 (n := -1) hx hb hown q1 dX10_mean_19 rfl ?_
    obtain rfl := Option.some.inj h
    exact KR _ _ _ _ hP hS dX10_mean_22
  · have h := ite_f c6 h
    refine lv_iload_n hx hb dX10_mean_12 rfl (lv_at hl 2 rfl) ?_
    obtain ⟨o7, hc8, h⟩ := bnd_some h
    refine cS_i (rest := []) (w2 := (wd_X10_mean cy a_v a_v_now a_v_st a_v_isKept a_v_draft a_v_placedRow a_v_tape a_v_by a_v_told a_v_bestRow a_v_ways a_v_lanes a_v_sizes a_v_cells a_v_before v_hasOrder v_hasStart v_placed v_placedMany v_highest v_taped v_pos v_begun v_sort v_value v_fault v_wrongAt v_rightSum v_wrongSum v_allWays v_torn v_now v_st)) ⟨hx, hb, hml, hown, hts⟩ (c_X10_isPart l D cy sa x2 o7 hc8) (va_cwS 1 hts gX10_mean_X10_isPart rfl rfl rfl (by decide +kernel) ⟨Nat.le_of_ble_eq_true rfl, Nat.le_of_ble_eq_true rfl⟩) hE hP hDD rfl hS [] rfl rfl rfl rfl hl.1 (Nat.le_of_ble_eq_true rfl) ⟨Nat.zero_le _, Nat.zero_le _⟩ rfl dX10_mean_13 rfl (fun H locs hP hS => ?_)
    obtain ⟨hr9, h⟩ := chk_some h
    refine wi_if_ne (tgt := 23) hx hb dX10_mean_16 (by decide) hr9 (fun c11 => ?_) (fun c11 => ?_)
    · have h := ite_f c11 h
      refine lv_aload_n hx hb dX10_mean_23 rfl (lv_at hl 0 rfl) ?_
      refine lv_iload_n hx hb dX10_mean_24 rfl (lv_at hl 1 rfl) ?_
      refine wi_bi hx hb dX10_mean_25 (by decide) ?_
      obtain ⟨o12, hc13, h⟩ := bnd_some h
      refine cV_v (rest := []) (w2 := (wd_X10_mean cy a_v a_v_now a_v_st a_v_isKept a_v_draft a_v_placedRow a_v_tape a_v_by a_v_told a_v_bestRow a_v_ways a_v_lanes a_v_sizes a_v_cells a_v_before v_hasOrder v_hasStart v_placed v_placedMany v_highest v_taped v_pos v_begun v_sort v_value v_fault v_wrongAt o12.1 o12.2.1 o12.2.2.1 v_torn o12.2.2.2 v_st)) ⟨hx, hb, hml, hown, hts⟩ (c_X10_findOdds l D cy sa a_v a_v_now a_v_st a_v_isKept a_v_draft a_v_placedRow a_v_tape a_v_by a_v_told a_v_bestRow a_v_ways a_v_lanes a_v_sizes a_v_cells a_v_before v_hasOrder v_hasStart v_placed v_placedMany v_highest v_taped v_pos v_begun v_sort v_value v_fault v_wrongAt v_rightSum v_wrongSum v_allWays v_torn v_now v_st x1 (-4) o12 hc13) (cwV 2 hts gX10_mean_X10_findOdds rfl rfl rfl (by decide +kernel) ⟨Nat.le_of_ble_eq_true rfl, Nat.le_of_ble_eq_true rfl⟩) rfl rfl rfl hE hP hDD rfl hS [0, 1, 2] rfl rfl rfl rfl hl.1 (Nat.le_of_ble_eq_true rfl) ⟨Nat.zero_le _, Nat.zero_le _⟩ rfl dX10_mean_27 rfl (fun H locs hP hS => ?_)
      refine lv_aload_n hx hb dX10_mean_30 rfl (lv_at hl 0 rfl) ?_
      refine wi_get (v := .long (zL o12.2.1)) hx hb hts iX10 hown hE hP 0 rfl rfl 22 (by decide) q2 rfl dX10_mean_31 ?_
      refine lv_aload_n hx hb dX10_mean_34 rfl (lv_at hl 0 rfl) ?_
      refine wi_get (v := .long (zL o12.2.2.1)) hx hb hts iX10 hown hE hP 0 rfl rfl 23 (by decide) q3 rfl dX10_mean_35 ?_
      refine lv_iload_n hx hb dX10_mean_38 rfl (lv_at hl 2 rfl) ?_
      obtain ⟨o14, hc15, h⟩ := bnd_some h
      refine cS_l (rest := []) (w2 := (wd_X10_mean cy a_v a_v_now a_v_st a_v_isKept a_v_draft a_v_placedRow a_v_tape a_v_by a_v_told a_v_bestRow a_v_ways a_v_lanes a_v_sizes a_v_cells a_v_before v_hasOrder v_hasStart v_placed v_placedMany v_highest v_taped v_pos v_begun v_sort v_value v_fault v_wrongAt o12.1 o12.2.1 o12.2.2.1 v_torn o12.2.2.2 v_st)) ⟨hx, hb, hml, hown, hts⟩ (c_X10_lowest l D cy sa o12.2.1 o12.2.2.1 x2 o14 hc15) (va_cwS 3 hts gX10_mean_X10_lowest rfl rfl rfl (by decide +kernel) ⟨Nat.le_of_ble_eq_true rfl, Nat.le_of_ble_eq_true rfl⟩) hE hP hDD rfl hS [] rfl rfl rfl rfl hl.1 (Nat.le_of_ble_eq_true rfl) ⟨Nat.zero_le _, Nat.zero_le _⟩ rfl dX10_mean_39 rfl (fun H locs hP hS => ?_)
      obtain rfl := Option.some.inj h
      exact KR _ _ _ _ hP hS dX10_mean_42
    · have h := ite_t c11 h
      refine wi_ldc2 (n := -1) hx hb hown q1 dX10_mean_19 rfl ?_
      obtain rfl := Option.some.inj h
      exact KR _ _ _ _ hP hS dX10_mean_22
abbrev wd_X10_see (cy : Nat → ClassId) (a_v : Nat) (a_v_st : Nat) (a_v_now : Nat) (a_v_isKept : Nat) (a_v_draft : Nat) (a_v_placedRow : Nat) (a_v_tape : Nat) (a_v_by : Nat) (a_v_told : Nat) (a_v_bestRow : Nat) (a_v_ways : Nat) (a_v_lanes : Nat) (a_v_sizes : Nat) (a_v_cells : Nat) (a_v_before : Nat) (v_hasOrder : Int) (v_hasStart : Int) (v_placed : Int) (v_placedMany : Int) (v_highest : Int) (v_taped : Int) (v_pos : Int) (v_begun : Int) (v_sort : Int) (v_value : Int) (v_fault : Int) (v_wrongAt : Int) (v_rightSum : Int) (v_wrongSum : Int) (v_allWays : Int) (v_torn : Int) (v_st : Nat → Int) : va_W := [(a_v, .inr (10, [.ref a_v_st, .ref a_v_now, .ref a_v_isKept, .ref a_v_draft, .int (zI v_hasOrder), .int (zI v_hasStart), .int (zI v_placed), .int (zI v_placedMany), .ref a_v_placedRow, .int (zI v_highest), .ref a_v_tape, .int (zI v_taped), .int (zI v_pos), .int (zI v_begun), .int (zI v_sort), .int (zI v_value), .int (zI v_fault), .int (zI v_wrongAt), .ref a_v_by, .ref a_v_told, .ref a_v_bestRow, .long (zL v_rightSum), .long (zL v_wrongSum), .long (zL v_allWays), .ref a_v_ways, .ref a_v_lanes, .ref a_v_sizes, .ref a_v_cells, .int (zI v_torn), .ref a_v_before])), (a_v_st, .inl (cy 0, 168, .inl (fun j => zI (v_st j))))]
set_option maxHeartbeats 4000000 in
set_option maxRecDepth 100000 in
theorem c_X10_see (l : Launch) (D : va_G) (cy : Nat → ClassId) (sa : Nat → Nat) (a_v : Nat) (a_v_st : Nat) (a_v_now : Nat) (a_v_isKept : Nat) (a_v_draft : Nat) (a_v_placedRow : Nat) (a_v_tape : Nat) (a_v_by : Nat) (a_v_told : Nat) (a_v_bestRow : Nat) (a_v_ways : Nat) (a_v_lanes : Nat) (a_v_sizes : Nat) (a_v_cells : Nat) (a_v_before : Nat) (v_hasOrder : Int) (v_hasStart : Int) (v_placed : Int) (v_placedMany : Int) (v_highest : Int) (v_taped : Int) (v_pos : Int) (v_begun : Int) (v_sort : Int) (v_value : Int) (v_fault : Int) (v_wrongAt : Int) (v_rightSum : Int) (v_wrongSum : Int) (v_allWays : Int) (v_torn : Int) (v_st : Nat → Int) (x1 : Int) (x2 : Int) (x3 : Int) (o : Int × (Nat → Int)) (h : f_M_see v_st x1 x2 x3 = some o) : CtI l yX10_see wsX10_see ({ frames := 2, cells := 0, slots := 0, locals := 45 }) D cy sa [.ref a_v, .int (zI x1), .int (zI x2), .int (zI x3)] (wd_X10_see cy a_v a_v_st a_v_now a_v_isKept a_v_draft a_v_placedRow a_v_tape a_v_by a_v_told a_v_bestRow a_v_ways a_v_lanes a_v_sizes a_v_cells a_v_before v_hasOrder v_hasStart v_placed v_placedMany v_highest v_taped v_pos v_begun v_sort v_value v_fault v_wrongAt v_rightSum v_wrongSum v_allWays v_torn v_st) (wd_X10_see cy a_v a_v_st a_v_now a_v_isKept a_v_draft a_v_placedRow a_v_tape a_v_by a_v_told a_v_bestRow a_v_ways a_v_lanes a_v_sizes a_v_cells a_v_before v_hasOrder v_hasStart v_placed v_placedMany v_highest v_taped v_pos v_begun v_sort v_value v_fault v_wrongAt v_rightSum v_wrongSum v_allWays v_torn o.2) o.1 := by
  refine ct_I (cc := cX10_see) (maxL := 5) (plainFor_of_name (by decide)) rfl (Nat.le_of_ble_eq_true rfl) ?_
  intro p e s m below meth c A args QQ hx hb hml hown hts hE hDD hP KR ls hl
  have hl : lv_has ls 5 [(0, .ref a_v), (1, .int (zI x1)), (2, .int (zI x2)), (3, .int (zI x3))] := hl
  have hDD : DD A [a_v, a_v_st] := hDD
  have hS : va_S A s.heap s.heap [] := va_S.rf
  have q0 := hts (.fieldLink RX10 7 "HatHoursModel" "st" "[I") (List.mem_of_getElem? (i := 1) rfl)
  have iX10 : ∀ w ∈ u_ws RX10 TX10 30, w ∈ wsX10_see := in_slice 14 30 rfl
  refine lv_iload_n hx hb dX10_see_0 rfl (lv_at hl 1 rfl) ?_
  obtain ⟨o1, hc2, h⟩ := bnd_some h
  refine cS_i (rest := []) (w2 := (wd_X10_see cy a_v a_v_st a_v_now a_v_isKept a_v_draft a_v_placedRow a_v_tape a_v_by a_v_told a_v_bestRow a_v_ways a_v_lanes a_v_sizes a_v_cells a_v_before v_hasOrder v_hasStart v_placed v_placedMany v_highest v_taped v_pos v_begun v_sort v_value v_fault v_wrongAt v_rightSum v_wrongSum v_allWays v_torn v_st)) ⟨hx, hb, hml, hown, hts⟩ (c_X10_isRoom l D cy sa x1 o1 hc2) (va_cwS 1 hts gX10_see_X10_isRoom rfl rfl rfl (by decide +kernel) ⟨Nat.le_of_ble_eq_true rfl, Nat.le_of_ble_eq_true rfl⟩) hE hP hDD rfl hS [] rfl rfl rfl rfl hl.1 (Nat.le_of_ble_eq_true rfl) ⟨Nat.zero_le _, Nat.zero_le _⟩ rfl dX10_see_1 rfl (fun H locs hP hS => ?_)
  obtain ⟨hr3, h⟩ := chk_some h
  refine wi_if_eq (tgt := 21) hx hb dX10_see_4 (by decide) hr3 (fun c5 => ?_) (fun c5 => ?_)
  · have h := ite_t c5 h
    refine wi_ic hx hb dX10_see_21 ?_
    obtain rfl := Option.some.inj h
    exact KR _ _ _ _ hP hS dX10_see_22
  · have h := ite_f c5 h
    refine lv_iload_n hx hb dX10_see_7 rfl (lv_at hl 2 rfl) ?_
    obtain ⟨o6, hc7, h⟩ := bnd_some h
    refine cS_i (rest := []) (w2 := (wd_X10_see cy a_v a_v_st a_v_now a_v_isKept a_v_draft a_v_placedRow a_v_tape a_v_by a_v_told a_v_bestRow a_v_ways a_v_lanes a_v_sizes a_v_cells a_v_before v_hasOrder v_hasStart v_placed v_placedMany v_highest v_taped v_pos v_begun v_sort v_value v_fault v_wrongAt v_rightSum v_wrongSum v_allWays v_torn v_st)) ⟨hx, hb, hml, hown, hts⟩ (c_X10_isHour l D cy sa x2 o6 hc7) (va_cwS 1 hts gX10_see_X10_isHour rfl rfl rfl (by decide +kernel) ⟨Nat.le_of_ble_eq_true rfl, Nat.le_of_ble_eq_true rfl⟩) hE hP hDD rfl hS [] rfl rfl rfl rfl hl.1 (Nat.le_of_ble_eq_true rfl) ⟨Nat.zero_le _, Nat.zero_le _⟩ rfl dX10_see_8 rfl (fun H locs hP hS => ?_)
    obtain ⟨hr8, h⟩ := chk_some h
    refine wi_if_eq (tgt := 21) hx hb dX10_see_11 (by decide) hr8 (fun c10 => ?_) (fun c10 => ?_)
    · have h := ite_t c10 h
      refine wi_ic hx hb dX10_see_21 ?_
      obtain rfl := Option.some.inj h
      exact KR _ _ _ _ hP hS dX10_see_22
    · have h := ite_f c10 h
      refine lv_iload_n hx hb dX10_see_14 rfl (lv_at hl 3 rfl) ?_
      obtain ⟨o11, hc12, h⟩ := bnd_some h
      refine cS_i (rest := []) (w2 := (wd_X10_see cy a_v a_v_st a_v_now a_v_isKept a_v_draft a_v_placedRow a_v_tape a_v_by a_v_told a_v_bestRow a_v_ways a_v_lanes a_v_sizes a_v_cells a_v_before v_hasOrder v_hasStart v_placed v_placedMany v_highest v_taped v_pos v_begun v_sort v_value v_fault v_wrongAt v_rightSum v_wrongSum v_allWays v_torn v_st)) ⟨hx, hb, hml, hown, hts⟩ (c_X10_isHour l D cy sa x3 o11 hc12) (va_cwS 1 hts gX10_see_X10_isHour rfl rfl rfl (by decide +kernel) ⟨Nat.le_of_ble_eq_true rfl, Nat.le_of_ble_eq_true rfl⟩) hE hP hDD rfl hS [] rfl rfl rfl rfl hl.1 (Nat.le_of_ble_eq_true rfl) ⟨Nat.zero_le _, Nat.zero_le _⟩ rfl dX10_see_15 rfl (fun H locs hP hS => ?_)
      obtain ⟨hr13, h⟩ := chk_some h
      refine wi_if_ne (tgt := 23) hx hb dX10_see_18 (by decide) hr13 (fun c15 => ?_) (fun c15 => ?_)
      · have h := ite_f c15 h
        refine lv_aload_n hx hb dX10_see_23 rfl (lv_at hl 0 rfl) ?_
        refine wi_get (v := .ref a_v_st) hx hb hts iX10 hown hE hP 0 rfl rfl 0 (by decide) q0 rfl dX10_see_24 ?_
        refine wi_bi hx hb dX10_see_27 (by decide) ?_
        refine wi_iald hx hb hE hP 1 rfl (by decide) (by decide) dX10_see_29 ?_
        refine wi_bi hx hb dX10_see_30 (by decide) ?_
        obtain ⟨hr16, h⟩ := chk_some h
        refine wi_ic_ne (tgt := 38) hx hb dX10_see_32 (by decide) hr16 (by decide) (fun c18 => ?_) (fun c18 => ?_)
        · have h := ite_f c18 h
          refine wi_bi hx hb dX10_see_38 (by decide) ?_
          refine wi_ic hx hb dX10_see_40 ?_
          refine lv_aload_n hx hb dX10_see_41 rfl (lv_at hl 0 rfl) ?_
          refine wi_get (v := .ref a_v_st) hx hb hts iX10 hown hE hP 0 rfl rfl 0 (by decide) q0 rfl dX10_see_42 ?_
          refine wi_bi hx hb dX10_see_45 (by decide) ?_
          refine wi_iald hx hb hE hP 1 rfl (by decide) (by decide) dX10_see_47 ?_
          refine wi_imul hx hb dX10_see_48 ?_
          refine wi_iadd hx hb dX10_see_49 ?_
          refine lv_istore (lv' := [(4, .int (zI (38 + (3 * (v_st 37))))), (0, .ref a_v), (1, .int (zI x1)), (2, .int (zI x2)), (3, .int (zI x3))]) hx hb dX10_see_50 hl (by decide) rfl (fun ls hl => ?_)
          refine lv_aload_n hx hb dX10_see_52 rfl (lv_at hl 1 rfl) ?_
          refine wi_get (v := .ref a_v_st) hx hb hts iX10 hown hE hP 0 rfl rfl 0 (by decide) q0 rfl dX10_see_53 ?_
          refine lv_iload hx hb dX10_see_56 (lv_at hl 0 rfl) ?_
          refine lv_iload_n hx hb dX10_see_58 rfl (lv_at hl 2 rfl) ?_
          obtain ⟨hk19, h⟩ := chk_some h
          refine wi_iast (w2 := (wd_X10_see cy a_v a_v_st a_v_now a_v_isKept a_v_draft a_v_placedRow a_v_tape a_v_by a_v_told a_v_bestRow a_v_ways a_v_lanes a_v_sizes a_v_cells a_v_before v_hasOrder v_hasStart v_placed v_placedMany v_highest v_taped v_pos v_begun v_sort v_value v_fault v_wrongAt v_rightSum v_wrongSum v_allWays v_torn (upZ v_st (38 + (3 * (v_st 37))).toNat x1))) hx hb hE hP hDD rfl hS 1 rfl (by decide) hk19 dX10_see_59 rfl (fun H locs hP hS => ?_)
          refine lv_aload_n hx hb dX10_see_60 rfl (lv_at hl 1 rfl) ?_
          refine wi_get (v := .ref a_v_st) hx hb hts iX10 hown hE hP 0 rfl rfl 0 (by decide) q0 rfl dX10_see_61 ?_
          refine lv_iload hx hb dX10_see_64 (lv_at hl 0 rfl) ?_
          refine wi_ic hx hb dX10_see_66 ?_
          refine wi_iadd hx hb dX10_see_67 ?_
          refine lv_iload_n hx hb dX10_see_68 rfl (lv_at hl 3 rfl) ?_
          obtain ⟨hk20, h⟩ := chk_some h
          refine wi_iast (w2 := (wd_X10_see cy a_v a_v_st a_v_now a_v_isKept a_v_draft a_v_placedRow a_v_tape a_v_by a_v_told a_v_bestRow a_v_ways a_v_lanes a_v_sizes a_v_cells a_v_before v_hasOrder v_hasStart v_placed v_placedMany v_highest v_taped v_pos v_begun v_sort v_value v_fault v_wrongAt v_rightSum v_wrongSum v_allWays v_torn (upZ (upZ v_st (38 + (3 * (v_st 37))).toNat x1) ((38 + (3 * (v_st 37))) + 1).toNat x2))) hx hb hE hP hDD rfl hS 1 rfl (by decide) hk20 dX10_see_69 rfl (fun H locs hP hS => ?_)
          refine lv_aload_n hx hb dX10_see_70 rfl (lv_at hl 1 rfl) ?_
          refine wi_get (v := .ref a_v_st) hx hb hts iX10 hown hE hP 0 rfl rfl 0 (by decide) q0 rfl dX10_see_71 ?_
          refine lv_iload hx hb dX10_see_74 (lv_at hl 0 rfl) ?_
          refine wi_ic hx hb dX10_see_76 ?_
          refine wi_iadd hx hb dX10_see_77 ?_
          refine lv_iload_n hx hb dX10_see_78 rfl (lv_at hl 4 rfl) ?_
          obtain ⟨hk21, h⟩ := chk_some h
          refine wi_iast (w2 := (wd_X10_see cy a_v a_v_st a_v_now a_v_isKept a_v_draft a_v_placedRow a_v_tape a_v_by a_v_told a_v_bestRow a_v_ways a_v_lanes a_v_sizes a_v_cells a_v_before v_hasOrder v_hasStart v_placed v_placedMany v_highest v_taped v_pos v_begun v_sort v_value v_fault v_wrongAt v_rightSum v_wrongSum v_allWays v_torn (upZ (upZ (upZ v_st (38 + (3 * (v_st 37))).toNat x1) ((38 + (3 * (v_st 37))) + 1).toNat x2) ((38 + (3 * (v_st 37))) + 2).toNat x3))) hx hb hE hP hDD rfl hS 1 rfl (by decide) hk21 dX10_see_79 rfl (fun H locs hP hS => ?_)
          refine lv_aload_n hx hb dX10_see_80 rfl (lv_at hl 1 rfl) ?_
          refine wi_get (v := .ref a_v_st) hx hb hts iX10 hown hE hP 0 rfl rfl 0 (by decide) q0 rfl dX10_see_81 ?_
          refine wi_bi hx hb dX10_see_84 (by decide) ?_
          refine lv_dup2_11 hx hb dX10_see_86 rfl rfl ?_
          refine wi_iald hx hb hE hP 1 rfl (by decide) (by decide) dX10_see_87 ?_
          refine wi_ic hx hb dX10_see_88 ?_
          refine wi_iadd hx hb dX10_see_89 ?_
          refine wi_iast (w2 := (wd_X10_see cy a_v a_v_st a_v_now a_v_isKept a_v_draft a_v_placedRow a_v_tape a_v_by a_v_told a_v_bestRow a_v_ways a_v_lanes a_v_sizes a_v_cells a_v_before v_hasOrder v_hasStart v_placed v_placedMany v_highest v_taped v_pos v_begun v_sort v_value v_fault v_wrongAt v_rightSum v_wrongSum v_allWays v_torn (upZ (upZ (upZ (upZ v_st (38 + (3 * (v_st 37))).toNat x1) ((38 + (3 * (v_st 37))) + 1).toNat x2) ((38 + (3 * (v_st 37))) + 2).toNat x3) 37 (((upZ (upZ (upZ v_st (38 + (3 * (v_st 37))).toNat x1) ((38 + (3 * (v_st 37))) + 1).toNat x2) ((38 + (3 * (v_st 37))) + 2).toNat x3) 37) + 1)))) hx hb hE hP hDD rfl hS 1 rfl (by decide) (by decide) dX10_see_90 rfl (fun H locs hP hS => ?_)
          refine lv_aload_n hx hb dX10_see_91 rfl (lv_at hl 1 rfl) ?_
          refine wi_get (v := .ref a_v_st) hx hb hts iX10 hown hE hP 0 rfl rfl 0 (by decide) q0 rfl dX10_see_92 ?_
          refine wi_bi hx hb dX10_see_95 (by decide) ?_
          refine wi_iald hx hb hE hP 1 rfl (by decide) (by decide) dX10_see_97 ?_
          obtain rfl := Option.some.inj h
          exact KR _ _ _ _ hP hS dX10_see_98
        · have h := ite_t c18 h
          refine wi_bi hx hb dX10_see_35 (by decide) ?_
          obtain rfl := Option.some.inj h
          exact KR _ _ _ _ hP hS dX10_see_37
      · have h := ite_t c15 h
        refine wi_ic hx hb dX10_see_21 ?_
        obtain rfl := Option.some.inj h
        exact KR _ _ _ _ hP hS dX10_see_22
abbrev wd_X10_forget (cy : Nat → ClassId) (a_v : Nat) (a_v_st : Nat) (a_v_now : Nat) (a_v_isKept : Nat) (a_v_draft : Nat) (a_v_placedRow : Nat) (a_v_tape : Nat) (a_v_by : Nat) (a_v_told : Nat) (a_v_bestRow : Nat) (a_v_ways : Nat) (a_v_lanes : Nat) (a_v_sizes : Nat) (a_v_cells : Nat) (a_v_before : Nat) (v_hasOrder : Int) (v_hasStart : Int) (v_placed : Int) (v_placedMany : Int) (v_highest : Int) (v_taped : Int) (v_pos : Int) (v_begun : Int) (v_sort : Int) (v_value : Int) (v_fault : Int) (v_wrongAt : Int) (v_rightSum : Int) (v_wrongSum : Int) (v_allWays : Int) (v_torn : Int) (v_st : Nat → Int) : va_W := [(a_v, .inr (10, [.ref a_v_st, .ref a_v_now, .ref a_v_isKept, .ref a_v_draft, .int (zI v_hasOrder), .int (zI v_hasStart), .int (zI v_placed), .int (zI v_placedMany), .ref a_v_placedRow, .int (zI v_highest), .ref a_v_tape, .int (zI v_taped), .int (zI v_pos), .int (zI v_begun), .int (zI v_sort), .int (zI v_value), .int (zI v_fault), .int (zI v_wrongAt), .ref a_v_by, .ref a_v_told, .ref a_v_bestRow, .long (zL v_rightSum), .long (zL v_wrongSum), .long (zL v_allWays), .ref a_v_ways, .ref a_v_lanes, .ref a_v_sizes, .ref a_v_cells, .int (zI v_torn), .ref a_v_before])), (a_v_st, .inl (cy 0, 168, .inl (fun j => zI (v_st j))))]
set_option maxHeartbeats 4000000 in
set_option maxRecDepth 100000 in
theorem c_X10_forget (l : Launch) (D : va_G) (cy : Nat → ClassId) (sa : Nat → Nat) (a_v : Nat) (a_v_st : Nat) (a_v_now : Nat) (a_v_isKept : Nat) (a_v_draft : Nat) (a_v_placedRow : Nat) (a_v_tape : Nat) (a_v_by : Nat) (a_v_told : Nat) (a_v_bestRow : Nat) (a_v_ways : Nat) (a_v_lanes : Nat) (a_v_sizes : Nat) (a_v_cells : Nat) (a_v_before : Nat) (v_hasOrder : Int) (v_hasStart : Int) (v_placed : Int) (v_placedMany : Int) (v_highest : Int) (v_taped : Int) (v_pos : Int) (v_begun : Int) (v_sort : Int) (v_value : Int) (v_fault : Int) (v_wrongAt : Int) (v_rightSum : Int) (v_wrongSum : Int) (v_allWays : Int) (v_torn : Int) (v_st : Nat → Int) (x1 : Int) (o : Int × (Nat → Int)) (h : f_M_forget v_st x1 = some o) : CtI l yX10_forget wsX10_forget ({ frames := 1, cells := 0, slots := 0, locals := 25 }) D cy sa [.ref a_v, .int (zI x1)] (wd_X10_forget cy a_v a_v_st a_v_now a_v_isKept a_v_draft a_v_placedRow a_v_tape a_v_by a_v_told a_v_bestRow a_v_ways a_v_lanes a_v_sizes a_v_cells a_v_before v_hasOrder v_hasStart v_placed v_placedMany v_highest v_taped v_pos v_begun v_sort v_value v_fault v_wrongAt v_rightSum v_wrongSum v_allWays v_torn v_st) (wd_X10_forget cy a_v a_v_st a_v_now a_v_isKept a_v_draft a_v_placedRow a_v_tape a_v_by a_v_told a_v_bestRow a_v_ways a_v_lanes a_v_sizes a_v_cells a_v_before v_hasOrder v_hasStart v_placed v_placedMany v_highest v_taped v_pos v_begun v_sort v_value v_fault v_wrongAt v_rightSum v_wrongSum v_allWays v_torn o.2) o.1 := by
  refine ct_I (cc := cX10_forget) (maxL := 2) (plainFor_of_name (by decide)) rfl (Nat.le_of_ble_eq_true rfl) ?_
  intro p e s m below meth c A args QQ hx hb hml hown hts hE hDD hP KR ls hl
  have hl : lv_has ls 2 [(0, .ref a_v), (1, .int (zI x1))] := hl
  have hDD : DD A [a_v, a_v_st] := hDD
  have hS : va_S A s.heap s.heap [] := va_S.rf
  have q0 := hts (.fieldLink RX10 7 "HatHoursModel" "st" "[I") (List.mem_of_getElem? (i := 1) rfl)
  have iX10 : ∀ w ∈ u_ws RX10 TX10 30, w ∈ wsX10_forget := in_slice 10 30 rfl
  refine lv_iload_n hx hb dX10_forget_0 rfl (lv_at hl 1 rfl) ?_
  obtain ⟨hr1, h⟩ := chk_some h
  refine wi_i2l hx hb dX10_forget_1 hr1 ?_
  refine wi_lc (v := 0) hx hb dX10_forget_2 rfl ?_
  refine lv_aload_n hx hb dX10_forget_3 rfl (lv_at hl 0 rfl) ?_
  refine wi_get (v := .ref a_v_st) hx hb hts iX10 hown hE hP 0 rfl rfl 0 (by decide) q0 rfl dX10_forget_4 ?_
  refine wi_bi hx hb dX10_forget_7 (by decide) ?_
  refine wi_iald hx hb hE hP 1 rfl (by decide) (by decide) dX10_forget_9 ?_
  obtain ⟨hr2, h⟩ := chk_some h
  refine wi_i2l hx hb dX10_forget_10 hr2 ?_
  obtain ⟨o3, hc4, h⟩ := bnd_some h
  refine cS_i (rest := []) (w2 := (wd_X10_forget cy a_v a_v_st a_v_now a_v_isKept a_v_draft a_v_placedRow a_v_tape a_v_by a_v_told a_v_bestRow a_v_ways a_v_lanes a_v_sizes a_v_cells a_v_before v_hasOrder v_hasStart v_placed v_placedMany v_highest v_taped v_pos v_begun v_sort v_value v_fault v_wrongAt v_rightSum v_wrongSum v_allWays v_torn v_st)) ⟨hx, hb, hml, hown, hts⟩ (c_X10_in l D cy sa x1 0 (v_st 37) o3 hc4) (va_cwS 3 hts gX10_forget_X10_in rfl rfl rfl (by decide +kernel) ⟨Nat.le_of_ble_eq_true rfl, Nat.le_of_ble_eq_true rfl⟩) hE hP hDD rfl hS [] rfl rfl rfl rfl hl.1 (Nat.le_of_ble_eq_true rfl) ⟨Nat.zero_le _, Nat.zero_le _⟩ rfl dX10_forget_11 rfl (fun H locs hP hS => ?_)
  obtain ⟨hr5, h⟩ := chk_some h
  refine wi_if_eq (tgt := 27) hx hb dX10_forget_14 (by decide) hr5 (fun c7 => ?_) (fun c7 => ?_)
  · have h := ite_t c7 h
    refine wi_ic hx hb dX10_forget_27 ?_
    obtain rfl := Option.some.inj h
    exact KR _ _ _ _ hP hS dX10_forget_28
  · have h := ite_f c7 h
    refine lv_aload_n hx hb dX10_forget_17 rfl (lv_at hl 0 rfl) ?_
    refine wi_bi hx hb dX10_forget_18 (by decide) ?_
    refine lv_iload_n hx hb dX10_forget_20 rfl (lv_at hl 1 rfl) ?_
    obtain ⟨o8, hc9, h⟩ := bnd_some h
    refine cV_i (rest := []) (w2 := (wd_X10_forget cy a_v a_v_st a_v_now a_v_isKept a_v_draft a_v_placedRow a_v_tape a_v_by a_v_told a_v_bestRow a_v_ways a_v_lanes a_v_sizes a_v_cells a_v_before v_hasOrder v_hasStart v_placed v_placedMany v_highest v_taped v_pos v_begun v_sort v_value v_fault v_wrongAt v_rightSum v_wrongSum v_allWays v_torn o8.2)) ⟨hx, hb, hml, hown, hts⟩ (c_X10_becomes l D cy sa a_v a_v_st a_v_now a_v_isKept a_v_draft a_v_placedRow a_v_tape a_v_by a_v_told a_v_bestRow a_v_ways a_v_lanes a_v_sizes a_v_cells a_v_before v_hasOrder v_hasStart v_placed v_placedMany v_highest v_taped v_pos v_begun v_sort v_value v_fault v_wrongAt v_rightSum v_wrongSum v_allWays v_torn v_st 37 x1 o8 hc9) (cwV 2 hts gX10_forget_X10_becomes rfl rfl rfl (by decide +kernel) ⟨Nat.le_of_ble_eq_true rfl, Nat.le_of_ble_eq_true rfl⟩) rfl rfl rfl hE hP hDD rfl hS [0, 1] rfl rfl rfl rfl hl.1 (Nat.le_of_ble_eq_true rfl) ⟨Nat.zero_le _, Nat.zero_le _⟩ rfl dX10_forget_21 rfl (fun H locs hP hS => ?_)
    refine lv_goto (tgt := 28) hx hb dX10_forget_24 (by decide) ?_
    obtain rfl := Option.some.inj h
    exact KR _ _ _ _ hP hS dX10_forget_28
abbrev wd_X10_isSo (cy : Nat → ClassId) (a_v : Nat) (a_v_by : Nat) (a_v_now : Nat) (a_v_st : Nat) (a_v_told : Nat) (a_v_isKept : Nat) (a_v_draft : Nat) (a_v_placedRow : Nat) (a_v_tape : Nat) (a_v_bestRow : Nat) (a_v_ways : Nat) (a_v_lanes : Nat) (a_v_sizes : Nat) (a_v_cells : Nat) (a_v_before : Nat) (v_hasOrder : Int) (v_hasStart : Int) (v_placed : Int) (v_placedMany : Int) (v_highest : Int) (v_taped : Int) (v_pos : Int) (v_begun : Int) (v_sort : Int) (v_value : Int) (v_fault : Int) (v_wrongAt : Int) (v_rightSum : Int) (v_wrongSum : Int) (v_allWays : Int) (v_torn : Int) (v_by : Nat → Int) (v_now : Nat → Int) (v_st : Nat → Int) (v_told : Nat → Int) : va_W := [(a_v, .inr (10, [.ref a_v_st, .ref a_v_now, .ref a_v_isKept, .ref a_v_draft, .int (zI v_hasOrder), .int (zI v_hasStart), .int (zI v_placed), .int (zI v_placedMany), .ref a_v_placedRow, .int (zI v_highest), .ref a_v_tape, .int (zI v_taped), .int (zI v_pos), .int (zI v_begun), .int (zI v_sort), .int (zI v_value), .int (zI v_fault), .int (zI v_wrongAt), .ref a_v_by, .ref a_v_told, .ref a_v_bestRow, .long (zL v_rightSum), .long (zL v_wrongSum), .long (zL v_allWays), .ref a_v_ways, .ref a_v_lanes, .ref a_v_sizes, .ref a_v_cells, .int (zI v_torn), .ref a_v_before])), (a_v_by, .inl (cy 0, 120, .inl (fun j => zI (v_by j)))), (a_v_now, .inl (cy 0, 56, .inl (fun j => zI (v_now j)))), (a_v_st, .inl (cy 0, 168, .inl (fun j => zI (v_st j)))), (a_v_told, .inl (cy 0, 120, .inl (fun j => zI (v_told j))))]
set_option maxHeartbeats 4000000 in
set_option maxRecDepth 100000 in
theorem c_X10_isSo (l : Launch) (D : va_G) (cy : Nat → ClassId) (sa : Nat → Nat) (a_v : Nat) (a_v_by : Nat) (a_v_now : Nat) (a_v_st : Nat) (a_v_told : Nat) (a_v_isKept : Nat) (a_v_draft : Nat) (a_v_placedRow : Nat) (a_v_tape : Nat) (a_v_bestRow : Nat) (a_v_ways : Nat) (a_v_lanes : Nat) (a_v_sizes : Nat) (a_v_cells : Nat) (a_v_before : Nat) (v_hasOrder : Int) (v_hasStart : Int) (v_placed : Int) (v_placedMany : Int) (v_highest : Int) (v_taped : Int) (v_pos : Int) (v_begun : Int) (v_sort : Int) (v_value : Int) (v_fault : Int) (v_wrongAt : Int) (v_rightSum : Int) (v_wrongSum : Int) (v_allWays : Int) (v_torn : Int) (v_by : Nat → Int) (v_now : Nat → Int) (v_st : Nat → Int) (v_told : Nat → Int) (o : Int × (Nat → Int) × (Nat → Int)) (h : f_M_isSo v_by v_now v_st v_told = some o) : CtI l yX10_isSo wsX10_isSo ({ frames := 4, cells := 0, slots := 0, locals := 91 }) D cy sa [.ref a_v] (wd_X10_isSo cy a_v a_v_by a_v_now a_v_st a_v_told a_v_isKept a_v_draft a_v_placedRow a_v_tape a_v_bestRow a_v_ways a_v_lanes a_v_sizes a_v_cells a_v_before v_hasOrder v_hasStart v_placed v_placedMany v_highest v_taped v_pos v_begun v_sort v_value v_fault v_wrongAt v_rightSum v_wrongSum v_allWays v_torn v_by v_now v_st v_told) (wd_X10_isSo cy a_v a_v_by a_v_now a_v_st a_v_told a_v_isKept a_v_draft a_v_placedRow a_v_tape a_v_bestRow a_v_ways a_v_lanes a_v_sizes a_v_cells a_v_before v_hasOrder v_hasStart v_placed v_placedMany v_highest v_taped v_pos v_begun v_sort v_value v_fault v_wrongAt v_rightSum v_wrongSum v_allWays v_torn o.2.1 v_now v_st o.2.2) o.1 := by
  refine ct_Z (cc := cX10_isSo) (maxL := 4) (plainFor_of_name (by decide)) rfl (Nat.le_of_ble_eq_true rfl) ?_
  intro p e s m below meth c A args QQ hx hb hml hown hts hE hDD hP KR ls hl
  have hl : lv_has ls 4 [(0, .ref a_v)] := hl
  have hDD : DD A [a_v, a_v_by, a_v_now, a_v_st, a_v_told] := hDD
  have hS : va_S A s.heap s.heap [] := va_S.rf
  have q0 := hts (.fieldLink RX10 7 "HatHoursModel" "st" "[I") (List.mem_of_getElem? (i := 1) rfl)
  have q1 := hts (.fieldLink RX10 32 "HatHoursModel" "told" "[I") (List.mem_of_getElem? (i := 2) rfl)
  have iX10 : ∀ w ∈ u_ws RX10 TX10 30, w ∈ wsX10_isSo := in_slice 33 30 rfl
  have L8 : ∀ (fuel : Nat) (v_by : Nat → Int) (v_told : Nat → Int) (x1 : Int) (x2 : Int) (H : Heap) (locs : List Loc) (ls : Array Slot) (ex : Int), va_P D vwCl (wd_X10_isSo cy a_v a_v_by a_v_now a_v_st a_v_told a_v_isKept a_v_draft a_v_placedRow a_v_tape a_v_bestRow a_v_ways a_v_lanes a_v_sizes a_v_cells a_v_before v_hasOrder v_hasStart v_placed v_placedMany v_highest v_taped v_pos v_begun v_sort v_value v_fault v_wrongAt v_rightSum v_wrongSum v_allWays v_torn v_by v_now v_st v_told) H → va_S A s.heap H locs → lv_has ls 4 [(0, .ref a_v), (1, .int (zI x1)), (2, .int (zI x2))] → f_M_isSo_L8 fuel v_st v_told x1 x2 = some ex → (∀ (H : Heap) (locs : List Loc) (ls : Array Slot), va_P D vwCl (wd_X10_isSo cy a_v a_v_by a_v_now a_v_st a_v_told a_v_isKept a_v_draft a_v_placedRow a_v_tape a_v_bestRow a_v_ways a_v_lanes a_v_sizes a_v_cells a_v_before v_hasOrder v_hasStart v_placed v_placedMany v_highest v_taped v_pos v_begun v_sort v_value v_fault v_wrongAt v_rightSum v_wrongSum v_allWays v_torn v_by v_now v_st v_told) H → va_S A s.heap H locs → lv_has ls 4 [(1, .int (zI ex))] → W p l e { frames := 4, cells := 0, slots := 0, locals := 91 } s m args below meth c H locs 0 0 QQ (F0 m 76 ls [])) → W p l e { frames := 4, cells := 0, slots := 0, locals := 91 } s m args below meth c H locs 0 0 QQ (F0 m 8 ls []) := by
    intro fuel
    induction fuel with
    | zero => intro _ _ _ _ H locs ls ex hP hS hl h K; cases h
    | succ fuel ih =>
      intro v_by v_told x1 x2 H locs ls ex hP hS hl h K
      refine lv_iload_n hx hb dX10_isSo_8 rfl (lv_at hl 2 rfl) ?_
      refine lv_aload_n hx hb dX10_isSo_9 rfl (lv_at hl 0 rfl) ?_
      refine wi_get (v := .ref a_v_st) hx hb hts iX10 hown hE hP 0 rfl rfl 0 (by decide) q0 rfl dX10_isSo_10 ?_
      refine wi_bi hx hb dX10_isSo_13 (by decide) ?_
      refine wi_iald hx hb hE hP 3 rfl (by decide) (by decide) dX10_isSo_15 ?_
      obtain ⟨hr3, h⟩ := chk_some h
      obtain ⟨hr4, h⟩ := chk_some h
      refine wi_ic_ge (tgt := 76) hx hb dX10_isSo_16 (by decide) hr3 hr4 (fun c6 => ?_) (fun c6 => ?_)
      · have h := ite_t c6 h
        obtain rfl := Option.some.inj h
        exact K _ _ _ hP hS (lv_sub hl [1] rfl)
      · have h := ite_f c6 h
        refine wi_bi hx hb dX10_isSo_19 (by decide) ?_
        refine wi_ic hx hb dX10_isSo_21 ?_
        refine lv_iload_n hx hb dX10_isSo_22 rfl (lv_at hl 2 rfl) ?_
        refine wi_imul hx hb dX10_isSo_23 ?_
        refine wi_iadd hx hb dX10_isSo_24 ?_
        refine lv_istore_n (lv' := [(3, .int (zI (38 + (3 * x2)))), (0, .ref a_v), (1, .int (zI x1)), (2, .int (zI x2))]) hx hb dX10_isSo_25 rfl hl (by decide) rfl (fun ls hl => ?_)
        refine lv_iload_n hx hb dX10_isSo_26 rfl (lv_at hl 2 rfl) ?_
        obtain ⟨hr7, h⟩ := chk_some h
        refine wi_if_eq (tgt := 68) hx hb dX10_isSo_27 (by decide) hr7 (fun c9 => ?_) (fun c9 => ?_)
        · have h := ite_t c9 h
          refine wi_ic hx hb dX10_isSo_68 ?_
          refine lv_istore_n (lv' := [(1, .int (zI 0)), (3, .int (zI (38 + (3 * x2)))), (0, .ref a_v), (2, .int (zI x2))]) hx hb dX10_isSo_69 rfl hl (by decide) rfl (fun ls hl => ?_)
          refine wi_iinc (k := 3) (lv' := [(2, .int (zI (x2 + 1))), (1, .int (zI 0)), (3, .int (zI (38 + (3 * x2)))), (0, .ref a_v)]) hx hb dX10_isSo_70 hl rfl (by decide) rfl (fun ls hl => ?_)
          refine lv_goto (tgt := 8) hx hb dX10_isSo_73 (by decide) ?_
          exact ih v_by v_told 0 (x2 + 1) _ _ _ _ hP hS (lv_sub hl [3, 1, 0] rfl) h K
        · have h := ite_f c9 h
          refine lv_aload_n hx hb dX10_isSo_30 rfl (lv_at hl 1 rfl) ?_
          refine wi_get (v := .ref a_v_told) hx hb hts iX10 hown hE hP 0 rfl rfl 19 (by decide) q1 rfl dX10_isSo_31 ?_
          refine wi_bi hx hb dX10_isSo_34 (by decide) ?_
          refine lv_aload_n hx hb dX10_isSo_36 rfl (lv_at hl 1 rfl) ?_
          refine wi_get (v := .ref a_v_st) hx hb hts iX10 hown hE hP 0 rfl rfl 0 (by decide) q0 rfl dX10_isSo_37 ?_
          refine lv_iload_n hx hb dX10_isSo_40 rfl (lv_at hl 0 rfl) ?_
          obtain ⟨hk10, h⟩ := chk_some h
          refine wi_iald hx hb hE hP 3 rfl (by decide) hk10 dX10_isSo_41 ?_
          refine wi_imul hx hb dX10_isSo_42 ?_
          refine lv_aload_n hx hb dX10_isSo_43 rfl (lv_at hl 1 rfl) ?_
          refine wi_get (v := .ref a_v_st) hx hb hts iX10 hown hE hP 0 rfl rfl 0 (by decide) q0 rfl dX10_isSo_44 ?_
          refine lv_iload_n hx hb dX10_isSo_47 rfl (lv_at hl 0 rfl) ?_
          refine wi_ic hx hb dX10_isSo_48 ?_
          refine wi_iadd hx hb dX10_isSo_49 ?_
          obtain ⟨hk11, h⟩ := chk_some h
          refine wi_iald hx hb hE hP 3 rfl (by decide) hk11 dX10_isSo_50 ?_
          refine wi_iadd hx hb dX10_isSo_51 ?_
          obtain ⟨hk12, h⟩ := chk_some h
          refine wi_iald hx hb hE hP 4 rfl (by decide) hk12 dX10_isSo_52 ?_
          refine lv_aload_n hx hb dX10_isSo_53 rfl (lv_at hl 1 rfl) ?_
          refine wi_get (v := .ref a_v_st) hx hb hts iX10 hown hE hP 0 rfl rfl 0 (by decide) q0 rfl dX10_isSo_54 ?_
          refine lv_iload_n hx hb dX10_isSo_57 rfl (lv_at hl 0 rfl) ?_
          refine wi_ic hx hb dX10_isSo_58 ?_
          refine wi_iadd hx hb dX10_isSo_59 ?_
          obtain ⟨hk13, h⟩ := chk_some h
          refine wi_iald hx hb hE hP 3 rfl (by decide) hk13 dX10_isSo_60 ?_
          obtain ⟨hr14, h⟩ := chk_some h
          obtain ⟨hr15, h⟩ := chk_some h
          refine wi_ic_ne (tgt := 68) hx hb dX10_isSo_61 (by decide) hr14 hr15 (fun c17 => ?_) (fun c17 => ?_)
          · have h := ite_f c17 h
            refine wi_ic hx hb dX10_isSo_68 ?_
            refine lv_istore_n (lv' := [(1, .int (zI 0)), (3, .int (zI (38 + (3 * x2)))), (0, .ref a_v), (2, .int (zI x2))]) hx hb dX10_isSo_69 rfl hl (by decide) rfl (fun ls hl => ?_)
            refine wi_iinc (k := 3) (lv' := [(2, .int (zI (x2 + 1))), (1, .int (zI 0)), (3, .int (zI (38 + (3 * x2)))), (0, .ref a_v)]) hx hb dX10_isSo_70 hl rfl (by decide) rfl (fun ls hl => ?_)
            refine lv_goto (tgt := 8) hx hb dX10_isSo_73 (by decide) ?_
            exact ih v_by v_told 0 (x2 + 1) _ _ _ _ hP hS (lv_sub hl [3, 1, 0] rfl) h K
          · have h := ite_t c17 h
            refine wi_ic hx hb dX10_isSo_64 ?_
            refine lv_goto (tgt := 69) hx hb dX10_isSo_65 (by decide) ?_
            refine lv_istore_n (lv' := [(1, .int (zI 1)), (3, .int (zI (38 + (3 * x2)))), (0, .ref a_v), (2, .int (zI x2))]) hx hb dX10_isSo_69 rfl hl (by decide) rfl (fun ls hl => ?_)
            refine wi_iinc (k := 3) (lv' := [(2, .int (zI (x2 + 1))), (1, .int (zI 1)), (3, .int (zI (38 + (3 * x2)))), (0, .ref a_v)]) hx hb dX10_isSo_70 hl rfl (by decide) rfl (fun ls hl => ?_)
            refine lv_goto (tgt := 8) hx hb dX10_isSo_73 (by decide) ?_
            exact ih v_by v_told 1 (x2 + 1) _ _ _ _ hP hS (lv_sub hl [3, 1, 0] rfl) h K
  refine wi_ic hx hb dX10_isSo_0 ?_
  refine lv_istore_n (lv' := [(1, .int (zI 1)), (0, .ref a_v)]) hx hb dX10_isSo_1 rfl hl (by decide) rfl (fun ls hl => ?_)
  refine lv_aload_n hx hb dX10_isSo_2 rfl (lv_at hl 1 rfl) ?_
  obtain ⟨o1, hc2, h⟩ := bnd_some h
  refine cV_v (rest := []) (w2 := (wd_X10_isSo cy a_v a_v_by a_v_now a_v_st a_v_told a_v_isKept a_v_draft a_v_placedRow a_v_tape a_v_bestRow a_v_ways a_v_lanes a_v_sizes a_v_cells a_v_before v_hasOrder v_hasStart v_placed v_placedMany v_highest v_taped v_pos v_begun v_sort v_value v_fault v_wrongAt v_rightSum v_wrongSum v_allWays v_torn o1.1 v_now v_st o1.2)) ⟨hx, hb, hml, hown, hts⟩ (c_X10_dayGoes l D cy sa a_v a_v_by a_v_now a_v_told a_v_st a_v_isKept a_v_draft a_v_placedRow a_v_tape a_v_bestRow a_v_ways a_v_lanes a_v_sizes a_v_cells a_v_before v_hasOrder v_hasStart v_placed v_placedMany v_highest v_taped v_pos v_begun v_sort v_value v_fault v_wrongAt v_rightSum v_wrongSum v_allWays v_torn v_by v_now v_told o1 hc2) (cwV 0 hts gX10_isSo_X10_dayGoes rfl rfl rfl (by decide +kernel) ⟨Nat.le_of_ble_eq_true rfl, Nat.le_of_ble_eq_true rfl⟩) rfl rfl rfl hE hP hDD rfl hS [0, 1, 2, 4] rfl rfl rfl rfl hl.1 (Nat.le_of_ble_eq_true rfl) ⟨Nat.zero_le _, Nat.zero_le _⟩ rfl dX10_isSo_3 rfl (fun H locs hP hS => ?_)
  refine wi_ic hx hb dX10_isSo_6 ?_
  refine lv_istore_n (lv' := [(2, .int (zI 0)), (1, .int (zI 1)), (0, .ref a_v)]) hx hb dX10_isSo_7 rfl hl (by decide) rfl (fun ls hl => ?_)
  obtain ⟨o18, hx19, h⟩ := bnd_some h
  refine L8 5000 o1.1 o1.2 1 0 _ _ _ _ hP hS (lv_sub hl [2, 1, 0] rfl) hx19 ?_
  clear hx19
  intro H locs ls hP hS hl
  refine lv_iload_n hx hb dX10_isSo_76 rfl (lv_at hl 0 rfl) ?_
  obtain ⟨hk20, h⟩ := chk_some h
  obtain rfl := Option.some.inj h
  exact KR _ _ _ _ (z01 hk20) hP hS dX10_isSo_77
