abbrev wd_X10_read (cy : Nat → ClassId) (a_v : Nat) (a_v_before : Nat) (a_v_cells : Nat) (a_v_lanes : Nat) (a_v_sizes : Nat) (a_v_st : Nat) (a_v_now : Nat) (a_v_isKept : Nat) (a_v_draft : Nat) (a_v_placedRow : Nat) (a_v_tape : Nat) (a_v_by : Nat) (a_v_told : Nat) (a_v_bestRow : Nat) (a_v_ways : Nat) (v_hasOrder : Int) (v_hasStart : Int) (v_placed : Int) (v_placedMany : Int) (v_highest : Int) (v_taped : Int) (v_pos : Int) (v_begun : Int) (v_sort : Int) (v_value : Int) (v_fault : Int) (v_wrongAt : Int) (v_rightSum : Int) (v_wrongSum : Int) (v_allWays : Int) (v_torn : Int) (v_before : Nat → Int) (v_cells : Nat → Int) (v_lanes : Nat → Int) (v_sizes : Nat → Int) (v_st : Nat → Int) : va_W := [(a_v, .inr (10, [.ref a_v_st, .ref a_v_now, .ref a_v_isKept, .ref a_v_draft, .int (zI v_hasOrder), .int (zI v_hasStart), .int (zI v_placed), .int (zI v_placedMany), .ref a_v_placedRow, .int (zI v_highest), .ref a_v_tape, .int (zI v_taped), .int (zI v_pos), .int (zI v_begun), .int (zI v_sort), .int (zI v_value), .int (zI v_fault), .int (zI v_wrongAt), .ref a_v_by, .ref a_v_told, .ref a_v_bestRow, .long (zL v_rightSum), .long (zL v_wrongSum), .long (zL v_allWays), .ref a_v_ways, .ref a_v_lanes, .ref a_v_sizes, .ref a_v_cells, .int (zI v_torn), .ref a_v_before])), (a_v_before, .inl (cy 0, 56, .inl (fun j => zI (v_before j)))), (a_v_cells, .inl (cy 0, 160, .inl (fun j => zI (v_cells j)))), (a_v_lanes, .inl (cy 0, 4, .inl (fun j => zI (v_lanes j)))), (a_v_sizes, .inl (cy 0, 4, .inl (fun j => zI (v_sizes j)))), (a_v_st, .inl (cy 0, 168, .inl (fun j => zI (v_st j))))]
set_option maxHeartbeats 4000000 in
set_option maxRecDepth 100000 in
theorem c_X10_read (l : Launch) (D : va_G) (cy : Nat → ClassId) (sa : Nat → Nat) (a_v : Nat) (a_v_before : Nat) (a_v_cells : Nat) (a_v_lanes : Nat) (a_v_sizes : Nat) (a_v_st : Nat) (a_v_now : Nat) (a_v_isKept : Nat) (a_v_draft : Nat) (a_v_placedRow : Nat) (a_v_tape : Nat) (a_v_by : Nat) (a_v_told : Nat) (a_v_bestRow : Nat) (a_v_ways : Nat) (v_hasOrder : Int) (v_hasStart : Int) (v_placed : Int) (v_placedMany : Int) (v_highest : Int) (v_taped : Int) (v_pos : Int) (v_begun : Int) (v_sort : Int) (v_value : Int) (v_fault : Int) (v_wrongAt : Int) (v_rightSum : Int) (v_wrongSum : Int) (v_allWays : Int) (v_torn : Int) (v_before : Nat → Int) (v_cells : Nat → Int) (v_lanes : Nat → Int) (v_sizes : Nat → Int) (v_st : Nat → Int) (x1 : Int) (x2 : Int) (x3 : Int) (x4 : Int) (o : Int × Int × (Nat → Int) × (Nat → Int)) (h : f_M_read v_torn v_before v_cells v_lanes v_sizes v_st x1 x2 x3 x4 = some o) : CtI l yX10_read wsX10_read ({ frames := 4, cells := 0, slots := 0, locals := 90 }) D cy sa [.ref a_v, .int (zI x1), .int (zI x2), .int (zI x3), .int (zI x4)] (wd_X10_read cy a_v a_v_before a_v_cells a_v_lanes a_v_sizes a_v_st a_v_now a_v_isKept a_v_draft a_v_placedRow a_v_tape a_v_by a_v_told a_v_bestRow a_v_ways v_hasOrder v_hasStart v_placed v_placedMany v_highest v_taped v_pos v_begun v_sort v_value v_fault v_wrongAt v_rightSum v_wrongSum v_allWays v_torn v_before v_cells v_lanes v_sizes v_st) (wd_X10_read cy a_v a_v_before a_v_cells a_v_lanes a_v_sizes a_v_st a_v_now a_v_isKept a_v_draft a_v_placedRow a_v_tape a_v_by a_v_told a_v_bestRow a_v_ways v_hasOrder v_hasStart v_placed v_placedMany v_highest v_taped v_pos v_begun v_sort v_value v_fault v_wrongAt v_rightSum v_wrongSum v_allWays o.2.1 o.2.2.1 v_cells v_lanes v_sizes o.2.2.2) o.1 := by
  refine ct_I (cc := cX10_read) (maxL := 11) (plainFor_of_name (by decide)) rfl (Nat.le_of_ble_eq_true rfl) ?_
  intro p e s m below meth c A args QQ hx hb hml hown hts hE hDD hP KR ls hl
  have hl : lv_has ls 11 [(0, .ref a_v), (1, .int (zI x1)), (2, .int (zI x2)), (3, .int (zI x3)), (4, .int (zI x4))] := hl
  have hDD : DD A [a_v, a_v_before, a_v_cells, a_v_lanes, a_v_sizes, a_v_st] := hDD
  have hS : va_S A s.heap s.heap [] := va_S.rf
  have q0 := hts (.constantLong RX10 289 (13)) (List.mem_of_getElem? (i := 1) rfl)
  have q1 := hts (.fieldLink RX10 50 "HatHoursModel" "before" "[I") (List.mem_of_getElem? (i := 2) rfl)
  have q2 := hts (.fieldLink RX10 7 "HatHoursModel" "st" "[I") (List.mem_of_getElem? (i := 3) rfl)
  have q3 := hts (.fieldLink RX10 294 "HatHoursModel" "torn" "I") (List.mem_of_getElem? (i := 7) rfl)
  have q4 := hts (.fieldLink RX10 41 "HatHoursModel" "lanes" "[I") (List.mem_of_getElem? (i := 4) rfl)
  have q5 := hts (.fieldLink RX10 44 "HatHoursModel" "sizes" "[I") (List.mem_of_getElem? (i := 5) rfl)
  have q6 := hts (.fieldLink RX10 47 "HatHoursModel" "cells" "[I") (List.mem_of_getElem? (i := 6) rfl)
  have iX10 : ∀ w ∈ u_ws RX10 TX10 30, w ∈ wsX10_read := in_slice 34 30 rfl
  have L26 : ∀ (fuel : Nat) (v_torn : Int) (v_before : Nat → Int) (v_st : Nat → Int) (x1 : Int) (x2 : Int) (x3 : Int) (x4 : Int) (x5 : Int) (H : Heap) (locs : List Loc) (ls : Array Slot) (ex : (Nat → Int)), va_P D vwCl (wd_X10_read cy a_v a_v_before a_v_cells a_v_lanes a_v_sizes a_v_st a_v_now a_v_isKept a_v_draft a_v_placedRow a_v_tape a_v_by a_v_told a_v_bestRow a_v_ways v_hasOrder v_hasStart v_placed v_placedMany v_highest v_taped v_pos v_begun v_sort v_value v_fault v_wrongAt v_rightSum v_wrongSum v_allWays v_torn v_before v_cells v_lanes v_sizes v_st) H → va_S A s.heap H locs → lv_has ls 11 [(0, .ref a_v), (1, .int (zI x1)), (2, .int (zI x2)), (3, .int (zI x3)), (4, .int (zI x4)), (5, .int (zI x5))] → f_M_read_L26 fuel v_before v_st x5 = some ex → (∀ (H : Heap) (locs : List Loc) (ls : Array Slot), va_P D vwCl (wd_X10_read cy a_v a_v_before a_v_cells a_v_lanes a_v_sizes a_v_st a_v_now a_v_isKept a_v_draft a_v_placedRow a_v_tape a_v_by a_v_told a_v_bestRow a_v_ways v_hasOrder v_hasStart v_placed v_placedMany v_highest v_taped v_pos v_begun v_sort v_value v_fault v_wrongAt v_rightSum v_wrongSum v_allWays v_torn ex v_cells v_lanes v_sizes v_st) H → va_S A s.heap H locs → lv_has ls 11 [(0, .ref a_v), (1, .int (zI x1)), (2, .int (zI x2)), (3, .int (zI x3)), (4, .int (zI x4))] → W p l e { frames := 4, cells := 0, slots := 0, locals := 90 } s m args below meth c H locs 0 0 QQ (F0 m 53 ls [])) → W p l e { frames := 4, cells := 0, slots := 0, locals := 90 } s m args below meth c H locs 0 0 QQ (F0 m 26 ls []) := by
    intro fuel
    induction fuel with
    | zero => intro _ _ _ _ _ _ _ _ H locs ls ex hP hS hl h K; cases h
    | succ fuel ih =>
      intro v_torn v_before v_st x1 x2 x3 x4 x5 H locs ls ex hP hS hl h K
      refine lv_iload hx hb dX10_read_26 (lv_at hl 5 rfl) ?_
      refine wi_bi hx hb dX10_read_28 (by decide) ?_
      obtain ⟨hr12, h⟩ := chk_some h
      refine wi_ic_ge (tgt := 53) hx hb dX10_read_30 (by decide) hr12 (by decide) (fun c14 => ?_) (fun c14 => ?_)
      · have h := ite_t c14 h
        obtain rfl := Option.some.inj h
        exact K _ _ _ hP hS (lv_sub hl [0, 1, 2, 3, 4] rfl)
      · have h := ite_f c14 h
        refine lv_aload_n hx hb dX10_read_33 rfl (lv_at hl 0 rfl) ?_
        refine wi_get (v := .ref a_v_before) hx hb hts iX10 hown hE hP 0 rfl rfl 29 (by decide) q1 rfl dX10_read_34 ?_
        refine lv_iload hx hb dX10_read_37 (lv_at hl 5 rfl) ?_
        refine lv_aload_n hx hb dX10_read_39 rfl (lv_at hl 0 rfl) ?_
        refine wi_get (v := .ref a_v_st) hx hb hts iX10 hown hE hP 0 rfl rfl 0 (by decide) q2 rfl dX10_read_40 ?_
        refine lv_iload hx hb dX10_read_43 (lv_at hl 5 rfl) ?_
        obtain ⟨hk15, h⟩ := chk_some h
        refine wi_iald hx hb hE hP 5 rfl (by decide) hk15 dX10_read_45 ?_
        obtain ⟨hk16, h⟩ := chk_some h
        refine wi_iast (w2 := (wd_X10_read cy a_v a_v_before a_v_cells a_v_lanes a_v_sizes a_v_st a_v_now a_v_isKept a_v_draft a_v_placedRow a_v_tape a_v_by a_v_told a_v_bestRow a_v_ways v_hasOrder v_hasStart v_placed v_placedMany v_highest v_taped v_pos v_begun v_sort v_value v_fault v_wrongAt v_rightSum v_wrongSum v_allWays v_torn (upZ v_before (x5).toNat (v_st (x5).toNat)) v_cells v_lanes v_sizes v_st)) hx hb hE hP hDD rfl hS 1 rfl (by decide) hk16 dX10_read_46 rfl (fun H locs hP hS => ?_)
        refine wi_iinc (k := 5) (lv' := [(5, .int (zI (x5 + 1))), (0, .ref a_v), (1, .int (zI x1)), (2, .int (zI x2)), (3, .int (zI x3)), (4, .int (zI x4))]) hx hb dX10_read_47 hl rfl (by decide) rfl (fun ls hl => ?_)
        refine lv_goto (tgt := 26) hx hb dX10_read_50 (by decide) ?_
        exact ih v_torn (upZ v_before (x5).toNat (v_st (x5).toNat)) v_st x1 x2 x3 x4 (x5 + 1) _ _ _ _ hP hS (lv_sub hl [1, 2, 3, 4, 5, 0] rfl) h K
  have L77 : ∀ (fuel : Nat) (v_torn : Int) (v_before : Nat → Int) (v_st : Nat → Int) (x1 : Int) (x2 : Int) (x3 : Int) (x4 : Int) (x5 : Int) (x6 : Int) (x7 : Int) (x8 : Int) (H : Heap) (locs : List Loc) (ls : Array Slot) (ex : Int), va_P D vwCl (wd_X10_read cy a_v a_v_before a_v_cells a_v_lanes a_v_sizes a_v_st a_v_now a_v_isKept a_v_draft a_v_placedRow a_v_tape a_v_by a_v_told a_v_bestRow a_v_ways v_hasOrder v_hasStart v_placed v_placedMany v_highest v_taped v_pos v_begun v_sort v_value v_fault v_wrongAt v_rightSum v_wrongSum v_allWays v_torn v_before v_cells v_lanes v_sizes v_st) H → va_S A s.heap H locs → lv_has ls 11 [(0, .ref a_v), (1, .int (zI x1)), (2, .int (zI x2)), (3, .int (zI x3)), (4, .int (zI x4)), (5, .int (zI x5)), (6, .int (zI x6)), (7, .int (zI x7)), (8, .int (zI x8))] → f_M_read_L77 fuel v_lanes v_sizes x1 x2 x3 x5 x7 x8 = some ex → (∀ (H : Heap) (locs : List Loc) (ls : Array Slot), va_P D vwCl (wd_X10_read cy a_v a_v_before a_v_cells a_v_lanes a_v_sizes a_v_st a_v_now a_v_isKept a_v_draft a_v_placedRow a_v_tape a_v_by a_v_told a_v_bestRow a_v_ways v_hasOrder v_hasStart v_placed v_placedMany v_highest v_taped v_pos v_begun v_sort v_value v_fault v_wrongAt v_rightSum v_wrongSum v_allWays v_torn v_before v_cells v_lanes v_sizes v_st) H → va_S A s.heap H locs → lv_has ls 11 [(0, .ref a_v), (1, .int (zI x1)), (2, .int (zI x2)), (3, .int (zI x3)), (4, .int (zI x4)), (5, .int (zI ex)), (6, .int (zI x6)), (7, .int (zI x7))] → W p l e { frames := 4, cells := 0, slots := 0, locals := 90 } s m args below meth c H locs 0 0 QQ (F0 m 164 ls [])) → W p l e { frames := 4, cells := 0, slots := 0, locals := 90 } s m args below meth c H locs 0 0 QQ (F0 m 77 ls []) := by
    intro fuel
    induction fuel with
    | zero => intro _ _ _ _ _ _ _ _ _ _ _ H locs ls ex hP hS hl h K; cases h
    | succ fuel ih =>
      intro v_torn v_before v_st x1 x2 x3 x4 x5 x6 x7 x8 H locs ls ex hP hS hl h K
      refine lv_iload hx hb dX10_read_77 (lv_at hl 8 rfl) ?_
      refine wi_ic hx hb dX10_read_79 ?_
      obtain ⟨hr26, h⟩ := chk_some h
      refine wi_ic_ge (tgt := 164) hx hb dX10_read_80 (by decide) hr26 (by decide) (fun c28 => ?_) (fun c28 => ?_)
      · have h := ite_t c28 h
        obtain rfl := Option.some.inj h
        exact K _ _ _ hP hS (lv_sub hl [0, 1, 2, 3, 4, 5, 6, 7] rfl)
      · have h := ite_f c28 h
        refine lv_iload hx hb dX10_read_83 (lv_at hl 5 rfl) ?_
        obtain ⟨hr29, h⟩ := chk_some h
        refine wi_if_ne (tgt := 164) hx hb dX10_read_85 (by decide) hr29 (fun c31 => ?_) (fun c31 => ?_)
        · have h := ite_f c31 h
          obtain rfl := Option.some.inj h
          exact K _ _ _ hP hS (lv_sub hl [0, 1, 2, 3, 4, 5, 6, 7] rfl)
        · have h := ite_t c31 h
          refine lv_iload_n hx hb dX10_read_88 rfl (lv_at hl 3 rfl) ?_
          obtain ⟨hr32, h⟩ := chk_some h
          refine wi_i2l hx hb dX10_read_89 hr32 ?_
          refine wi_ic hx hb dX10_read_90 ?_
          refine lv_iload hx hb dX10_read_91 (lv_at hl 7 rfl) ?_
          refine wi_imul hx hb dX10_read_93 ?_
          obtain ⟨hr33, h⟩ := chk_some h
          refine wi_i2l hx hb dX10_read_94 hr33 ?_
          refine wi_ladd hx hb dX10_read_95 ?_
          refine lv_iload hx hb dX10_read_96 (lv_at hl 8 rfl) ?_
          refine wi_i2l hx hb dX10_read_98 hr26 ?_
          refine wi_ladd hx hb dX10_read_99 ?_
          refine lv_lstore (lv' := [(9, .long (zL ((x3 + (3 * x7)) + x8))), (0, .ref a_v), (1, .int (zI x1)), (2, .int (zI x2)), (3, .int (zI x3)), (4, .int (zI x4)), (5, .int (zI x5)), (6, .int (zI x6)), (7, .int (zI x7)), (8, .int (zI x8))]) hx hb dX10_read_100 hl (by decide) rfl (fun ls hl => ?_)
          refine lv_aload_n hx hb dX10_read_102 rfl (lv_at hl 1 rfl) ?_
          refine wi_get (v := .ref a_v_lanes) hx hb hts iX10 hown hE hP 0 rfl rfl 25 (by decide) q4 rfl dX10_read_103 ?_
          refine lv_iload_n hx hb dX10_read_106 rfl (lv_at hl 2 rfl) ?_
          obtain ⟨hk34, h⟩ := chk_some h
          refine wi_iald hx hb hE hP 3 rfl (by decide) hk34 dX10_read_107 ?_
          refine wi_bi hx hb dX10_read_108 (by decide) ?_
          obtain ⟨hr35, h⟩ := chk_some h
          refine wi_ic_ne (tgt := 117) hx hb dX10_read_110 (by decide) hr35 (by decide) (fun c37 => ?_) (fun c37 => ?_)
          · have h := ite_f c37 h
            refine lv_aload_n hx hb dX10_read_117 rfl (lv_at hl 1 rfl) ?_
            refine wi_get (v := .ref a_v_lanes) hx hb hts iX10 hown hE hP 0 rfl rfl 25 (by decide) q4 rfl dX10_read_118 ?_
            refine lv_iload_n hx hb dX10_read_121 rfl (lv_at hl 2 rfl) ?_
            refine wi_iald hx hb hE hP 3 rfl (by decide) hk34 dX10_read_122 ?_
            refine lv_iload_n hx hb dX10_read_123 rfl (lv_at hl 3 rfl) ?_
            obtain ⟨hr38, h⟩ := chk_some h
            refine wi_ic_eq (tgt := 131) hx hb dX10_read_124 (by decide) hr35 hr38 (fun c40 => ?_) (fun c40 => ?_)
            · have h := ite_t c40 h
              refine lv_lload hx hb dX10_read_131 (lv_at hl 0 rfl) ?_
              refine wi_lc (v := 0) hx hb dX10_read_133 rfl ?_
              obtain ⟨hk41, h⟩ := chk_some h
              refine wi_lcmp hx hb dX10_read_134 hk41 (by decide) ?_
              refine wi_if_lt (tgt := 151) hx hb dX10_read_135 (by decide) (cmpZ_inR _ _) (fun c43 => ?_) (fun c43 => ?_)
              · have h := ite_t c43 h
                refine wi_ic hx hb dX10_read_151 ?_
                refine lv_goto (tgt := 156) hx hb dX10_read_152 (by decide) ?_
                refine lv_istore (lv' := [(5, .int (zI 2)), (9, .long (zL ((x3 + (3 * x7)) + x8))), (0, .ref a_v), (1, .int (zI x1)), (2, .int (zI x2)), (3, .int (zI x3)), (4, .int (zI x4)), (6, .int (zI x6)), (7, .int (zI x7)), (8, .int (zI x8))]) hx hb dX10_read_156 hl (by decide) rfl (fun ls hl => ?_)
                refine wi_iinc (k := 9) (lv' := [(8, .int (zI (x8 + 1))), (5, .int (zI 2)), (9, .long (zL ((x3 + (3 * x7)) + x8))), (0, .ref a_v), (1, .int (zI x1)), (2, .int (zI x2)), (3, .int (zI x3)), (4, .int (zI x4)), (6, .int (zI x6)), (7, .int (zI x7))]) hx hb dX10_read_158 hl rfl (by decide) rfl (fun ls hl => ?_)
                refine lv_goto (tgt := 77) hx hb dX10_read_161 (by decide) ?_
                exact ih v_torn v_before v_st x1 x2 x3 x4 2 x6 x7 (x8 + 1) _ _ _ _ hP hS (lv_sub hl [3, 4, 5, 6, 7, 1, 8, 9, 0] rfl) h K
              · have h := ite_f c43 h
                refine lv_lload hx hb dX10_read_138 (lv_at hl 0 rfl) ?_
                refine lv_aload_n hx hb dX10_read_140 rfl (lv_at hl 1 rfl) ?_
                refine wi_get (v := .ref a_v_sizes) hx hb hts iX10 hown hE hP 0 rfl rfl 26 (by decide) q5 rfl dX10_read_141 ?_
                refine lv_iload_n hx hb dX10_read_144 rfl (lv_at hl 2 rfl) ?_
                refine wi_iald hx hb hE hP 4 rfl (by decide) hk34 dX10_read_145 ?_
                obtain ⟨hr44, h⟩ := chk_some h
                refine wi_i2l hx hb dX10_read_146 hr44 ?_
                refine wi_lcmp hx hb dX10_read_147 hk41 (inL_of hr44) ?_
                refine wi_if_lt (tgt := 155) hx hb dX10_read_148 (by decide) (cmpZ_inR _ _) (fun c46 => ?_) (fun c46 => ?_)
                · have h := ite_t c46 h
                  refine wi_ic hx hb dX10_read_155 ?_
                  refine lv_istore (lv' := [(5, .int (zI 0)), (9, .long (zL ((x3 + (3 * x7)) + x8))), (0, .ref a_v), (1, .int (zI x1)), (2, .int (zI x2)), (3, .int (zI x3)), (4, .int (zI x4)), (6, .int (zI x6)), (7, .int (zI x7)), (8, .int (zI x8))]) hx hb dX10_read_156 hl (by decide) rfl (fun ls hl => ?_)
                  refine wi_iinc (k := 9) (lv' := [(8, .int (zI (x8 + 1))), (5, .int (zI 0)), (9, .long (zL ((x3 + (3 * x7)) + x8))), (0, .ref a_v), (1, .int (zI x1)), (2, .int (zI x2)), (3, .int (zI x3)), (4, .int (zI x4)), (6, .int (zI x6)), (7, .int (zI x7))]) hx hb dX10_read_158 hl rfl (by decide) rfl (fun ls hl => ?_)
                  refine lv_goto (tgt := 77) hx hb dX10_read_161 (by decide) ?_
                  exact ih v_torn v_before v_st x1 x2 x3 x4 0 x6 x7 (x8 + 1) _ _ _ _ hP hS (lv_sub hl [3, 4, 5, 6, 7, 1, 8, 9, 0] rfl) h K
                · have h := ite_f c46 h
                  refine wi_ic hx hb dX10_read_151 ?_
                  refine lv_goto (tgt := 156) hx hb dX10_read_152 (by decide) ?_
                  refine lv_istore (lv' := [(5, .int (zI 2)), (9, .long (zL ((x3 + (3 * x7)) + x8))), (0, .ref a_v), (1, .int (zI x1)), (2, .int (zI x2)), (3, .int (zI x3)), (4, .int (zI x4)), (6, .int (zI x6)), (7, .int (zI x7)), (8, .int (zI x8))]) hx hb dX10_read_156 hl (by decide) rfl (fun ls hl => ?_)
                  refine wi_iinc (k := 9) (lv' := [(8, .int (zI (x8 + 1))), (5, .int (zI 2)), (9, .long (zL ((x3 + (3 * x7)) + x8))), (0, .ref a_v), (1, .int (zI x1)), (2, .int (zI x2)), (3, .int (zI x3)), (4, .int (zI x4)), (6, .int (zI x6)), (7, .int (zI x7))]) hx hb dX10_read_158 hl rfl (by decide) rfl (fun ls hl => ?_)
                  refine lv_goto (tgt := 77) hx hb dX10_read_161 (by decide) ?_
                  exact ih v_torn v_before v_st x1 x2 x3 x4 2 x6 x7 (x8 + 1) _ _ _ _ hP hS (lv_sub hl [3, 4, 5, 6, 7, 1, 8, 9, 0] rfl) h K
            · have h := ite_f c40 h
              refine wi_ic hx hb dX10_read_127 ?_
              refine lv_goto (tgt := 156) hx hb dX10_read_128 (by decide) ?_
              refine lv_istore (lv' := [(5, .int (zI 3)), (9, .long (zL ((x3 + (3 * x7)) + x8))), (0, .ref a_v), (1, .int (zI x1)), (2, .int (zI x2)), (3, .int (zI x3)), (4, .int (zI x4)), (6, .int (zI x6)), (7, .int (zI x7)), (8, .int (zI x8))]) hx hb dX10_read_156 hl (by decide) rfl (fun ls hl => ?_)
              refine wi_iinc (k := 9) (lv' := [(8, .int (zI (x8 + 1))), (5, .int (zI 3)), (9, .long (zL ((x3 + (3 * x7)) + x8))), (0, .ref a_v), (1, .int (zI x1)), (2, .int (zI x2)), (3, .int (zI x3)), (4, .int (zI x4)), (6, .int (zI x6)), (7, .int (zI x7))]) hx hb dX10_read_158 hl rfl (by decide) rfl (fun ls hl => ?_)
              refine lv_goto (tgt := 77) hx hb dX10_read_161 (by decide) ?_
              exact ih v_torn v_before v_st x1 x2 x3 x4 3 x6 x7 (x8 + 1) _ _ _ _ hP hS (lv_sub hl [3, 4, 5, 6, 7, 1, 8, 9, 0] rfl) h K
          · have h := ite_t c37 h
            refine wi_ic hx hb dX10_read_113 ?_
            refine lv_goto (tgt := 156) hx hb dX10_read_114 (by decide) ?_
            refine lv_istore (lv' := [(5, .int (zI 1)), (9, .long (zL ((x3 + (3 * x7)) + x8))), (0, .ref a_v), (1, .int (zI x1)), (2, .int (zI x2)), (3, .int (zI x3)), (4, .int (zI x4)), (6, .int (zI x6)), (7, .int (zI x7)), (8, .int (zI x8))]) hx hb dX10_read_156 hl (by decide) rfl (fun ls hl => ?_)
            refine wi_iinc (k := 9) (lv' := [(8, .int (zI (x8 + 1))), (5, .int (zI 1)), (9, .long (zL ((x3 + (3 * x7)) + x8))), (0, .ref a_v), (1, .int (zI x1)), (2, .int (zI x2)), (3, .int (zI x3)), (4, .int (zI x4)), (6, .int (zI x6)), (7, .int (zI x7))]) hx hb dX10_read_158 hl rfl (by decide) rfl (fun ls hl => ?_)
            refine lv_goto (tgt := 77) hx hb dX10_read_161 (by decide) ?_
            exact ih v_torn v_before v_st x1 x2 x3 x4 1 x6 x7 (x8 + 1) _ _ _ _ hP hS (lv_sub hl [3, 4, 5, 6, 7, 1, 8, 9, 0] rfl) h K
  have L217 : ∀ (fuel : Nat) (v_torn : Int) (v_before : Nat → Int) (v_st : Nat → Int) (x7 : Int) (x9 : Int) (H : Heap) (locs : List Loc) (ls : Array Slot) (ex : (Nat → Int)), va_P D vwCl (wd_X10_read cy a_v a_v_before a_v_cells a_v_lanes a_v_sizes a_v_st a_v_now a_v_isKept a_v_draft a_v_placedRow a_v_tape a_v_by a_v_told a_v_bestRow a_v_ways v_hasOrder v_hasStart v_placed v_placedMany v_highest v_taped v_pos v_begun v_sort v_value v_fault v_wrongAt v_rightSum v_wrongSum v_allWays v_torn v_before v_cells v_lanes v_sizes v_st) H → va_S A s.heap H locs → lv_has ls 11 [(0, .ref a_v), (7, .int (zI x7)), (9, .int (zI x9))] → f_M_read_L217 fuel v_before v_st x9 = some ex → (∀ (H : Heap) (locs : List Loc) (ls : Array Slot), va_P D vwCl (wd_X10_read cy a_v a_v_before a_v_cells a_v_lanes a_v_sizes a_v_st a_v_now a_v_isKept a_v_draft a_v_placedRow a_v_tape a_v_by a_v_told a_v_bestRow a_v_ways v_hasOrder v_hasStart v_placed v_placedMany v_highest v_taped v_pos v_begun v_sort v_value v_fault v_wrongAt v_rightSum v_wrongSum v_allWays v_torn v_before v_cells v_lanes v_sizes ex) H → va_S A s.heap H locs → lv_has ls 11 [(7, .int (zI x7))] → W p l e { frames := 4, cells := 0, slots := 0, locals := 90 } s m args below meth c H locs 0 0 QQ (F0 m 244 ls [])) → W p l e { frames := 4, cells := 0, slots := 0, locals := 90 } s m args below meth c H locs 0 0 QQ (F0 m 217 ls []) := by
    intro fuel
    induction fuel with
    | zero => intro _ _ _ _ _ H locs ls ex hP hS hl h K; cases h
    | succ fuel ih =>
      intro v_torn v_before v_st x7 x9 H locs ls ex hP hS hl h K
      refine lv_iload hx hb dX10_read_217 (lv_at hl 2 rfl) ?_
      refine wi_bi hx hb dX10_read_219 (by decide) ?_
      obtain ⟨hr60, h⟩ := chk_some h
      refine wi_ic_ge (tgt := 244) hx hb dX10_read_221 (by decide) hr60 (by decide) (fun c62 => ?_) (fun c62 => ?_)
      · have h := ite_t c62 h
        obtain rfl := Option.some.inj h
        exact K _ _ _ hP hS (lv_sub hl [1] rfl)
      · have h := ite_f c62 h
        refine lv_aload_n hx hb dX10_read_224 rfl (lv_at hl 0 rfl) ?_
        refine wi_get (v := .ref a_v_st) hx hb hts iX10 hown hE hP 0 rfl rfl 0 (by decide) q2 rfl dX10_read_225 ?_
        refine lv_iload hx hb dX10_read_228 (lv_at hl 2 rfl) ?_
        refine lv_aload_n hx hb dX10_read_230 rfl (lv_at hl 0 rfl) ?_
        refine wi_get (v := .ref a_v_before) hx hb hts iX10 hown hE hP 0 rfl rfl 29 (by decide) q1 rfl dX10_read_231 ?_
        refine lv_iload hx hb dX10_read_234 (lv_at hl 2 rfl) ?_
        obtain ⟨hk63, h⟩ := chk_some h
        refine wi_iald hx hb hE hP 1 rfl (by decide) hk63 dX10_read_236 ?_
        obtain ⟨hk64, h⟩ := chk_some h
        refine wi_iast (w2 := (wd_X10_read cy a_v a_v_before a_v_cells a_v_lanes a_v_sizes a_v_st a_v_now a_v_isKept a_v_draft a_v_placedRow a_v_tape a_v_by a_v_told a_v_bestRow a_v_ways v_hasOrder v_hasStart v_placed v_placedMany v_highest v_taped v_pos v_begun v_sort v_value v_fault v_wrongAt v_rightSum v_wrongSum v_allWays v_torn v_before v_cells v_lanes v_sizes (upZ v_st (x9).toNat (v_before (x9).toNat)))) hx hb hE hP hDD rfl hS 5 rfl (by decide) hk64 dX10_read_237 rfl (fun H locs hP hS => ?_)
        refine wi_iinc (k := 2) (lv' := [(9, .int (zI (x9 + 1))), (0, .ref a_v), (7, .int (zI x7))]) hx hb dX10_read_238 hl rfl (by decide) rfl (fun ls hl => ?_)
        refine lv_goto (tgt := 217) hx hb dX10_read_241 (by decide) ?_
        exact ih v_torn v_before (upZ v_st (x9).toNat (v_before (x9).toNat)) x7 (x9 + 1) _ _ _ _ hP hS (lv_sub hl [1, 2, 0] rfl) h K
  have L62 : ∀ (fuel : Nat) (v_torn : Int) (v_before : Nat → Int) (v_st : Nat → Int) (x1 : Int) (x2 : Int) (x3 : Int) (x4 : Int) (x5 : Int) (x6 : Int) (x7 : Int) (H : Heap) (locs : List Loc) (ls : Array Slot), va_P D vwCl (wd_X10_read cy a_v a_v_before a_v_cells a_v_lanes a_v_sizes a_v_st a_v_now a_v_isKept a_v_draft a_v_placedRow a_v_tape a_v_by a_v_told a_v_bestRow a_v_ways v_hasOrder v_hasStart v_placed v_placedMany v_highest v_taped v_pos v_begun v_sort v_value v_fault v_wrongAt v_rightSum v_wrongSum v_allWays v_torn v_before v_cells v_lanes v_sizes v_st) H → va_S A s.heap H locs → lv_has ls 11 [(0, .ref a_v), (1, .int (zI x1)), (2, .int (zI x2)), (3, .int (zI x3)), (4, .int (zI x4)), (5, .int (zI x5)), (6, .int (zI x6)), (7, .int (zI x7))] → f_M_read_L62 fuel v_torn v_before v_cells v_lanes v_sizes v_st x1 x2 x3 x4 x5 x6 x7 = some o → W p l e { frames := 4, cells := 0, slots := 0, locals := 90 } s m args below meth c H locs 0 0 QQ (F0 m 62 ls []) := by
    intro fuel
    induction fuel with
    | zero => intro _ _ _ _ _ _ _ _ _ _ H locs ls hP hS hl h; cases h
    | succ fuel ih =>
      intro v_torn v_before v_st x1 x2 x3 x4 x5 x6 x7 H locs ls hP hS hl h
      refine lv_iload hx hb dX10_read_62 (lv_at hl 7 rfl) ?_
      refine lv_iload hx hb dX10_read_64 (lv_at hl 4 rfl) ?_
      obtain ⟨hr19, h⟩ := chk_some h
      obtain ⟨hr20, h⟩ := chk_some h
      refine wi_ic_ge (tgt := 259) hx hb dX10_read_66 (by decide) hr19 hr20 (fun c22 => ?_) (fun c22 => ?_)
      · have h := ite_t c22 h
        refine lv_aload_n hx hb dX10_read_259 rfl (lv_at hl 0 rfl) ?_
        refine lv_iload hx hb dX10_read_260 (lv_at hl 5 rfl) ?_
        refine wi_put (ty := .int) (v := .int (zI x5)) (w2 := (wd_X10_read cy a_v a_v_before a_v_cells a_v_lanes a_v_sizes a_v_st a_v_now a_v_isKept a_v_draft a_v_placedRow a_v_tape a_v_by a_v_told a_v_bestRow a_v_ways v_hasOrder v_hasStart v_placed v_placedMany v_highest v_taped v_pos v_begun v_sort v_value v_fault v_wrongAt v_rightSum v_wrongSum v_allWays x5 v_before v_cells v_lanes v_sizes v_st)) hx hb hts iX10 tyX10 tyX10_ok nmX10 hown hE hP hDD rfl hS 0 rfl rfl 28 (by decide) q3 rfl (by decide +kernel) rfl rfl (Nat.le_of_ble_eq_true rfl) dX10_read_262 rfl (fun H locs hP hS => ?_)
        refine lv_iload hx hb dX10_read_265 (lv_at hl 6 rfl) ?_
        obtain rfl := Option.some.inj h
        exact KR _ _ _ _ hP hS dX10_read_267
      · have h := ite_f c22 h
        refine lv_iload hx hb dX10_read_69 (lv_at hl 5 rfl) ?_
        obtain ⟨hr23, h⟩ := chk_some h
        refine wi_if_ne (tgt := 259) hx hb dX10_read_71 (by decide) hr23 (fun c25 => ?_) (fun c25 => ?_)
        · have h := ite_f c25 h
          refine lv_aload_n hx hb dX10_read_259 rfl (lv_at hl 0 rfl) ?_
          refine lv_iload hx hb dX10_read_260 (lv_at hl 5 rfl) ?_
          refine wi_put (ty := .int) (v := .int (zI x5)) (w2 := (wd_X10_read cy a_v a_v_before a_v_cells a_v_lanes a_v_sizes a_v_st a_v_now a_v_isKept a_v_draft a_v_placedRow a_v_tape a_v_by a_v_told a_v_bestRow a_v_ways v_hasOrder v_hasStart v_placed v_placedMany v_highest v_taped v_pos v_begun v_sort v_value v_fault v_wrongAt v_rightSum v_wrongSum v_allWays x5 v_before v_cells v_lanes v_sizes v_st)) hx hb hts iX10 tyX10 tyX10_ok nmX10 hown hE hP hDD rfl hS 0 rfl rfl 28 (by decide) q3 rfl (by decide +kernel) rfl rfl (Nat.le_of_ble_eq_true rfl) dX10_read_262 rfl (fun H locs hP hS => ?_)
          refine lv_iload hx hb dX10_read_265 (lv_at hl 6 rfl) ?_
          obtain rfl := Option.some.inj h
          exact KR _ _ _ _ hP hS dX10_read_267
        · have h := ite_t c25 h
          refine wi_ic hx hb dX10_read_74 ?_
          refine lv_istore (lv' := [(8, .int (zI 0)), (0, .ref a_v), (1, .int (zI x1)), (2, .int (zI x2)), (3, .int (zI x3)), (4, .int (zI x4)), (5, .int (zI x5)), (6, .int (zI x6)), (7, .int (zI x7))]) hx hb dX10_read_75 hl (by decide) rfl (fun ls hl => ?_)
          obtain ⟨o47, hx48, h⟩ := bnd_some h
          refine L77 5000 v_torn v_before v_st x1 x2 x3 x4 x5 x6 x7 0 _ _ _ _ hP hS (lv_sub hl [1, 2, 3, 4, 5, 6, 7, 8, 0] rfl) hx48 ?_
          clear hx48
          intro H locs ls hP hS hl
          refine lv_iload hx hb dX10_read_164 (lv_at hl 5 rfl) ?_
          obtain ⟨hr49, h⟩ := chk_some h
          refine wi_if_ne (tgt := 253) hx hb dX10_read_166 (by decide) hr49 (fun c51 => ?_) (fun c51 => ?_)
          · have h := ite_f c51 h
            refine wi_iinc (k := 7) (lv' := [(7, .int (zI (x7 + 1))), (0, .ref a_v), (1, .int (zI x1)), (2, .int (zI x2)), (3, .int (zI x3)), (4, .int (zI x4)), (5, .int (zI o47)), (6, .int (zI x6))]) hx hb dX10_read_253 hl rfl (by decide) rfl (fun ls hl => ?_)
            refine lv_goto (tgt := 62) hx hb dX10_read_256 (by decide) ?_
            exact ih v_torn v_before v_st x1 x2 x3 x4 o47 x6 (x7 + 1) _ _ _ hP hS (lv_sub hl [1, 2, 3, 4, 5, 6, 7, 0] rfl) h
          · have h := ite_t c51 h
            refine wi_bi hx hb dX10_read_169 (by decide) ?_
            refine lv_iload_n hx hb dX10_read_171 rfl (lv_at hl 1 rfl) ?_
            refine wi_imul hx hb dX10_read_172 ?_
            refine lv_iload_n hx hb dX10_read_173 rfl (lv_at hl 3 rfl) ?_
            refine wi_iadd hx hb dX10_read_174 ?_
            refine wi_ic hx hb dX10_read_175 ?_
            refine lv_iload hx hb dX10_read_176 (lv_at hl 7 rfl) ?_
            refine wi_imul hx hb dX10_read_178 ?_
            refine wi_iadd hx hb dX10_read_179 ?_
            refine lv_istore (lv' := [(8, .int (zI (((40 * x1) + x3) + (3 * x7)))), (0, .ref a_v), (1, .int (zI x1)), (2, .int (zI x2)), (3, .int (zI x3)), (4, .int (zI x4)), (5, .int (zI o47)), (6, .int (zI x6)), (7, .int (zI x7))]) hx hb dX10_read_180 hl (by decide) rfl (fun ls hl => ?_)
            refine lv_aload_n hx hb dX10_read_182 rfl (lv_at hl 1 rfl) ?_
            refine lv_aload_n hx hb dX10_read_183 rfl (lv_at hl 1 rfl) ?_
            refine wi_get (v := .ref a_v_cells) hx hb hts iX10 hown hE hP 0 rfl rfl 27 (by decide) q6 rfl dX10_read_184 ?_
            refine lv_iload hx hb dX10_read_187 (lv_at hl 0 rfl) ?_
            obtain ⟨hk52, h⟩ := chk_some h
            refine wi_iald hx hb hE hP 2 rfl (by decide) hk52 dX10_read_189 ?_
            refine lv_aload_n hx hb dX10_read_190 rfl (lv_at hl 1 rfl) ?_
            refine wi_get (v := .ref a_v_cells) hx hb hts iX10 hown hE hP 0 rfl rfl 27 (by decide) q6 rfl dX10_read_191 ?_
            refine lv_iload hx hb dX10_read_194 (lv_at hl 0 rfl) ?_
            refine wi_ic hx hb dX10_read_196 ?_
            refine wi_iadd hx hb dX10_read_197 ?_
            obtain ⟨hk53, h⟩ := chk_some h
            refine wi_iald hx hb hE hP 2 rfl (by decide) hk53 dX10_read_198 ?_
            refine lv_aload_n hx hb dX10_read_199 rfl (lv_at hl 1 rfl) ?_
            refine wi_get (v := .ref a_v_cells) hx hb hts iX10 hown hE hP 0 rfl rfl 27 (by decide) q6 rfl dX10_read_200 ?_
            refine lv_iload hx hb dX10_read_203 (lv_at hl 0 rfl) ?_
            refine wi_ic hx hb dX10_read_205 ?_
            refine wi_iadd hx hb dX10_read_206 ?_
            obtain ⟨hk54, h⟩ := chk_some h
            refine wi_iald hx hb hE hP 2 rfl (by decide) hk54 dX10_read_207 ?_
            obtain ⟨o55, hc56, h⟩ := bnd_some h
            refine cV_i (rest := []) (w2 := (wd_X10_read cy a_v a_v_before a_v_cells a_v_lanes a_v_sizes a_v_st a_v_now a_v_isKept a_v_draft a_v_placedRow a_v_tape a_v_by a_v_told a_v_bestRow a_v_ways v_hasOrder v_hasStart v_placed v_placedMany v_highest v_taped v_pos v_begun v_sort v_value v_fault v_wrongAt v_rightSum v_wrongSum v_allWays v_torn v_before v_cells v_lanes v_sizes o55.2)) ⟨hx, hb, hml, hown, hts⟩ (c_X10_sew l D cy sa a_v a_v_st a_v_now a_v_isKept a_v_draft a_v_placedRow a_v_tape a_v_by a_v_told a_v_bestRow a_v_ways a_v_lanes a_v_sizes a_v_cells a_v_before v_hasOrder v_hasStart v_placed v_placedMany v_highest v_taped v_pos v_begun v_sort v_value v_fault v_wrongAt v_rightSum v_wrongSum v_allWays v_torn v_st (v_cells (((40 * x1) + x3) + (3 * x7)).toNat) (v_cells ((((40 * x1) + x3) + (3 * x7)) + 1).toNat) (v_cells ((((40 * x1) + x3) + (3 * x7)) + 2).toNat) o55 hc56) (cwV 3 hts gX10_read_X10_sew rfl rfl rfl (by decide +kernel) ⟨Nat.le_of_ble_eq_true rfl, Nat.le_of_ble_eq_true rfl⟩) rfl rfl rfl hE hP hDD rfl hS [0, 5] rfl rfl rfl rfl hl.1 (Nat.le_of_ble_eq_true rfl) ⟨Nat.zero_le _, Nat.zero_le _⟩ rfl dX10_read_208 rfl (fun H locs hP hS => ?_)
            obtain ⟨hr57, h⟩ := chk_some h
            refine wi_if_ge (tgt := 250) hx hb dX10_read_211 (by decide) hr57 (fun c59 => ?_) (fun c59 => ?_)
            · have h := ite_t c59 h
              refine wi_iinc (k := 7) (lv' := [(6, .int (zI (x6 + 1))), (8, .int (zI (((40 * x1) + x3) + (3 * x7)))), (0, .ref a_v), (1, .int (zI x1)), (2, .int (zI x2)), (3, .int (zI x3)), (4, .int (zI x4)), (5, .int (zI o47)), (7, .int (zI x7))]) hx hb dX10_read_250 hl rfl (by decide) rfl (fun ls hl => ?_)
              refine wi_iinc (k := 8) (lv' := [(7, .int (zI (x7 + 1))), (6, .int (zI (x6 + 1))), (8, .int (zI (((40 * x1) + x3) + (3 * x7)))), (0, .ref a_v), (1, .int (zI x1)), (2, .int (zI x2)), (3, .int (zI x3)), (4, .int (zI x4)), (5, .int (zI o47))]) hx hb dX10_read_253 hl rfl (by decide) rfl (fun ls hl => ?_)
              refine lv_goto (tgt := 62) hx hb dX10_read_256 (by decide) ?_
              exact ih v_torn v_before o55.2 x1 x2 x3 x4 o47 (x6 + 1) (x7 + 1) _ _ _ hP hS (lv_sub hl [3, 4, 5, 6, 7, 8, 1, 0] rfl) h
            · have h := ite_f c59 h
              refine wi_ic hx hb dX10_read_214 ?_
              refine lv_istore (lv' := [(9, .int (zI 0)), (8, .int (zI (((40 * x1) + x3) + (3 * x7)))), (0, .ref a_v), (1, .int (zI x1)), (2, .int (zI x2)), (3, .int (zI x3)), (4, .int (zI x4)), (5, .int (zI o47)), (6, .int (zI x6)), (7, .int (zI x7))]) hx hb dX10_read_215 hl (by decide) rfl (fun ls hl => ?_)
              obtain ⟨o65, hx66, h⟩ := bnd_some h
              refine L217 5000 v_torn v_before o55.2 x7 0 _ _ _ _ hP hS (lv_sub hl [2, 9, 0] rfl) hx66 ?_
              clear hx66
              intro H locs ls hP hS hl
              refine wi_bi hx hb dX10_read_244 (by decide) ?_
              refine lv_iload hx hb dX10_read_246 (lv_at hl 0 rfl) ?_
              refine wi_isub hx hb dX10_read_248 ?_
              obtain rfl := Option.some.inj h
              exact KR _ _ _ _ hP hS dX10_read_249
  refine lv_iload_n hx hb dX10_read_0 rfl (lv_at hl 1 rfl) ?_
  refine lv_iload_n hx hb dX10_read_1 rfl (lv_at hl 2 rfl) ?_
  obtain ⟨o1, hc2, h⟩ := bnd_some h
  refine cS_i (rest := []) (w2 := (wd_X10_read cy a_v a_v_before a_v_cells a_v_lanes a_v_sizes a_v_st a_v_now a_v_isKept a_v_draft a_v_placedRow a_v_tape a_v_by a_v_told a_v_bestRow a_v_ways v_hasOrder v_hasStart v_placed v_placedMany v_highest v_taped v_pos v_begun v_sort v_value v_fault v_wrongAt v_rightSum v_wrongSum v_allWays v_torn v_before v_cells v_lanes v_sizes v_st)) ⟨hx, hb, hml, hown, hts⟩ (c_X10_isSheet l D cy sa x1 x2 o1 hc2) (va_cwS 2 hts gX10_read_X10_isSheet rfl rfl rfl (by decide +kernel) ⟨Nat.le_of_ble_eq_true rfl, Nat.le_of_ble_eq_true rfl⟩) hE hP hDD rfl hS [] rfl rfl rfl rfl hl.1 (Nat.le_of_ble_eq_true rfl) ⟨Nat.zero_le _, Nat.zero_le _⟩ rfl dX10_read_2 rfl (fun H locs hP hS => ?_)
  obtain ⟨hr3, h⟩ := chk_some h
  refine wi_if_eq (tgt := 21) hx hb dX10_read_5 (by decide) hr3 (fun c5 => ?_) (fun c5 => ?_)
  · have h := ite_t c5 h
    refine wi_ic hx hb dX10_read_21 ?_
    obtain rfl := Option.some.inj h
    exact KR _ _ _ _ hP hS dX10_read_22
  · have h := ite_f c5 h
    refine lv_iload hx hb dX10_read_8 (lv_at hl 4 rfl) ?_
    obtain ⟨hr6, h⟩ := chk_some h
    refine wi_i2l hx hb dX10_read_10 hr6 ?_
    refine wi_lc (v := 0) hx hb dX10_read_11 rfl ?_
    refine wi_ldc2 (n := 13) hx hb hown q0 dX10_read_12 rfl ?_
    obtain ⟨o7, hc8, h⟩ := bnd_some h
    refine cS_i (rest := []) (w2 := (wd_X10_read cy a_v a_v_before a_v_cells a_v_lanes a_v_sizes a_v_st a_v_now a_v_isKept a_v_draft a_v_placedRow a_v_tape a_v_by a_v_told a_v_bestRow a_v_ways v_hasOrder v_hasStart v_placed v_placedMany v_highest v_taped v_pos v_begun v_sort v_value v_fault v_wrongAt v_rightSum v_wrongSum v_allWays v_torn v_before v_cells v_lanes v_sizes v_st)) ⟨hx, hb, hml, hown, hts⟩ (c_X10_in l D cy sa x4 0 13 o7 hc8) (va_cwS 3 hts gX10_read_X10_in rfl rfl rfl (by decide +kernel) ⟨Nat.le_of_ble_eq_true rfl, Nat.le_of_ble_eq_true rfl⟩) hE hP hDD rfl hS [] rfl rfl rfl rfl hl.1 (Nat.le_of_ble_eq_true rfl) ⟨Nat.zero_le _, Nat.zero_le _⟩ rfl dX10_read_15 rfl (fun H locs hP hS => ?_)
    obtain ⟨hr9, h⟩ := chk_some h
    refine wi_if_ne (tgt := 23) hx hb dX10_read_18 (by decide) hr9 (fun c11 => ?_) (fun c11 => ?_)
    · have h := ite_f c11 h
      refine wi_ic hx hb dX10_read_23 ?_
      refine lv_istore (lv' := [(5, .int (zI 0)), (0, .ref a_v), (1, .int (zI x1)), (2, .int (zI x2)), (3, .int (zI x3)), (4, .int (zI x4))]) hx hb dX10_read_24 hl (by decide) rfl (fun ls hl => ?_)
      obtain ⟨o17, hx18, h⟩ := bnd_some h
      refine L26 5000 v_torn v_before v_st x1 x2 x3 x4 0 _ _ _ _ hP hS (lv_sub hl [1, 2, 3, 4, 5, 0] rfl) hx18 ?_
      clear hx18
      intro H locs ls hP hS hl
      refine wi_ic hx hb dX10_read_53 ?_
      refine lv_istore (lv' := [(5, .int (zI 0)), (0, .ref a_v), (1, .int (zI x1)), (2, .int (zI x2)), (3, .int (zI x3)), (4, .int (zI x4))]) hx hb dX10_read_54 hl (by decide) rfl (fun ls hl => ?_)
      refine wi_ic hx hb dX10_read_56 ?_
      refine lv_istore (lv' := [(6, .int (zI 0)), (5, .int (zI 0)), (0, .ref a_v), (1, .int (zI x1)), (2, .int (zI x2)), (3, .int (zI x3)), (4, .int (zI x4))]) hx hb dX10_read_57 hl (by decide) rfl (fun ls hl => ?_)
      refine wi_ic hx hb dX10_read_59 ?_
      refine lv_istore (lv' := [(7, .int (zI 0)), (6, .int (zI 0)), (5, .int (zI 0)), (0, .ref a_v), (1, .int (zI x1)), (2, .int (zI x2)), (3, .int (zI x3)), (4, .int (zI x4))]) hx hb dX10_read_60 hl (by decide) rfl (fun ls hl => ?_)
      exact L62 5000 v_torn o17 v_st x1 x2 x3 x4 0 0 0 _ _ _ hP hS (lv_sub hl [3, 4, 5, 6, 7, 2, 1, 0] rfl) h
    · have h := ite_t c11 h
      refine wi_ic hx hb dX10_read_21 ?_
      obtain rfl := Option.some.inj h
      exact KR _ _ _ _ hP hS dX10_read_22
abbrev wd_X10_torn (cy : Nat → ClassId) (a_v : Nat) (a_v_st : Nat) (a_v_now : Nat) (a_v_isKept : Nat) (a_v_draft : Nat) (a_v_placedRow : Nat) (a_v_tape : Nat) (a_v_by : Nat) (a_v_told : Nat) (a_v_bestRow : Nat) (a_v_ways : Nat) (a_v_lanes : Nat) (a_v_sizes : Nat) (a_v_cells : Nat) (a_v_before : Nat) (v_hasOrder : Int) (v_hasStart : Int) (v_placed : Int) (v_placedMany : Int) (v_highest : Int) (v_taped : Int) (v_pos : Int) (v_begun : Int) (v_sort : Int) (v_value : Int) (v_fault : Int) (v_wrongAt : Int) (v_rightSum : Int) (v_wrongSum : Int) (v_allWays : Int) (v_torn : Int) : va_W := [(a_v, .inr (10, [.ref a_v_st, .ref a_v_now, .ref a_v_isKept, .ref a_v_draft, .int (zI v_hasOrder), .int (zI v_hasStart), .int (zI v_placed), .int (zI v_placedMany), .ref a_v_placedRow, .int (zI v_highest), .ref a_v_tape, .int (zI v_taped), .int (zI v_pos), .int (zI v_begun), .int (zI v_sort), .int (zI v_value), .int (zI v_fault), .int (zI v_wrongAt), .ref a_v_by, .ref a_v_told, .ref a_v_bestRow, .long (zL v_rightSum), .long (zL v_wrongSum), .long (zL v_allWays), .ref a_v_ways, .ref a_v_lanes, .ref a_v_sizes, .ref a_v_cells, .int (zI v_torn), .ref a_v_before]))]
set_option maxHeartbeats 4000000 in
set_option maxRecDepth 100000 in
theorem c_X10_torn (l : Launch) (D : va_G) (cy : Nat → ClassId) (sa : Nat → Nat) (a_v : Nat) (a_v_st : Nat) (a_v_now : Nat) (a_v_isKept : Nat) (a_v_draft : Nat) (a_v_placedRow : Nat) (a_v_tape : Nat) (a_v_by : Nat) (a_v_told : Nat) (a_v_bestRow : Nat) (a_v_ways : Nat) (a_v_lanes : Nat) (a_v_sizes : Nat) (a_v_cells : Nat) (a_v_before : Nat) (v_hasOrder : Int) (v_hasStart : Int) (v_placed : Int) (v_placedMany : Int) (v_highest : Int) (v_taped : Int) (v_pos : Int) (v_begun : Int) (v_sort : Int) (v_value : Int) (v_fault : Int) (v_wrongAt : Int) (v_rightSum : Int) (v_wrongSum : Int) (v_allWays : Int) (v_torn : Int) (o : Int) (h : f_M_torn v_torn = some o) : CtI l yX10_torn wsX10_torn ({ frames := 0, cells := 0, slots := 0, locals := 0 }) D cy sa [.ref a_v] (wd_X10_torn cy a_v a_v_st a_v_now a_v_isKept a_v_draft a_v_placedRow a_v_tape a_v_by a_v_told a_v_bestRow a_v_ways a_v_lanes a_v_sizes a_v_cells a_v_before v_hasOrder v_hasStart v_placed v_placedMany v_highest v_taped v_pos v_begun v_sort v_value v_fault v_wrongAt v_rightSum v_wrongSum v_allWays v_torn) (wd_X10_torn cy a_v a_v_st a_v_now a_v_isKept a_v_draft a_v_placedRow a_v_tape a_v_by a_v_told a_v_bestRow a_v_ways a_v_lanes a_v_sizes a_v_cells a_v_before v_hasOrder v_hasStart v_placed v_placedMany v_highest v_taped v_pos v_begun v_sort v_value v_fault v_wrongAt v_rightSum v_wrongSum v_allWays v_torn) o := by
  refine ct_I (cc := cX10_torn) (maxL := 1) (plainFor_of_name (by decide)) rfl (Nat.le_of_ble_eq_true rfl) ?_
  intro p e s m below meth c A args QQ hx hb hml hown hts hE hDD hP KR ls hl
  have hl : lv_has ls 1 [(0, .ref a_v)] := hl
  have hDD : DD A [a_v] := hDD
  have hS : va_S A s.heap s.heap [] := va_S.rf
  have q0 := hts (.fieldLink RX10 294 "HatHoursModel" "torn" "I") (List.mem_of_getElem? (i := 1) rfl)
  have iX10 : ∀ w ∈ u_ws RX10 TX10 30, w ∈ wsX10_torn := in_slice 2 30 rfl
  refine lv_aload_n hx hb dX10_torn_0 rfl (lv_at hl 0 rfl) ?_
  refine wi_get (v := .int (zI v_torn)) hx hb hts iX10 hown hE hP 0 rfl rfl 28 (by decide) q0 rfl dX10_torn_1 ?_
  obtain rfl := Option.some.inj h
  exact KR _ _ _ _ hP hS dX10_torn_4
abbrev wd_X10_count (cy : Nat → ClassId) (a_v : Nat) (a_v_isKept : Nat) (a_v_lanes : Nat) (a_v_now : Nat) (a_v_sizes : Nat) (a_v_st : Nat) (a_v_draft : Nat) (a_v_placedRow : Nat) (a_v_tape : Nat) (a_v_by : Nat) (a_v_told : Nat) (a_v_bestRow : Nat) (a_v_ways : Nat) (a_v_cells : Nat) (a_v_before : Nat) (v_hasOrder : Int) (v_hasStart : Int) (v_placed : Int) (v_placedMany : Int) (v_highest : Int) (v_taped : Int) (v_pos : Int) (v_begun : Int) (v_sort : Int) (v_value : Int) (v_fault : Int) (v_wrongAt : Int) (v_rightSum : Int) (v_wrongSum : Int) (v_allWays : Int) (v_torn : Int) (v_isKept : Nat → Int) (v_lanes : Nat → Int) (v_now : Nat → Int) (v_sizes : Nat → Int) (v_st : Nat → Int) : va_W := [(a_v, .inr (10, [.ref a_v_st, .ref a_v_now, .ref a_v_isKept, .ref a_v_draft, .int (zI v_hasOrder), .int (zI v_hasStart), .int (zI v_placed), .int (zI v_placedMany), .ref a_v_placedRow, .int (zI v_highest), .ref a_v_tape, .int (zI v_taped), .int (zI v_pos), .int (zI v_begun), .int (zI v_sort), .int (zI v_value), .int (zI v_fault), .int (zI v_wrongAt), .ref a_v_by, .ref a_v_told, .ref a_v_bestRow, .long (zL v_rightSum), .long (zL v_wrongSum), .long (zL v_allWays), .ref a_v_ways, .ref a_v_lanes, .ref a_v_sizes, .ref a_v_cells, .int (zI v_torn), .ref a_v_before])), (a_v_isKept, .inl (cy 3, 2, .inl (fun j => zI (v_isKept j)))), (a_v_lanes, .inl (cy 0, 4, .inl (fun j => zI (v_lanes j)))), (a_v_now, .inl (cy 0, 56, .inl (fun j => zI (v_now j)))), (a_v_sizes, .inl (cy 0, 4, .inl (fun j => zI (v_sizes j)))), (a_v_st, .inl (cy 0, 168, .inl (fun j => zI (v_st j))))]
set_option maxHeartbeats 4000000 in
set_option maxRecDepth 100000 in
theorem c_X10_count (l : Launch) (D : va_G) (cy : Nat → ClassId) (sa : Nat → Nat) (a_v : Nat) (a_v_isKept : Nat) (a_v_lanes : Nat) (a_v_now : Nat) (a_v_sizes : Nat) (a_v_st : Nat) (a_v_draft : Nat) (a_v_placedRow : Nat) (a_v_tape : Nat) (a_v_by : Nat) (a_v_told : Nat) (a_v_bestRow : Nat) (a_v_ways : Nat) (a_v_cells : Nat) (a_v_before : Nat) (v_hasOrder : Int) (v_hasStart : Int) (v_placed : Int) (v_placedMany : Int) (v_highest : Int) (v_taped : Int) (v_pos : Int) (v_begun : Int) (v_sort : Int) (v_value : Int) (v_fault : Int) (v_wrongAt : Int) (v_rightSum : Int) (v_wrongSum : Int) (v_allWays : Int) (v_torn : Int) (v_isKept : Nat → Int) (v_lanes : Nat → Int) (v_now : Nat → Int) (v_sizes : Nat → Int) (v_st : Nat → Int) (x1 : Int) (o : Int × (Nat → Int)) (h : f_M_count v_taped v_isKept v_lanes v_now v_sizes v_st x1 = some o) : CtI l yX10_count wsX10_count ({ frames := 2, cells := 0, slots := 0, locals := 45 }) D cy sa [.ref a_v, .int (zI x1)] (wd_X10_count cy a_v a_v_isKept a_v_lanes a_v_now a_v_sizes a_v_st a_v_draft a_v_placedRow a_v_tape a_v_by a_v_told a_v_bestRow a_v_ways a_v_cells a_v_before v_hasOrder v_hasStart v_placed v_placedMany v_highest v_taped v_pos v_begun v_sort v_value v_fault v_wrongAt v_rightSum v_wrongSum v_allWays v_torn v_isKept v_lanes v_now v_sizes v_st) (wd_X10_count cy a_v a_v_isKept a_v_lanes a_v_now a_v_sizes a_v_st a_v_draft a_v_placedRow a_v_tape a_v_by a_v_told a_v_bestRow a_v_ways a_v_cells a_v_before v_hasOrder v_hasStart v_placed v_placedMany v_highest v_taped v_pos v_begun v_sort v_value v_fault v_wrongAt v_rightSum v_wrongSum v_allWays v_torn v_isKept v_lanes o.2 v_sizes v_st) o.1 := by
  refine ct_I (cc := cX10_count) (maxL := 2) (plainFor_of_name (by decide)) rfl (Nat.le_of_ble_eq_true rfl) ?_
  intro p e s m below meth c A args QQ hx hb hml hown hts hE hDD hP KR ls hl
  have hl : lv_has ls 2 [(0, .ref a_v), (1, .int (zI x1))] := hl
  have hDD : DD A [a_v, a_v_isKept, a_v_lanes, a_v_now, a_v_sizes, a_v_st] := hDD
  have hS : va_S A s.heap s.heap [] := va_S.rf
  have q0 := hts (.fieldLink RX10 7 "HatHoursModel" "st" "[I") (List.mem_of_getElem? (i := 1) rfl)
  have q1 := hts (.fieldLink RX10 16 "HatHoursModel" "isKept" "[Z") (List.mem_of_getElem? (i := 2) rfl)
  have q2 := hts (.fieldLink RX10 82 "HatHoursModel" "taped" "I") (List.mem_of_getElem? (i := 3) rfl)
  have q3 := hts (.fieldLink RX10 41 "HatHoursModel" "lanes" "[I") (List.mem_of_getElem? (i := 4) rfl)
  have q4 := hts (.fieldLink RX10 44 "HatHoursModel" "sizes" "[I") (List.mem_of_getElem? (i := 5) rfl)
  have iX10 : ∀ w ∈ u_ws RX10 TX10 30, w ∈ wsX10_count := in_slice 23 30 rfl
  refine lv_aload_n hx hb dX10_count_0 rfl (lv_at hl 0 rfl) ?_
  obtain ⟨o1, hc2, h⟩ := bnd_some h
  refine cV_v (rest := []) (w2 := (wd_X10_count cy a_v a_v_isKept a_v_lanes a_v_now a_v_sizes a_v_st a_v_draft a_v_placedRow a_v_tape a_v_by a_v_told a_v_bestRow a_v_ways a_v_cells a_v_before v_hasOrder v_hasStart v_placed v_placedMany v_highest v_taped v_pos v_begun v_sort v_value v_fault v_wrongAt v_rightSum v_wrongSum v_allWays v_torn v_isKept v_lanes o1 v_sizes v_st)) ⟨hx, hb, hml, hown, hts⟩ (c_X10_fetches l D cy sa a_v a_v_now a_v_st a_v_isKept a_v_draft a_v_placedRow a_v_tape a_v_by a_v_told a_v_bestRow a_v_ways a_v_lanes a_v_sizes a_v_cells a_v_before v_hasOrder v_hasStart v_placed v_placedMany v_highest v_taped v_pos v_begun v_sort v_value v_fault v_wrongAt v_rightSum v_wrongSum v_allWays v_torn v_now v_st o1 hc2) (cwV 0 hts gX10_count_X10_fetches rfl rfl rfl (by decide +kernel) ⟨Nat.le_of_ble_eq_true rfl, Nat.le_of_ble_eq_true rfl⟩) rfl rfl rfl hE hP hDD rfl hS [0, 3, 5] rfl rfl rfl rfl hl.1 (Nat.le_of_ble_eq_true rfl) ⟨Nat.zero_le _, Nat.zero_le _⟩ rfl dX10_count_1 rfl (fun H locs hP hS => ?_)
  refine lv_iload_n hx hb dX10_count_4 rfl (lv_at hl 1 rfl) ?_
  obtain ⟨hr3, h⟩ := chk_some h
  by_cases c4 : x1 = 0
  · have h := ite_t c4 h
    refine wi_tIn (v := 0) (off := 35) (tgt := 40) hx hb dX10_count_5 c4 (by decide) (by decide) (by decide) (by decide) ?_
    refine lv_aload_n hx hb dX10_count_40 rfl (lv_at hl 0 rfl) ?_
    refine wi_get (v := .ref a_v_st) hx hb hts iX10 hown hE hP 0 rfl rfl 0 (by decide) q0 rfl dX10_count_41 ?_
    refine wi_bi hx hb dX10_count_44 (by decide) ?_
    refine wi_iald hx hb hE hP 5 rfl (by decide) (by decide) dX10_count_46 ?_
    obtain rfl := Option.some.inj h
    exact KR _ _ _ _ hP hS dX10_count_47
  have h := ite_f c4 h
  by_cases c5 : x1 = 1
  · have h := ite_t c5 h
    refine wi_tIn (v := 1) (off := 43) (tgt := 48) hx hb dX10_count_5 c5 (by decide) (by decide) (by decide) (by decide) ?_
    refine lv_aload_n hx hb dX10_count_48 rfl (lv_at hl 0 rfl) ?_
    refine wi_get (v := .ref a_v_isKept) hx hb hts iX10 hown hE hP 0 rfl rfl 2 (by decide) q1 rfl dX10_count_49 ?_
    refine wi_ic hx hb dX10_count_52 ?_
    refine wi_zald hx hb hE hP 1 rfl (by decide) (by decide) dX10_count_53 ?_
    obtain ⟨o6, hc7, h⟩ := bnd_some h
    refine cS_i (rest := []) (w2 := (wd_X10_count cy a_v a_v_isKept a_v_lanes a_v_now a_v_sizes a_v_st a_v_draft a_v_placedRow a_v_tape a_v_by a_v_told a_v_bestRow a_v_ways a_v_cells a_v_before v_hasOrder v_hasStart v_placed v_placedMany v_highest v_taped v_pos v_begun v_sort v_value v_fault v_wrongAt v_rightSum v_wrongSum v_allWays v_torn v_isKept v_lanes o1 v_sizes v_st)) ⟨hx, hb, hml, hown, hts⟩ (c_X10_flag l D cy sa (v_isKept 0) o6 hc7) (va_cwS 1 hts gX10_count_X10_flag rfl rfl rfl (by decide +kernel) ⟨Nat.le_of_ble_eq_true rfl, Nat.le_of_ble_eq_true rfl⟩) hE hP hDD rfl hS [] rfl rfl rfl rfl hl.1 (Nat.le_of_ble_eq_true rfl) ⟨Nat.zero_le _, Nat.zero_le _⟩ rfl dX10_count_54 rfl (fun H locs hP hS => ?_)
    refine lv_aload_n hx hb dX10_count_57 rfl (lv_at hl 0 rfl) ?_
    refine wi_get (v := .ref a_v_isKept) hx hb hts iX10 hown hE hP 0 rfl rfl 2 (by decide) q1 rfl dX10_count_58 ?_
    refine wi_ic hx hb dX10_count_61 ?_
    refine wi_zald hx hb hE hP 1 rfl (by decide) (by decide) dX10_count_62 ?_
    obtain ⟨o8, hc9, h⟩ := bnd_some h
    refine cS_i (rest := [.int (zI o6)]) (w2 := (wd_X10_count cy a_v a_v_isKept a_v_lanes a_v_now a_v_sizes a_v_st a_v_draft a_v_placedRow a_v_tape a_v_by a_v_told a_v_bestRow a_v_ways a_v_cells a_v_before v_hasOrder v_hasStart v_placed v_placedMany v_highest v_taped v_pos v_begun v_sort v_value v_fault v_wrongAt v_rightSum v_wrongSum v_allWays v_torn v_isKept v_lanes o1 v_sizes v_st)) ⟨hx, hb, hml, hown, hts⟩ (c_X10_flag l D cy sa (v_isKept 1) o8 hc9) (va_cwS 1 hts gX10_count_X10_flag rfl rfl rfl (by decide +kernel) ⟨Nat.le_of_ble_eq_true rfl, Nat.le_of_ble_eq_true rfl⟩) hE hP hDD rfl hS [] rfl rfl rfl rfl hl.1 (Nat.le_of_ble_eq_true rfl) ⟨Nat.zero_le _, Nat.zero_le _⟩ rfl dX10_count_63 rfl (fun H locs hP hS => ?_)
    refine wi_iadd hx hb dX10_count_66 ?_
    obtain rfl := Option.some.inj h
    exact KR _ _ _ _ hP hS dX10_count_67
  have h := ite_f c5 h
  by_cases c10 : x1 = 2
  · have h := ite_t c10 h
    refine wi_tIn (v := 2) (off := 63) (tgt := 68) hx hb dX10_count_5 c10 (by decide) (by decide) (by decide) (by decide) ?_
    refine lv_aload_n hx hb dX10_count_68 rfl (lv_at hl 0 rfl) ?_
    refine wi_get (v := .int (zI v_taped)) hx hb hts iX10 hown hE hP 0 rfl rfl 11 (by decide) q2 rfl dX10_count_69 ?_
    obtain rfl := Option.some.inj h
    exact KR _ _ _ _ hP hS dX10_count_72
  have h := ite_f c10 h
  by_cases c11 : x1 = 3
  · have h := ite_t c11 h
    refine wi_tIn (v := 3) (off := 68) (tgt := 73) hx hb dX10_count_5 c11 (by decide) (by decide) (by decide) (by decide) ?_
    refine lv_aload_n hx hb dX10_count_73 rfl (lv_at hl 0 rfl) ?_
    refine wi_get (v := .ref a_v_lanes) hx hb hts iX10 hown hE hP 0 rfl rfl 25 (by decide) q3 rfl dX10_count_74 ?_
    refine wi_ic hx hb dX10_count_77 ?_
    refine wi_iald hx hb hE hP 2 rfl (by decide) (by decide) dX10_count_78 ?_
    refine wi_bi hx hb dX10_count_79 (by decide) ?_
    obtain ⟨hr12, h⟩ := chk_some h
    refine wi_ic_ne (tgt := 89) hx hb dX10_count_81 (by decide) hr12 (by decide) (fun c14 => ?_) (fun c14 => ?_)
    · have h := ite_f c14 h
      refine lv_aload_n hx hb dX10_count_89 rfl (lv_at hl 0 rfl) ?_
      refine wi_get (v := .ref a_v_sizes) hx hb hts iX10 hown hE hP 0 rfl rfl 26 (by decide) q4 rfl dX10_count_90 ?_
      refine wi_ic hx hb dX10_count_93 ?_
      refine wi_iald hx hb hE hP 4 rfl (by decide) (by decide) dX10_count_94 ?_
      obtain rfl := Option.some.inj h
      exact KR _ _ _ _ hP hS dX10_count_95
    · have h := ite_t c14 h
      refine wi_bi hx hb dX10_count_84 (by decide) ?_
      refine lv_goto (tgt := 95) hx hb dX10_count_86 (by decide) ?_
      obtain rfl := Option.some.inj h
      exact KR _ _ _ _ hP hS dX10_count_95
  have h := ite_f c11 h
  by_cases c15 : x1 = 4
  · have h := ite_t c15 h
    refine wi_tIn (v := 4) (off := 91) (tgt := 96) hx hb dX10_count_5 c15 (by decide) (by decide) (by decide) (by decide) ?_
    refine lv_aload_n hx hb dX10_count_96 rfl (lv_at hl 0 rfl) ?_
    refine wi_ic hx hb dX10_count_97 ?_
    obtain ⟨o16, hc17, h⟩ := bnd_some h
    refine cV_i (rest := []) (w2 := (wd_X10_count cy a_v a_v_isKept a_v_lanes a_v_now a_v_sizes a_v_st a_v_draft a_v_placedRow a_v_tape a_v_by a_v_told a_v_bestRow a_v_ways a_v_cells a_v_before v_hasOrder v_hasStart v_placed v_placedMany v_highest v_taped v_pos v_begun v_sort v_value v_fault v_wrongAt v_rightSum v_wrongSum v_allWays v_torn v_isKept v_lanes o1 v_sizes v_st)) ⟨hx, hb, hml, hown, hts⟩ (c_X10_allOf l D cy sa a_v a_v_now a_v_st a_v_isKept a_v_draft a_v_placedRow a_v_tape a_v_by a_v_told a_v_bestRow a_v_ways a_v_lanes a_v_sizes a_v_cells a_v_before v_hasOrder v_hasStart v_placed v_placedMany v_highest v_taped v_pos v_begun v_sort v_value v_fault v_wrongAt v_rightSum v_wrongSum v_allWays v_torn o1 3 o16 hc17) (cwV 1 hts gX10_count_X10_allOf rfl rfl rfl (by decide +kernel) ⟨Nat.le_of_ble_eq_true rfl, Nat.le_of_ble_eq_true rfl⟩) rfl rfl rfl hE hP hDD rfl hS [0, 3] rfl rfl rfl rfl hl.1 (Nat.le_of_ble_eq_true rfl) ⟨Nat.zero_le _, Nat.zero_le _⟩ rfl dX10_count_98 rfl (fun H locs hP hS => ?_)
    obtain rfl := Option.some.inj h
    exact KR _ _ _ _ hP hS dX10_count_101
  have h := ite_f c15 h
  refine wi_tOut (tgt := 102) hx hb dX10_count_5 hr3 (by omega) (by decide) ?_
  refine wi_ic hx hb dX10_count_102 ?_
  obtain rfl := Option.some.inj h
  exact KR _ _ _ _ hP hS dX10_count_103
