abbrev wd_X10_drift (cy : Nat → ClassId) (a_v : Nat) (a_v_by : Nat) (a_v_now : Nat) (a_v_st : Nat) (a_v_told : Nat) (a_v_isKept : Nat) (a_v_draft : Nat) (a_v_placedRow : Nat) (a_v_tape : Nat) (a_v_bestRow : Nat) (a_v_ways : Nat) (a_v_lanes : Nat) (a_v_sizes : Nat) (a_v_cells : Nat) (a_v_before : Nat) (v_hasOrder : Int) (v_hasStart : Int) (v_placed : Int) (v_placedMany : Int) (v_highest : Int) (v_taped : Int) (v_pos : Int) (v_begun : Int) (v_sort : Int) (v_value : Int) (v_fault : Int) (v_wrongAt : Int) (v_rightSum : Int) (v_wrongSum : Int) (v_allWays : Int) (v_torn : Int) (v_by : Nat → Int) (v_now : Nat → Int) (v_st : Nat → Int) (v_told : Nat → Int) : va_W := [(a_v, .inr (10, [.ref a_v_st, .ref a_v_now, .ref a_v_isKept, .ref a_v_draft, .int (zI v_hasOrder), .int (zI v_hasStart), .int (zI v_placed), .int (zI v_placedMany), .ref a_v_placedRow, .int (zI v_highest), .ref a_v_tape, .int (zI v_taped), .int (zI v_pos), .int (zI v_begun), .int (zI v_sort), .int (zI v_value), .int (zI v_fault), .int (zI v_wrongAt), .ref a_v_by, .ref a_v_told, .ref a_v_bestRow, .long (zL v_rightSum), .long (zL v_wrongSum), .long (zL v_allWays), .ref a_v_ways, .ref a_v_lanes, .ref a_v_sizes, .ref a_v_cells, .int (zI v_torn), .ref a_v_before])), (a_v_by, .inl (cy 0, 120, .inl (fun j => zI (v_by j)))), (a_v_now, .inl (cy 0, 56, .inl (fun j => zI (v_now j)))), (a_v_st, .inl (cy 0, 168, .inl (fun j => zI (v_st j)))), (a_v_told, .inl (cy 0, 120, .inl (fun j => zI (v_told j))))]
set_option maxHeartbeats 4000000 in
set_option maxRecDepth 100000 in
theorem c_X10_drift (l : Launch) (D : va_G) (cy : Nat → ClassId) (sa : Nat → Nat) (a_v : Nat) (a_v_by : Nat) (a_v_now : Nat) (a_v_st : Nat) (a_v_told : Nat) (a_v_isKept : Nat) (a_v_draft : Nat) (a_v_placedRow : Nat) (a_v_tape : Nat) (a_v_bestRow : Nat) (a_v_ways : Nat) (a_v_lanes : Nat) (a_v_sizes : Nat) (a_v_cells : Nat) (a_v_before : Nat) (v_hasOrder : Int) (v_hasStart : Int) (v_placed : Int) (v_placedMany : Int) (v_highest : Int) (v_taped : Int) (v_pos : Int) (v_begun : Int) (v_sort : Int) (v_value : Int) (v_fault : Int) (v_wrongAt : Int) (v_rightSum : Int) (v_wrongSum : Int) (v_allWays : Int) (v_torn : Int) (v_by : Nat → Int) (v_now : Nat → Int) (v_st : Nat → Int) (v_told : Nat → Int) (x1 : Int) (x2 : Int) (x3 : Int) (o : Int × (Nat → Int) × (Nat → Int) × (Nat → Int)) (h : f_M_drift v_by v_now v_st v_told x1 x2 x3 = some o) : CtI l yX10_drift wsX10_drift ({ frames := 5, cells := 0, slots := 0, locals := 111 }) D cy sa [.ref a_v, .int (zI x1), .int (zI x2), .int (zI x3)] (wd_X10_drift cy a_v a_v_by a_v_now a_v_st a_v_told a_v_isKept a_v_draft a_v_placedRow a_v_tape a_v_bestRow a_v_ways a_v_lanes a_v_sizes a_v_cells a_v_before v_hasOrder v_hasStart v_placed v_placedMany v_highest v_taped v_pos v_begun v_sort v_value v_fault v_wrongAt v_rightSum v_wrongSum v_allWays v_torn v_by v_now v_st v_told) (wd_X10_drift cy a_v a_v_by a_v_now a_v_st a_v_told a_v_isKept a_v_draft a_v_placedRow a_v_tape a_v_bestRow a_v_ways a_v_lanes a_v_sizes a_v_cells a_v_before v_hasOrder v_hasStart v_placed v_placedMany v_highest v_taped v_pos v_begun v_sort v_value v_fault v_wrongAt v_rightSum v_wrongSum v_allWays v_torn o.2.1 o.2.2.1 v_st o.2.2.2) o.1 := by
  refine ct_I (cc := cX10_drift) (maxL := 11) (plainFor_of_name (by decide)) rfl (Nat.le_of_ble_eq_true rfl) ?_
  intro p e s m below meth c A args QQ hx hb hml hown hts hE hDD hP KR ls hl
  have hl : lv_has ls 11 [(0, .ref a_v), (1, .int (zI x1)), (2, .int (zI x2)), (3, .int (zI x3))] := hl
  have hDD : DD A [a_v, a_v_by, a_v_now, a_v_st, a_v_told] := hDD
  have hS : va_S A s.heap s.heap [] := va_S.rf
  have q0 := hts (.constantLong RX10 278 (60)) (List.mem_of_getElem? (i := 1) rfl)
  have q1 := hts (.fieldLink RX10 7 "HatHoursModel" "st" "[I") (List.mem_of_getElem? (i := 2) rfl)
  have q2 := hts (.constant RX10 280 (1103515245)) (List.mem_of_getElem? (i := 3) rfl)
  have q3 := hts (.fieldLink RX10 13 "HatHoursModel" "now" "[I") (List.mem_of_getElem? (i := 4) rfl)
  have iX10 : ∀ w ∈ u_ws RX10 TX10 30, w ∈ wsX10_drift := in_slice 64 30 rfl
  have L47 : ∀ (fuel : Nat) (v_by : Nat → Int) (v_now : Nat → Int) (v_told : Nat → Int) (x2 : Int) (x3 : Int) (x4 : Int) (x5 : Int) (x6 : Int) (H : Heap) (locs : List Loc) (ls : Array Slot) (ex : Int × (Nat → Int)), va_P D vwCl (wd_X10_drift cy a_v a_v_by a_v_now a_v_st a_v_told a_v_isKept a_v_draft a_v_placedRow a_v_tape a_v_bestRow a_v_ways a_v_lanes a_v_sizes a_v_cells a_v_before v_hasOrder v_hasStart v_placed v_placedMany v_highest v_taped v_pos v_begun v_sort v_value v_fault v_wrongAt v_rightSum v_wrongSum v_allWays v_torn v_by v_now v_st v_told) H → va_S A s.heap H locs → lv_has ls 11 [(0, .ref a_v), (2, .int (zI x2)), (3, .int (zI x3)), (4, .int (zI x4)), (5, .int (zI x5)), (6, .int (zI x6))] → f_M_drift_L47 fuel v_now x2 x4 x5 x6 = some ex → (∀ (H : Heap) (locs : List Loc) (ls : Array Slot), va_P D vwCl (wd_X10_drift cy a_v a_v_by a_v_now a_v_st a_v_told a_v_isKept a_v_draft a_v_placedRow a_v_tape a_v_bestRow a_v_ways a_v_lanes a_v_sizes a_v_cells a_v_before v_hasOrder v_hasStart v_placed v_placedMany v_highest v_taped v_pos v_begun v_sort v_value v_fault v_wrongAt v_rightSum v_wrongSum v_allWays v_torn v_by ex.2 v_st v_told) H → va_S A s.heap H locs → lv_has ls 11 [(0, .ref a_v), (3, .int (zI x3)), (5, .int (zI ex.1))] → W p l e { frames := 5, cells := 0, slots := 0, locals := 111 } s m args below meth c H locs 0 0 QQ (F0 m 177 ls [])) → W p l e { frames := 5, cells := 0, slots := 0, locals := 111 } s m args below meth c H locs 0 0 QQ (F0 m 47 ls []) := by
    intro fuel
    induction fuel with
    | zero => intro _ _ _ _ _ _ _ _ H locs ls ex hP hS hl h K; cases h
    | succ fuel ih =>
      intro v_by v_now v_told x2 x3 x4 x5 x6 H locs ls ex hP hS hl h K
      refine lv_iload hx hb dX10_drift_47 (lv_at hl 5 rfl) ?_
      refine lv_iload_n hx hb dX10_drift_49 rfl (lv_at hl 1 rfl) ?_
      obtain ⟨hr17, h⟩ := chk_some h
      obtain ⟨hr18, h⟩ := chk_some h
      refine wi_ic_ge (tgt := 177) hx hb dX10_drift_50 (by decide) hr17 hr18 (fun c20 => ?_) (fun c20 => ?_)
      · have h := ite_t c20 h
        obtain rfl := Option.some.inj h
        exact K _ _ _ hP hS (lv_sub hl [0, 2, 4] rfl)
      · have h := ite_f c20 h
        refine lv_iload hx hb dX10_drift_53 (lv_at hl 3 rfl) ?_
        refine wi_ldc_w (n := 1103515245) hx hb hown q2 dX10_drift_55 rfl ?_
        refine wi_imul hx hb dX10_drift_58 ?_
        refine wi_si hx hb dX10_drift_59 (by decide) ?_
        refine wi_iadd hx hb dX10_drift_62 ?_
        refine lv_istore (lv' := [(4, .int (zI ((x4 * 1103515245) + 12345))), (0, .ref a_v), (2, .int (zI x2)), (3, .int (zI x3)), (5, .int (zI x5)), (6, .int (zI x6))]) hx hb dX10_drift_63 hl (by decide) rfl (fun ls hl => ?_)
        refine lv_iload hx hb dX10_drift_65 (lv_at hl 0 rfl) ?_
        refine wi_bi hx hb dX10_drift_67 (by decide) ?_
        refine wi_ishr hx hb dX10_drift_69 ?_
        refine wi_si hx hb dX10_drift_70 (by decide) ?_
        refine wi_iand hx hb dX10_drift_73 ?_
        refine lv_istore (lv' := [(7, .int (zI (zand (zshr ((x4 * 1103515245) + 12345) 16) 32767))), (4, .int (zI ((x4 * 1103515245) + 12345))), (0, .ref a_v), (2, .int (zI x2)), (3, .int (zI x3)), (5, .int (zI x5)), (6, .int (zI x6))]) hx hb dX10_drift_74 hl (by decide) rfl (fun ls hl => ?_)
        refine lv_iload hx hb dX10_drift_76 (lv_at hl 0 rfl) ?_
        refine lv_aload_n hx hb dX10_drift_78 rfl (lv_at hl 2 rfl) ?_
        refine wi_get (v := .ref a_v_now) hx hb hts iX10 hown hE hP 0 rfl rfl 1 (by decide) q3 rfl dX10_drift_79 ?_
        refine wi_bi hx hb dX10_drift_82 (by decide) ?_
        refine wi_iald hx hb hE hP 2 rfl (by decide) (by decide) dX10_drift_84 ?_
        obtain ⟨hk21, h⟩ := chk_some h
        refine wi_irem hx hb dX10_drift_85 hk21 ?_
        refine lv_istore (lv' := [(8, .int (zI ((zand (zshr ((x4 * 1103515245) + 12345) 16) 32767) % (v_now 30)))), (7, .int (zI (zand (zshr ((x4 * 1103515245) + 12345) 16) 32767))), (4, .int (zI ((x4 * 1103515245) + 12345))), (0, .ref a_v), (2, .int (zI x2)), (3, .int (zI x3)), (5, .int (zI x5)), (6, .int (zI x6))]) hx hb dX10_drift_86 hl (by decide) rfl (fun ls hl => ?_)
        refine lv_iload hx hb dX10_drift_88 (lv_at hl 1 rfl) ?_
        refine wi_bi hx hb dX10_drift_90 (by decide) ?_
        obtain ⟨hk22, h⟩ := chk_some h
        refine wi_idiv hx hb dX10_drift_92 ⟨hk22, by decide⟩ ?_
        refine lv_aload_n hx hb dX10_drift_93 rfl (lv_at hl 3 rfl) ?_
        refine wi_get (v := .ref a_v_now) hx hb hts iX10 hown hE hP 0 rfl rfl 1 (by decide) q3 rfl dX10_drift_94 ?_
        refine wi_bi hx hb dX10_drift_97 (by decide) ?_
        refine wi_iald hx hb hE hP 2 rfl (by decide) (by decide) dX10_drift_99 ?_
        obtain ⟨hk23, h⟩ := chk_some h
        refine wi_irem hx hb dX10_drift_100 hk23 ?_
        refine lv_istore (lv' := [(9, .int (zI (((zand (zshr ((x4 * 1103515245) + 12345) 16) 32767) / 8) % (v_now 30)))), (8, .int (zI ((zand (zshr ((x4 * 1103515245) + 12345) 16) 32767) % (v_now 30)))), (7, .int (zI (zand (zshr ((x4 * 1103515245) + 12345) 16) 32767))), (4, .int (zI ((x4 * 1103515245) + 12345))), (0, .ref a_v), (2, .int (zI x2)), (3, .int (zI x3)), (5, .int (zI x5)), (6, .int (zI x6))]) hx hb dX10_drift_101 hl (by decide) rfl (fun ls hl => ?_)
        refine lv_aload_n hx hb dX10_drift_103 rfl (lv_at hl 4 rfl) ?_
        refine wi_get (v := .ref a_v_now) hx hb hts iX10 hown hE hP 0 rfl rfl 1 (by decide) q3 rfl dX10_drift_104 ?_
        refine wi_bi hx hb dX10_drift_107 (by decide) ?_
        refine lv_iload hx hb dX10_drift_109 (lv_at hl 1 rfl) ?_
        refine wi_iadd hx hb dX10_drift_111 ?_
        obtain ⟨hk24, h⟩ := chk_some h
        refine wi_iald hx hb hE hP 2 rfl (by decide) hk24 dX10_drift_112 ?_
        refine lv_istore (lv' := [(10, .int (zI (v_now (31 + ((zand (zshr ((x4 * 1103515245) + 12345) 16) 32767) % (v_now 30))).toNat))), (9, .int (zI (((zand (zshr ((x4 * 1103515245) + 12345) 16) 32767) / 8) % (v_now 30)))), (8, .int (zI ((zand (zshr ((x4 * 1103515245) + 12345) 16) 32767) % (v_now 30)))), (7, .int (zI (zand (zshr ((x4 * 1103515245) + 12345) 16) 32767))), (4, .int (zI ((x4 * 1103515245) + 12345))), (0, .ref a_v), (2, .int (zI x2)), (3, .int (zI x3)), (5, .int (zI x5)), (6, .int (zI x6))]) hx hb dX10_drift_113 hl (by decide) rfl (fun ls hl => ?_)
        refine lv_aload_n hx hb dX10_drift_115 rfl (lv_at hl 5 rfl) ?_
        refine wi_get (v := .ref a_v_now) hx hb hts iX10 hown hE hP 0 rfl rfl 1 (by decide) q3 rfl dX10_drift_116 ?_
        refine wi_bi hx hb dX10_drift_119 (by decide) ?_
        refine lv_iload hx hb dX10_drift_121 (lv_at hl 2 rfl) ?_
        refine wi_iadd hx hb dX10_drift_123 ?_
        refine lv_aload_n hx hb dX10_drift_124 rfl (lv_at hl 5 rfl) ?_
        refine wi_get (v := .ref a_v_now) hx hb hts iX10 hown hE hP 0 rfl rfl 1 (by decide) q3 rfl dX10_drift_125 ?_
        refine wi_bi hx hb dX10_drift_128 (by decide) ?_
        refine lv_iload hx hb dX10_drift_130 (lv_at hl 1 rfl) ?_
        refine wi_iadd hx hb dX10_drift_132 ?_
        obtain ⟨hk25, h⟩ := chk_some h
        refine wi_iald hx hb hE hP 2 rfl (by decide) hk25 dX10_drift_133 ?_
        refine wi_iast (w2 := (wd_X10_drift cy a_v a_v_by a_v_now a_v_st a_v_told a_v_isKept a_v_draft a_v_placedRow a_v_tape a_v_bestRow a_v_ways a_v_lanes a_v_sizes a_v_cells a_v_before v_hasOrder v_hasStart v_placed v_placedMany v_highest v_taped v_pos v_begun v_sort v_value v_fault v_wrongAt v_rightSum v_wrongSum v_allWays v_torn v_by (upZ v_now (31 + ((zand (zshr ((x4 * 1103515245) + 12345) 16) 32767) % (v_now 30))).toNat (v_now (31 + (((zand (zshr ((x4 * 1103515245) + 12345) 16) 32767) / 8) % (v_now 30))).toNat)) v_st v_told)) hx hb hE hP hDD rfl hS 2 rfl (by decide) hk24 dX10_drift_134 rfl (fun H locs hP hS => ?_)
        refine lv_aload_n hx hb dX10_drift_135 rfl (lv_at hl 5 rfl) ?_
        refine wi_get (v := .ref a_v_now) hx hb hts iX10 hown hE hP 0 rfl rfl 1 (by decide) q3 rfl dX10_drift_136 ?_
        refine wi_bi hx hb dX10_drift_139 (by decide) ?_
        refine lv_iload hx hb dX10_drift_141 (lv_at hl 1 rfl) ?_
        refine wi_iadd hx hb dX10_drift_143 ?_
        refine lv_iload hx hb dX10_drift_144 (lv_at hl 0 rfl) ?_
        refine wi_iast (w2 := (wd_X10_drift cy a_v a_v_by a_v_now a_v_st a_v_told a_v_isKept a_v_draft a_v_placedRow a_v_tape a_v_bestRow a_v_ways a_v_lanes a_v_sizes a_v_cells a_v_before v_hasOrder v_hasStart v_placed v_placedMany v_highest v_taped v_pos v_begun v_sort v_value v_fault v_wrongAt v_rightSum v_wrongSum v_allWays v_torn v_by (upZ (upZ v_now (31 + ((zand (zshr ((x4 * 1103515245) + 12345) 16) 32767) % (v_now 30))).toNat (v_now (31 + (((zand (zshr ((x4 * 1103515245) + 12345) 16) 32767) / 8) % (v_now 30))).toNat)) (31 + (((zand (zshr ((x4 * 1103515245) + 12345) 16) 32767) / 8) % (v_now 30))).toNat (v_now (31 + ((zand (zshr ((x4 * 1103515245) + 12345) 16) 32767) % (v_now 30))).toNat)) v_st v_told)) hx hb hE hP hDD rfl hS 2 rfl (by decide) hk25 dX10_drift_146 rfl (fun H locs hP hS => ?_)
        refine lv_aload_n hx hb dX10_drift_147 rfl (lv_at hl 5 rfl) ?_
        refine wi_get (v := .ref a_v_now) hx hb hts iX10 hown hE hP 0 rfl rfl 1 (by decide) q3 rfl dX10_drift_148 ?_
        refine wi_bi hx hb dX10_drift_151 (by decide) ?_
        refine lv_iload hx hb dX10_drift_153 (lv_at hl 3 rfl) ?_
        refine wi_bi hx hb dX10_drift_155 (by decide) ?_
        refine wi_idiv hx hb dX10_drift_157 ⟨hk22, by decide⟩ ?_
        refine wi_bi hx hb dX10_drift_158 (by decide) ?_
        obtain ⟨hk26, h⟩ := chk_some h
        refine wi_irem hx hb dX10_drift_160 ⟨hk26, by decide⟩ ?_
        refine wi_iast (w2 := (wd_X10_drift cy a_v a_v_by a_v_now a_v_st a_v_told a_v_isKept a_v_draft a_v_placedRow a_v_tape a_v_bestRow a_v_ways a_v_lanes a_v_sizes a_v_cells a_v_before v_hasOrder v_hasStart v_placed v_placedMany v_highest v_taped v_pos v_begun v_sort v_value v_fault v_wrongAt v_rightSum v_wrongSum v_allWays v_torn v_by (upZ (upZ (upZ v_now (31 + ((zand (zshr ((x4 * 1103515245) + 12345) 16) 32767) % (v_now 30))).toNat (v_now (31 + (((zand (zshr ((x4 * 1103515245) + 12345) 16) 32767) / 8) % (v_now 30))).toNat)) (31 + (((zand (zshr ((x4 * 1103515245) + 12345) 16) 32767) / 8) % (v_now 30))).toNat (v_now (31 + ((zand (zshr ((x4 * 1103515245) + 12345) 16) 32767) % (v_now 30))).toNat)) 36 (((zand (zshr ((x4 * 1103515245) + 12345) 16) 32767) / 64) % 24)) v_st v_told)) hx hb hE hP hDD rfl hS 2 rfl (by decide) (by decide) dX10_drift_161 rfl (fun H locs hP hS => ?_)
        refine lv_iload hx hb dX10_drift_162 (lv_at hl 8 rfl) ?_
        refine lv_aload_n hx hb dX10_drift_164 rfl (lv_at hl 5 rfl) ?_
        obtain ⟨o27, hc28, h⟩ := bnd_some h
        refine cV_i (rest := [.int (zI x5)]) (w2 := (wd_X10_drift cy a_v a_v_by a_v_now a_v_st a_v_told a_v_isKept a_v_draft a_v_placedRow a_v_tape a_v_bestRow a_v_ways a_v_lanes a_v_sizes a_v_cells a_v_before v_hasOrder v_hasStart v_placed v_placedMany v_highest v_taped v_pos v_begun v_sort v_value v_fault v_wrongAt v_rightSum v_wrongSum v_allWays v_torn v_by (upZ (upZ (upZ v_now (31 + ((zand (zshr ((x4 * 1103515245) + 12345) 16) 32767) % (v_now 30))).toNat (v_now (31 + (((zand (zshr ((x4 * 1103515245) + 12345) 16) 32767) / 8) % (v_now 30))).toNat)) (31 + (((zand (zshr ((x4 * 1103515245) + 12345) 16) 32767) / 8) % (v_now 30))).toNat (v_now (31 + ((zand (zshr ((x4 * 1103515245) + 12345) 16) 32767) % (v_now 30))).toNat)) 36 (((zand (zshr ((x4 * 1103515245) + 12345) 16) 32767) / 64) % 24)) v_st v_told)) ⟨hx, hb, hml, hown, hts⟩ (c_X10_allWrong l D cy sa a_v a_v_now a_v_st a_v_isKept a_v_draft a_v_placedRow a_v_tape a_v_by a_v_told a_v_bestRow a_v_ways a_v_lanes a_v_sizes a_v_cells a_v_before v_hasOrder v_hasStart v_placed v_placedMany v_highest v_taped v_pos v_begun v_sort v_value v_fault v_wrongAt v_rightSum v_wrongSum v_allWays v_torn (upZ (upZ (upZ v_now (31 + ((zand (zshr ((x4 * 1103515245) + 12345) 16) 32767) % (v_now 30))).toNat (v_now (31 + (((zand (zshr ((x4 * 1103515245) + 12345) 16) 32767) / 8) % (v_now 30))).toNat)) (31 + (((zand (zshr ((x4 * 1103515245) + 12345) 16) 32767) / 8) % (v_now 30))).toNat (v_now (31 + ((zand (zshr ((x4 * 1103515245) + 12345) 16) 32767) % (v_now 30))).toNat)) 36 (((zand (zshr ((x4 * 1103515245) + 12345) 16) 32767) / 64) % 24)) o27 hc28) (cwV 0 hts gX10_drift_X10_allWrong rfl rfl rfl (by decide +kernel) ⟨Nat.le_of_ble_eq_true rfl, Nat.le_of_ble_eq_true rfl⟩) rfl rfl rfl hE hP hDD rfl hS [0, 2] rfl rfl rfl rfl hl.1 (Nat.le_of_ble_eq_true rfl) ⟨Nat.zero_le _, Nat.zero_le _⟩ rfl dX10_drift_165 rfl (fun H locs hP hS => ?_)
        refine wi_iadd hx hb dX10_drift_168 ?_
        refine lv_istore (lv' := [(5, .int (zI (x5 + o27))), (10, .int (zI (v_now (31 + ((zand (zshr ((x4 * 1103515245) + 12345) 16) 32767) % (v_now 30))).toNat))), (9, .int (zI (((zand (zshr ((x4 * 1103515245) + 12345) 16) 32767) / 8) % (v_now 30)))), (8, .int (zI ((zand (zshr ((x4 * 1103515245) + 12345) 16) 32767) % (v_now 30)))), (7, .int (zI (zand (zshr ((x4 * 1103515245) + 12345) 16) 32767))), (4, .int (zI ((x4 * 1103515245) + 12345))), (0, .ref a_v), (2, .int (zI x2)), (3, .int (zI x3)), (6, .int (zI x6))]) hx hb dX10_drift_169 hl (by decide) rfl (fun ls hl => ?_)
        refine wi_iinc (k := 9) (lv' := [(6, .int (zI (x6 + 1))), (5, .int (zI (x5 + o27))), (10, .int (zI (v_now (31 + ((zand (zshr ((x4 * 1103515245) + 12345) 16) 32767) % (v_now 30))).toNat))), (9, .int (zI (((zand (zshr ((x4 * 1103515245) + 12345) 16) 32767) / 8) % (v_now 30)))), (8, .int (zI ((zand (zshr ((x4 * 1103515245) + 12345) 16) 32767) % (v_now 30)))), (7, .int (zI (zand (zshr ((x4 * 1103515245) + 12345) 16) 32767))), (4, .int (zI ((x4 * 1103515245) + 12345))), (0, .ref a_v), (2, .int (zI x2)), (3, .int (zI x3))]) hx hb dX10_drift_171 hl rfl (by decide) rfl (fun ls hl => ?_)
        refine lv_goto (tgt := 47) hx hb dX10_drift_174 (by decide) ?_
        exact ih v_by (upZ (upZ (upZ v_now (31 + ((zand (zshr ((x4 * 1103515245) + 12345) 16) 32767) % (v_now 30))).toNat (v_now (31 + (((zand (zshr ((x4 * 1103515245) + 12345) 16) 32767) / 8) % (v_now 30))).toNat)) (31 + (((zand (zshr ((x4 * 1103515245) + 12345) 16) 32767) / 8) % (v_now 30))).toNat (v_now (31 + ((zand (zshr ((x4 * 1103515245) + 12345) 16) 32767) % (v_now 30))).toNat)) 36 (((zand (zshr ((x4 * 1103515245) + 12345) 16) 32767) / 64) % 24)) v_told x2 x3 ((x4 * 1103515245) + 12345) (x5 + o27) (x6 + 1) _ _ _ _ hP hS (lv_sub hl [7, 8, 9, 6, 1, 0] rfl) h K
  refine lv_iload_n hx hb dX10_drift_0 rfl (lv_at hl 2 rfl) ?_
  obtain ⟨hr1, h⟩ := chk_some h
  refine wi_i2l hx hb dX10_drift_1 hr1 ?_
  refine wi_lc (v := 1) hx hb dX10_drift_2 rfl ?_
  refine wi_ldc2 (n := 60) hx hb hown q0 dX10_drift_3 rfl ?_
  obtain ⟨o2, hc3, h⟩ := bnd_some h
  refine cS_i (rest := []) (w2 := (wd_X10_drift cy a_v a_v_by a_v_now a_v_st a_v_told a_v_isKept a_v_draft a_v_placedRow a_v_tape a_v_bestRow a_v_ways a_v_lanes a_v_sizes a_v_cells a_v_before v_hasOrder v_hasStart v_placed v_placedMany v_highest v_taped v_pos v_begun v_sort v_value v_fault v_wrongAt v_rightSum v_wrongSum v_allWays v_torn v_by v_now v_st v_told)) ⟨hx, hb, hml, hown, hts⟩ (c_X10_in l D cy sa x2 1 60 o2 hc3) (va_cwS 3 hts gX10_drift_X10_in rfl rfl rfl (by decide +kernel) ⟨Nat.le_of_ble_eq_true rfl, Nat.le_of_ble_eq_true rfl⟩) hE hP hDD rfl hS [] rfl rfl rfl rfl hl.1 (Nat.le_of_ble_eq_true rfl) ⟨Nat.zero_le _, Nat.zero_le _⟩ rfl dX10_drift_6 rfl (fun H locs hP hS => ?_)
  obtain ⟨hr4, h⟩ := chk_some h
  refine wi_if_eq (tgt := 19) hx hb dX10_drift_9 (by decide) hr4 (fun c6 => ?_) (fun c6 => ?_)
  · have h := ite_t c6 h
    refine wi_ic hx hb dX10_drift_19 ?_
    obtain rfl := Option.some.inj h
    exact KR _ _ _ _ hP hS dX10_drift_20
  · have h := ite_f c6 h
    refine lv_iload_n hx hb dX10_drift_12 rfl (lv_at hl 3 rfl) ?_
    obtain ⟨o7, hc8, h⟩ := bnd_some h
    refine cS_i (rest := []) (w2 := (wd_X10_drift cy a_v a_v_by a_v_now a_v_st a_v_told a_v_isKept a_v_draft a_v_placedRow a_v_tape a_v_bestRow a_v_ways a_v_lanes a_v_sizes a_v_cells a_v_before v_hasOrder v_hasStart v_placed v_placedMany v_highest v_taped v_pos v_begun v_sort v_value v_fault v_wrongAt v_rightSum v_wrongSum v_allWays v_torn v_by v_now v_st v_told)) ⟨hx, hb, hml, hown, hts⟩ (c_X10_isPart l D cy sa x3 o7 hc8) (va_cwS 1 hts gX10_drift_X10_isPart rfl rfl rfl (by decide +kernel) ⟨Nat.le_of_ble_eq_true rfl, Nat.le_of_ble_eq_true rfl⟩) hE hP hDD rfl hS [] rfl rfl rfl rfl hl.1 (Nat.le_of_ble_eq_true rfl) ⟨Nat.zero_le _, Nat.zero_le _⟩ rfl dX10_drift_13 rfl (fun H locs hP hS => ?_)
    obtain ⟨hr9, h⟩ := chk_some h
    refine wi_if_ne (tgt := 21) hx hb dX10_drift_16 (by decide) hr9 (fun c11 => ?_) (fun c11 => ?_)
    · have h := ite_f c11 h
      refine lv_aload_n hx hb dX10_drift_21 rfl (lv_at hl 0 rfl) ?_
      refine wi_get (v := .ref a_v_st) hx hb hts iX10 hown hE hP 0 rfl rfl 0 (by decide) q1 rfl dX10_drift_22 ?_
      refine wi_bi hx hb dX10_drift_25 (by decide) ?_
      refine wi_iald hx hb hE hP 3 rfl (by decide) (by decide) dX10_drift_27 ?_
      obtain ⟨hr12, h⟩ := chk_some h
      refine wi_if_ne (tgt := 34) hx hb dX10_drift_28 (by decide) hr12 (fun c14 => ?_) (fun c14 => ?_)
      · have h := ite_f c14 h
        refine lv_iload_n hx hb dX10_drift_34 rfl (lv_at hl 1 rfl) ?_
        refine lv_istore (lv' := [(4, .int (zI x1)), (0, .ref a_v), (1, .int (zI x1)), (2, .int (zI x2)), (3, .int (zI x3))]) hx hb dX10_drift_35 hl (by decide) rfl (fun ls hl => ?_)
        refine wi_ic hx hb dX10_drift_37 ?_
        refine lv_istore (lv' := [(5, .int (zI 0)), (4, .int (zI x1)), (0, .ref a_v), (1, .int (zI x1)), (2, .int (zI x2)), (3, .int (zI x3))]) hx hb dX10_drift_38 hl (by decide) rfl (fun ls hl => ?_)
        refine lv_aload_n hx hb dX10_drift_40 rfl (lv_at hl 2 rfl) ?_
        obtain ⟨o15, hc16, h⟩ := bnd_some h
        refine cV_v (rest := []) (w2 := (wd_X10_drift cy a_v a_v_by a_v_now a_v_st a_v_told a_v_isKept a_v_draft a_v_placedRow a_v_tape a_v_bestRow a_v_ways a_v_lanes a_v_sizes a_v_cells a_v_before v_hasOrder v_hasStart v_placed v_placedMany v_highest v_taped v_pos v_begun v_sort v_value v_fault v_wrongAt v_rightSum v_wrongSum v_allWays v_torn v_by o15 v_st v_told)) ⟨hx, hb, hml, hown, hts⟩ (c_X10_fetches l D cy sa a_v a_v_now a_v_st a_v_isKept a_v_draft a_v_placedRow a_v_tape a_v_by a_v_told a_v_bestRow a_v_ways a_v_lanes a_v_sizes a_v_cells a_v_before v_hasOrder v_hasStart v_placed v_placedMany v_highest v_taped v_pos v_begun v_sort v_value v_fault v_wrongAt v_rightSum v_wrongSum v_allWays v_torn v_now v_st o15 hc16) (cwV 0 hts gX10_drift_X10_fetches rfl rfl rfl (by decide +kernel) ⟨Nat.le_of_ble_eq_true rfl, Nat.le_of_ble_eq_true rfl⟩) rfl rfl rfl hE hP hDD rfl hS [0, 2, 3] rfl rfl rfl rfl hl.1 (Nat.le_of_ble_eq_true rfl) ⟨Nat.zero_le _, Nat.zero_le _⟩ rfl dX10_drift_41 rfl (fun H locs hP hS => ?_)
        refine wi_ic hx hb dX10_drift_44 ?_
        refine lv_istore (lv' := [(6, .int (zI 0)), (5, .int (zI 0)), (4, .int (zI x1)), (0, .ref a_v), (1, .int (zI x1)), (2, .int (zI x2)), (3, .int (zI x3))]) hx hb dX10_drift_45 hl (by decide) rfl (fun ls hl => ?_)
        obtain ⟨o29, hx30, h⟩ := bnd_some h
        refine L47 5000 v_by o15 v_told x2 x3 x1 0 0 _ _ _ _ hP hS (lv_sub hl [3, 5, 6, 2, 1, 0] rfl) hx30 ?_
        clear hx30
        intro H locs ls hP hS hl
        refine lv_aload_n hx hb dX10_drift_177 rfl (lv_at hl 0 rfl) ?_
        obtain ⟨o31, hc32, h⟩ := bnd_some h
        refine cV_v (rest := []) (w2 := (wd_X10_drift cy a_v a_v_by a_v_now a_v_st a_v_told a_v_isKept a_v_draft a_v_placedRow a_v_tape a_v_bestRow a_v_ways a_v_lanes a_v_sizes a_v_cells a_v_before v_hasOrder v_hasStart v_placed v_placedMany v_highest v_taped v_pos v_begun v_sort v_value v_fault v_wrongAt v_rightSum v_wrongSum v_allWays v_torn o31.1 o29.2 v_st o31.2)) ⟨hx, hb, hml, hown, hts⟩ (c_X10_dayGoes l D cy sa a_v a_v_by a_v_now a_v_told a_v_st a_v_isKept a_v_draft a_v_placedRow a_v_tape a_v_bestRow a_v_ways a_v_lanes a_v_sizes a_v_cells a_v_before v_hasOrder v_hasStart v_placed v_placedMany v_highest v_taped v_pos v_begun v_sort v_value v_fault v_wrongAt v_rightSum v_wrongSum v_allWays v_torn v_by o29.2 v_told o31 hc32) (cwV 0 hts gX10_drift_X10_dayGoes rfl rfl rfl (by decide +kernel) ⟨Nat.le_of_ble_eq_true rfl, Nat.le_of_ble_eq_true rfl⟩) rfl rfl rfl hE hP hDD rfl hS [0, 1, 2, 4] rfl rfl rfl rfl hl.1 (Nat.le_of_ble_eq_true rfl) ⟨Nat.zero_le _, Nat.zero_le _⟩ rfl dX10_drift_178 rfl (fun H locs hP hS => ?_)
        refine lv_iload_n hx hb dX10_drift_181 rfl (lv_at hl 1 rfl) ?_
        obtain ⟨hr33, h⟩ := chk_some h
        refine wi_if_ne (tgt := 190) hx hb dX10_drift_182 (by decide) hr33 (fun c35 => ?_) (fun c35 => ?_)
        · have h := ite_f c35 h
          refine lv_aload_n hx hb dX10_drift_190 rfl (lv_at hl 0 rfl) ?_
          obtain ⟨o36, hc37, h⟩ := bnd_some h
          refine cV_i (rest := []) (w2 := (wd_X10_drift cy a_v a_v_by a_v_now a_v_st a_v_told a_v_isKept a_v_draft a_v_placedRow a_v_tape a_v_bestRow a_v_ways a_v_lanes a_v_sizes a_v_cells a_v_before v_hasOrder v_hasStart v_placed v_placedMany v_highest v_taped v_pos v_begun v_sort v_value v_fault v_wrongAt v_rightSum v_wrongSum v_allWays v_torn o31.1 o29.2 v_st o31.2)) ⟨hx, hb, hml, hown, hts⟩ (c_X10_yawns l D cy sa a_v a_v_told a_v_st a_v_now a_v_isKept a_v_draft a_v_placedRow a_v_tape a_v_by a_v_bestRow a_v_ways a_v_lanes a_v_sizes a_v_cells a_v_before v_hasOrder v_hasStart v_placed v_placedMany v_highest v_taped v_pos v_begun v_sort v_value v_fault v_wrongAt v_rightSum v_wrongSum v_allWays v_torn o31.2 o36 hc37) (cwV 0 hts gX10_drift_X10_yawns rfl rfl rfl (by decide +kernel) ⟨Nat.le_of_ble_eq_true rfl, Nat.le_of_ble_eq_true rfl⟩) rfl rfl rfl hE hP hDD rfl hS [0, 4] rfl rfl rfl rfl hl.1 (Nat.le_of_ble_eq_true rfl) ⟨Nat.zero_le _, Nat.zero_le _⟩ rfl dX10_drift_191 rfl (fun H locs hP hS => ?_)
          obtain rfl := Option.some.inj h
          exact KR _ _ _ _ hP hS dX10_drift_194
        · have h := ite_t c35 h
          refine lv_iload hx hb dX10_drift_185 (lv_at hl 2 rfl) ?_
          refine lv_goto (tgt := 194) hx hb dX10_drift_187 (by decide) ?_
          obtain rfl := Option.some.inj h
          exact KR _ _ _ _ hP hS dX10_drift_194
      · have h := ite_t c14 h
        refine wi_bi hx hb dX10_drift_31 (by decide) ?_
        obtain rfl := Option.some.inj h
        exact KR _ _ _ _ hP hS dX10_drift_33
    · have h := ite_t c11 h
      refine wi_ic hx hb dX10_drift_19 ?_
      obtain rfl := Option.some.inj h
      exact KR _ _ _ _ hP hS dX10_drift_20
abbrev wd_X10_copies (cy : Nat → ClassId) (a_v : Nat) (a_v_st : Nat) (a_v_now : Nat) (a_v_isKept : Nat) (a_v_draft : Nat) (a_v_placedRow : Nat) (a_v_tape : Nat) (a_v_by : Nat) (a_v_told : Nat) (a_v_bestRow : Nat) (a_v_ways : Nat) (a_v_lanes : Nat) (a_v_sizes : Nat) (a_v_cells : Nat) (a_v_before : Nat) (v_hasOrder : Int) (v_hasStart : Int) (v_placed : Int) (v_placedMany : Int) (v_highest : Int) (v_taped : Int) (v_pos : Int) (v_begun : Int) (v_sort : Int) (v_value : Int) (v_fault : Int) (v_wrongAt : Int) (v_rightSum : Int) (v_wrongSum : Int) (v_allWays : Int) (v_torn : Int) (v_st : Nat → Int) : va_W := [(a_v, .inr (10, [.ref a_v_st, .ref a_v_now, .ref a_v_isKept, .ref a_v_draft, .int (zI v_hasOrder), .int (zI v_hasStart), .int (zI v_placed), .int (zI v_placedMany), .ref a_v_placedRow, .int (zI v_highest), .ref a_v_tape, .int (zI v_taped), .int (zI v_pos), .int (zI v_begun), .int (zI v_sort), .int (zI v_value), .int (zI v_fault), .int (zI v_wrongAt), .ref a_v_by, .ref a_v_told, .ref a_v_bestRow, .long (zL v_rightSum), .long (zL v_wrongSum), .long (zL v_allWays), .ref a_v_ways, .ref a_v_lanes, .ref a_v_sizes, .ref a_v_cells, .int (zI v_torn), .ref a_v_before])), (a_v_st, .inl (cy 0, 168, .inl (fun j => zI (v_st j))))]
set_option maxHeartbeats 4000000 in
set_option maxRecDepth 100000 in
theorem c_X10_copies (l : Launch) (D : va_G) (cy : Nat → ClassId) (sa : Nat → Nat) (a_v : Nat) (a_v_st : Nat) (a_v_now : Nat) (a_v_isKept : Nat) (a_v_draft : Nat) (a_v_placedRow : Nat) (a_v_tape : Nat) (a_v_by : Nat) (a_v_told : Nat) (a_v_bestRow : Nat) (a_v_ways : Nat) (a_v_lanes : Nat) (a_v_sizes : Nat) (a_v_cells : Nat) (a_v_before : Nat) (v_hasOrder : Int) (v_hasStart : Int) (v_placed : Int) (v_placedMany : Int) (v_highest : Int) (v_taped : Int) (v_pos : Int) (v_begun : Int) (v_sort : Int) (v_value : Int) (v_fault : Int) (v_wrongAt : Int) (v_rightSum : Int) (v_wrongSum : Int) (v_allWays : Int) (v_torn : Int) (v_st : Nat → Int) (x1 : Int) (x2 : Int) (o : (Nat → Int)) (h : f_M_copies v_st x1 x2 = some o) : CtV l yX10_copies wsX10_copies ({ frames := 0, cells := 0, slots := 0, locals := 0 }) D cy sa [.ref a_v, .int (zI x1), .int (zI x2)] (wd_X10_copies cy a_v a_v_st a_v_now a_v_isKept a_v_draft a_v_placedRow a_v_tape a_v_by a_v_told a_v_bestRow a_v_ways a_v_lanes a_v_sizes a_v_cells a_v_before v_hasOrder v_hasStart v_placed v_placedMany v_highest v_taped v_pos v_begun v_sort v_value v_fault v_wrongAt v_rightSum v_wrongSum v_allWays v_torn v_st) (wd_X10_copies cy a_v a_v_st a_v_now a_v_isKept a_v_draft a_v_placedRow a_v_tape a_v_by a_v_told a_v_bestRow a_v_ways a_v_lanes a_v_sizes a_v_cells a_v_before v_hasOrder v_hasStart v_placed v_placedMany v_highest v_taped v_pos v_begun v_sort v_value v_fault v_wrongAt v_rightSum v_wrongSum v_allWays v_torn o)  := by
  refine ct_V (cc := cX10_copies) (maxL := 4) (plainFor_of_name (by decide)) rfl (Nat.le_of_ble_eq_true rfl) ?_
  intro p e s m below meth c A args QQ hx hb hml hown hts hE hDD hP KR ls hl
  have hl : lv_has ls 4 [(0, .ref a_v), (1, .int (zI x1)), (2, .int (zI x2))] := hl
  have hDD : DD A [a_v, a_v_st] := hDD
  have hS : va_S A s.heap s.heap [] := va_S.rf
  have q0 := hts (.fieldLink RX10 7 "HatHoursModel" "st" "[I") (List.mem_of_getElem? (i := 1) rfl)
  have iX10 : ∀ w ∈ u_ws RX10 TX10 30, w ∈ wsX10_copies := in_slice 2 30 rfl
  have L2 : ∀ (fuel : Nat) (v_st : Nat → Int) (x1 : Int) (x2 : Int) (x3 : Int) (H : Heap) (locs : List Loc) (ls : Array Slot) (ex : (Nat → Int)), va_P D vwCl (wd_X10_copies cy a_v a_v_st a_v_now a_v_isKept a_v_draft a_v_placedRow a_v_tape a_v_by a_v_told a_v_bestRow a_v_ways a_v_lanes a_v_sizes a_v_cells a_v_before v_hasOrder v_hasStart v_placed v_placedMany v_highest v_taped v_pos v_begun v_sort v_value v_fault v_wrongAt v_rightSum v_wrongSum v_allWays v_torn v_st) H → va_S A s.heap H locs → lv_has ls 4 [(0, .ref a_v), (1, .int (zI x1)), (2, .int (zI x2)), (3, .int (zI x3))] → f_M_copies_L2 fuel v_st x1 x2 x3 = some ex → (∀ (H : Heap) (locs : List Loc) (ls : Array Slot), va_P D vwCl (wd_X10_copies cy a_v a_v_st a_v_now a_v_isKept a_v_draft a_v_placedRow a_v_tape a_v_by a_v_told a_v_bestRow a_v_ways a_v_lanes a_v_sizes a_v_cells a_v_before v_hasOrder v_hasStart v_placed v_placedMany v_highest v_taped v_pos v_begun v_sort v_value v_fault v_wrongAt v_rightSum v_wrongSum v_allWays v_torn ex) H → va_S A s.heap H locs → lv_has ls 4 [] → W p l e { frames := 0, cells := 0, slots := 0, locals := 0 } s m args below meth c H locs 0 0 QQ (F0 m 30 ls [])) → W p l e { frames := 0, cells := 0, slots := 0, locals := 0 } s m args below meth c H locs 0 0 QQ (F0 m 2 ls []) := by
    intro fuel
    induction fuel with
    | zero => intro _ _ _ _ H locs ls ex hP hS hl h K; cases h
    | succ fuel ih =>
      intro v_st x1 x2 x3 H locs ls ex hP hS hl h K
      refine lv_iload_n hx hb dX10_copies_2 rfl (lv_at hl 3 rfl) ?_
      refine wi_bi hx hb dX10_copies_3 (by decide) ?_
      obtain ⟨hr1, h⟩ := chk_some h
      refine wi_ic_ge (tgt := 30) hx hb dX10_copies_5 (by decide) hr1 (by decide) (fun c3 => ?_) (fun c3 => ?_)
      · have h := ite_t c3 h
        obtain rfl := Option.some.inj h
        exact K _ _ _ hP hS (lv_sub hl [] rfl)
      · have h := ite_f c3 h
        refine lv_aload_n hx hb dX10_copies_8 rfl (lv_at hl 0 rfl) ?_
        refine wi_get (v := .ref a_v_st) hx hb hts iX10 hown hE hP 0 rfl rfl 0 (by decide) q0 rfl dX10_copies_9 ?_
        refine lv_iload_n hx hb dX10_copies_12 rfl (lv_at hl 1 rfl) ?_
        refine lv_iload_n hx hb dX10_copies_13 rfl (lv_at hl 3 rfl) ?_
        refine wi_iadd hx hb dX10_copies_14 ?_
        refine lv_aload_n hx hb dX10_copies_15 rfl (lv_at hl 0 rfl) ?_
        refine wi_get (v := .ref a_v_st) hx hb hts iX10 hown hE hP 0 rfl rfl 0 (by decide) q0 rfl dX10_copies_16 ?_
        refine lv_iload_n hx hb dX10_copies_19 rfl (lv_at hl 2 rfl) ?_
        refine lv_iload_n hx hb dX10_copies_20 rfl (lv_at hl 3 rfl) ?_
        refine wi_iadd hx hb dX10_copies_21 ?_
        obtain ⟨hk4, h⟩ := chk_some h
        refine wi_iald hx hb hE hP 1 rfl (by decide) hk4 dX10_copies_22 ?_
        obtain ⟨hk5, h⟩ := chk_some h
        refine wi_iast (w2 := (wd_X10_copies cy a_v a_v_st a_v_now a_v_isKept a_v_draft a_v_placedRow a_v_tape a_v_by a_v_told a_v_bestRow a_v_ways a_v_lanes a_v_sizes a_v_cells a_v_before v_hasOrder v_hasStart v_placed v_placedMany v_highest v_taped v_pos v_begun v_sort v_value v_fault v_wrongAt v_rightSum v_wrongSum v_allWays v_torn (upZ v_st (x1 + x3).toNat (v_st (x2 + x3).toNat)))) hx hb hE hP hDD rfl hS 1 rfl (by decide) hk5 dX10_copies_23 rfl (fun H locs hP hS => ?_)
        refine wi_iinc (k := 3) (lv' := [(3, .int (zI (x3 + 1))), (0, .ref a_v), (1, .int (zI x1)), (2, .int (zI x2))]) hx hb dX10_copies_24 hl rfl (by decide) rfl (fun ls hl => ?_)
        refine lv_goto (tgt := 2) hx hb dX10_copies_27 (by decide) ?_
        exact ih (upZ v_st (x1 + x3).toNat (v_st (x2 + x3).toNat)) x1 x2 (x3 + 1) _ _ _ _ hP hS (lv_sub hl [1, 2, 3, 0] rfl) h K
  refine wi_ic hx hb dX10_copies_0 ?_
  refine lv_istore_n (lv' := [(3, .int (zI 0)), (0, .ref a_v), (1, .int (zI x1)), (2, .int (zI x2))]) hx hb dX10_copies_1 rfl hl (by decide) rfl (fun ls hl => ?_)
  obtain ⟨o6, hx7, h⟩ := bnd_some h
  refine L2 5000 v_st x1 x2 0 _ _ _ _ hP hS (lv_sub hl [1, 2, 3, 0] rfl) hx7 ?_
  clear hx7
  intro H locs ls hP hS hl
  obtain rfl := Option.some.inj h
  exact KR _ _ _ _ hP hS dX10_copies_30
abbrev wd_X10_keep (cy : Nat → ClassId) (a_v : Nat) (a_v_isKept : Nat) (a_v_st : Nat) (a_v_now : Nat) (a_v_draft : Nat) (a_v_placedRow : Nat) (a_v_tape : Nat) (a_v_by : Nat) (a_v_told : Nat) (a_v_bestRow : Nat) (a_v_ways : Nat) (a_v_lanes : Nat) (a_v_sizes : Nat) (a_v_cells : Nat) (a_v_before : Nat) (v_hasOrder : Int) (v_hasStart : Int) (v_placed : Int) (v_placedMany : Int) (v_highest : Int) (v_taped : Int) (v_pos : Int) (v_begun : Int) (v_sort : Int) (v_value : Int) (v_fault : Int) (v_wrongAt : Int) (v_rightSum : Int) (v_wrongSum : Int) (v_allWays : Int) (v_torn : Int) (v_isKept : Nat → Int) (v_st : Nat → Int) : va_W := [(a_v, .inr (10, [.ref a_v_st, .ref a_v_now, .ref a_v_isKept, .ref a_v_draft, .int (zI v_hasOrder), .int (zI v_hasStart), .int (zI v_placed), .int (zI v_placedMany), .ref a_v_placedRow, .int (zI v_highest), .ref a_v_tape, .int (zI v_taped), .int (zI v_pos), .int (zI v_begun), .int (zI v_sort), .int (zI v_value), .int (zI v_fault), .int (zI v_wrongAt), .ref a_v_by, .ref a_v_told, .ref a_v_bestRow, .long (zL v_rightSum), .long (zL v_wrongSum), .long (zL v_allWays), .ref a_v_ways, .ref a_v_lanes, .ref a_v_sizes, .ref a_v_cells, .int (zI v_torn), .ref a_v_before])), (a_v_isKept, .inl (cy 3, 2, .inl (fun j => zI (v_isKept j)))), (a_v_st, .inl (cy 0, 168, .inl (fun j => zI (v_st j))))]
set_option maxHeartbeats 4000000 in
set_option maxRecDepth 100000 in
theorem c_X10_keep (l : Launch) (D : va_G) (cy : Nat → ClassId) (sa : Nat → Nat) (a_v : Nat) (a_v_isKept : Nat) (a_v_st : Nat) (a_v_now : Nat) (a_v_draft : Nat) (a_v_placedRow : Nat) (a_v_tape : Nat) (a_v_by : Nat) (a_v_told : Nat) (a_v_bestRow : Nat) (a_v_ways : Nat) (a_v_lanes : Nat) (a_v_sizes : Nat) (a_v_cells : Nat) (a_v_before : Nat) (v_hasOrder : Int) (v_hasStart : Int) (v_placed : Int) (v_placedMany : Int) (v_highest : Int) (v_taped : Int) (v_pos : Int) (v_begun : Int) (v_sort : Int) (v_value : Int) (v_fault : Int) (v_wrongAt : Int) (v_rightSum : Int) (v_wrongSum : Int) (v_allWays : Int) (v_torn : Int) (v_isKept : Nat → Int) (v_st : Nat → Int) (x1 : Int) (o : Int × (Nat → Int) × (Nat → Int)) (h : f_M_keep v_isKept v_st x1 = some o) : CtI l yX10_keep wsX10_keep ({ frames := 1, cells := 0, slots := 0, locals := 25 }) D cy sa [.ref a_v, .int (zI x1)] (wd_X10_keep cy a_v a_v_isKept a_v_st a_v_now a_v_draft a_v_placedRow a_v_tape a_v_by a_v_told a_v_bestRow a_v_ways a_v_lanes a_v_sizes a_v_cells a_v_before v_hasOrder v_hasStart v_placed v_placedMany v_highest v_taped v_pos v_begun v_sort v_value v_fault v_wrongAt v_rightSum v_wrongSum v_allWays v_torn v_isKept v_st) (wd_X10_keep cy a_v a_v_isKept a_v_st a_v_now a_v_draft a_v_placedRow a_v_tape a_v_by a_v_told a_v_bestRow a_v_ways a_v_lanes a_v_sizes a_v_cells a_v_before v_hasOrder v_hasStart v_placed v_placedMany v_highest v_taped v_pos v_begun v_sort v_value v_fault v_wrongAt v_rightSum v_wrongSum v_allWays v_torn o.2.1 o.2.2) o.1 := by
  refine ct_I (cc := cX10_keep) (maxL := 3) (plainFor_of_name (by decide)) rfl (Nat.le_of_ble_eq_true rfl) ?_
  intro p e s m below meth c A args QQ hx hb hml hown hts hE hDD hP KR ls hl
  have hl : lv_has ls 3 [(0, .ref a_v), (1, .int (zI x1))] := hl
  have hDD : DD A [a_v, a_v_isKept, a_v_st] := hDD
  have hS : va_S A s.heap s.heap [] := va_S.rf
  have q0 := hts (.fieldLink RX10 16 "HatHoursModel" "isKept" "[Z") (List.mem_of_getElem? (i := 1) rfl)
  have iX10 : ∀ w ∈ u_ws RX10 TX10 30, w ∈ wsX10_keep := in_slice 14 30 rfl
  refine lv_iload_n hx hb dX10_keep_0 rfl (lv_at hl 1 rfl) ?_
  obtain ⟨hr1, h⟩ := chk_some h
  refine wi_i2l hx hb dX10_keep_1 hr1 ?_
  refine wi_lc (v := 0) hx hb dX10_keep_2 rfl ?_
  refine wi_lc (v := 1) hx hb dX10_keep_3 rfl ?_
  obtain ⟨o2, hc3, h⟩ := bnd_some h
  refine cS_i (rest := []) (w2 := (wd_X10_keep cy a_v a_v_isKept a_v_st a_v_now a_v_draft a_v_placedRow a_v_tape a_v_by a_v_told a_v_bestRow a_v_ways a_v_lanes a_v_sizes a_v_cells a_v_before v_hasOrder v_hasStart v_placed v_placedMany v_highest v_taped v_pos v_begun v_sort v_value v_fault v_wrongAt v_rightSum v_wrongSum v_allWays v_torn v_isKept v_st)) ⟨hx, hb, hml, hown, hts⟩ (c_X10_in l D cy sa x1 0 1 o2 hc3) (va_cwS 3 hts gX10_keep_X10_in rfl rfl rfl (by decide +kernel) ⟨Nat.le_of_ble_eq_true rfl, Nat.le_of_ble_eq_true rfl⟩) hE hP hDD rfl hS [] rfl rfl rfl rfl hl.1 (Nat.le_of_ble_eq_true rfl) ⟨Nat.zero_le _, Nat.zero_le _⟩ rfl dX10_keep_4 rfl (fun H locs hP hS => ?_)
  obtain ⟨hr4, h⟩ := chk_some h
  refine wi_if_ne (tgt := 12) hx hb dX10_keep_7 (by decide) hr4 (fun c6 => ?_) (fun c6 => ?_)
  · have h := ite_f c6 h
    refine lv_aload_n hx hb dX10_keep_12 rfl (lv_at hl 0 rfl) ?_
    refine wi_get (v := .ref a_v_isKept) hx hb hts iX10 hown hE hP 0 rfl rfl 2 (by decide) q0 rfl dX10_keep_13 ?_
    refine lv_iload_n hx hb dX10_keep_16 rfl (lv_at hl 1 rfl) ?_
    obtain ⟨hk7, h⟩ := chk_some h
    refine wi_zald hx hb hE hP 1 rfl (by decide) hk7 dX10_keep_17 ?_
    obtain ⟨o8, hc9, h⟩ := bnd_some h
    refine cS_i (rest := []) (w2 := (wd_X10_keep cy a_v a_v_isKept a_v_st a_v_now a_v_draft a_v_placedRow a_v_tape a_v_by a_v_told a_v_bestRow a_v_ways a_v_lanes a_v_sizes a_v_cells a_v_before v_hasOrder v_hasStart v_placed v_placedMany v_highest v_taped v_pos v_begun v_sort v_value v_fault v_wrongAt v_rightSum v_wrongSum v_allWays v_torn v_isKept v_st)) ⟨hx, hb, hml, hown, hts⟩ (c_X10_flag l D cy sa (v_isKept (x1).toNat) o8 hc9) (va_cwS 1 hts gX10_keep_X10_flag rfl rfl rfl (by decide +kernel) ⟨Nat.le_of_ble_eq_true rfl, Nat.le_of_ble_eq_true rfl⟩) hE hP hDD rfl hS [] rfl rfl rfl rfl hl.1 (Nat.le_of_ble_eq_true rfl) ⟨Nat.zero_le _, Nat.zero_le _⟩ rfl dX10_keep_18 rfl (fun H locs hP hS => ?_)
    refine lv_istore_n (lv' := [(2, .int (zI o8)), (0, .ref a_v), (1, .int (zI x1))]) hx hb dX10_keep_21 rfl hl (by decide) rfl (fun ls hl => ?_)
    refine lv_aload_n hx hb dX10_keep_22 rfl (lv_at hl 1 rfl) ?_
    refine wi_get (v := .ref a_v_isKept) hx hb hts iX10 hown hE hP 0 rfl rfl 2 (by decide) q0 rfl dX10_keep_23 ?_
    refine lv_iload_n hx hb dX10_keep_26 rfl (lv_at hl 2 rfl) ?_
    refine wi_ic hx hb dX10_keep_27 ?_
    refine wi_zast (w2 := (wd_X10_keep cy a_v a_v_isKept a_v_st a_v_now a_v_draft a_v_placedRow a_v_tape a_v_by a_v_told a_v_bestRow a_v_ways a_v_lanes a_v_sizes a_v_cells a_v_before v_hasOrder v_hasStart v_placed v_placedMany v_highest v_taped v_pos v_begun v_sort v_value v_fault v_wrongAt v_rightSum v_wrongSum v_allWays v_torn (upZ v_isKept (x1).toNat 1) v_st)) hx hb hE hP hDD rfl hS 1 rfl (by decide) hk7 (by decide) dX10_keep_28 rfl (fun H locs hP hS => ?_)
    refine lv_aload_n hx hb dX10_keep_29 rfl (lv_at hl 1 rfl) ?_
    refine wi_bi hx hb dX10_keep_30 (by decide) ?_
    refine lv_iload_n hx hb dX10_keep_32 rfl (lv_at hl 2 rfl) ?_
    refine wi_ic hx hb dX10_keep_33 ?_
    refine wi_iadd hx hb dX10_keep_34 ?_
    refine wi_imul hx hb dX10_keep_35 ?_
    refine wi_ic hx hb dX10_keep_36 ?_
    obtain ⟨o10, hc11, h⟩ := bnd_some h
    refine cV_v (rest := []) (w2 := (wd_X10_keep cy a_v a_v_isKept a_v_st a_v_now a_v_draft a_v_placedRow a_v_tape a_v_by a_v_told a_v_bestRow a_v_ways a_v_lanes a_v_sizes a_v_cells a_v_before v_hasOrder v_hasStart v_placed v_placedMany v_highest v_taped v_pos v_begun v_sort v_value v_fault v_wrongAt v_rightSum v_wrongSum v_allWays v_torn (upZ v_isKept (x1).toNat 1) o10)) ⟨hx, hb, hml, hown, hts⟩ (c_X10_copies l D cy sa a_v a_v_st a_v_now a_v_isKept a_v_draft a_v_placedRow a_v_tape a_v_by a_v_told a_v_bestRow a_v_ways a_v_lanes a_v_sizes a_v_cells a_v_before v_hasOrder v_hasStart v_placed v_placedMany v_highest v_taped v_pos v_begun v_sort v_value v_fault v_wrongAt v_rightSum v_wrongSum v_allWays v_torn v_st (56 * (x1 + 1)) 0 o10 hc11) (cwV 2 hts gX10_keep_X10_copies rfl rfl rfl (by decide +kernel) ⟨Nat.le_of_ble_eq_true rfl, Nat.le_of_ble_eq_true rfl⟩) rfl rfl rfl hE hP hDD rfl hS [0, 2] rfl rfl rfl rfl hl.1 (Nat.le_of_ble_eq_true rfl) ⟨Nat.zero_le _, Nat.zero_le _⟩ rfl dX10_keep_37 rfl (fun H locs hP hS => ?_)
    refine lv_iload_n hx hb dX10_keep_40 rfl (lv_at hl 0 rfl) ?_
    obtain rfl := Option.some.inj h
    exact KR _ _ _ _ hP hS dX10_keep_41
  · have h := ite_t c6 h
    refine wi_ic hx hb dX10_keep_10 ?_
    obtain rfl := Option.some.inj h
    exact KR _ _ _ _ hP hS dX10_keep_11
abbrev wd_X10_back (cy : Nat → ClassId) (a_v : Nat) (a_v_isKept : Nat) (a_v_st : Nat) (a_v_now : Nat) (a_v_draft : Nat) (a_v_placedRow : Nat) (a_v_tape : Nat) (a_v_by : Nat) (a_v_told : Nat) (a_v_bestRow : Nat) (a_v_ways : Nat) (a_v_lanes : Nat) (a_v_sizes : Nat) (a_v_cells : Nat) (a_v_before : Nat) (v_hasOrder : Int) (v_hasStart : Int) (v_placed : Int) (v_placedMany : Int) (v_highest : Int) (v_taped : Int) (v_pos : Int) (v_begun : Int) (v_sort : Int) (v_value : Int) (v_fault : Int) (v_wrongAt : Int) (v_rightSum : Int) (v_wrongSum : Int) (v_allWays : Int) (v_torn : Int) (v_isKept : Nat → Int) (v_st : Nat → Int) : va_W := [(a_v, .inr (10, [.ref a_v_st, .ref a_v_now, .ref a_v_isKept, .ref a_v_draft, .int (zI v_hasOrder), .int (zI v_hasStart), .int (zI v_placed), .int (zI v_placedMany), .ref a_v_placedRow, .int (zI v_highest), .ref a_v_tape, .int (zI v_taped), .int (zI v_pos), .int (zI v_begun), .int (zI v_sort), .int (zI v_value), .int (zI v_fault), .int (zI v_wrongAt), .ref a_v_by, .ref a_v_told, .ref a_v_bestRow, .long (zL v_rightSum), .long (zL v_wrongSum), .long (zL v_allWays), .ref a_v_ways, .ref a_v_lanes, .ref a_v_sizes, .ref a_v_cells, .int (zI v_torn), .ref a_v_before])), (a_v_isKept, .inl (cy 3, 2, .inl (fun j => zI (v_isKept j)))), (a_v_st, .inl (cy 0, 168, .inl (fun j => zI (v_st j))))]
set_option maxHeartbeats 4000000 in
set_option maxRecDepth 100000 in
theorem c_X10_back (l : Launch) (D : va_G) (cy : Nat → ClassId) (sa : Nat → Nat) (a_v : Nat) (a_v_isKept : Nat) (a_v_st : Nat) (a_v_now : Nat) (a_v_draft : Nat) (a_v_placedRow : Nat) (a_v_tape : Nat) (a_v_by : Nat) (a_v_told : Nat) (a_v_bestRow : Nat) (a_v_ways : Nat) (a_v_lanes : Nat) (a_v_sizes : Nat) (a_v_cells : Nat) (a_v_before : Nat) (v_hasOrder : Int) (v_hasStart : Int) (v_placed : Int) (v_placedMany : Int) (v_highest : Int) (v_taped : Int) (v_pos : Int) (v_begun : Int) (v_sort : Int) (v_value : Int) (v_fault : Int) (v_wrongAt : Int) (v_rightSum : Int) (v_wrongSum : Int) (v_allWays : Int) (v_torn : Int) (v_isKept : Nat → Int) (v_st : Nat → Int) (x1 : Int) (o : Int × (Nat → Int)) (h : f_M_back v_isKept v_st x1 = some o) : CtI l yX10_back wsX10_back ({ frames := 1, cells := 0, slots := 0, locals := 25 }) D cy sa [.ref a_v, .int (zI x1)] (wd_X10_back cy a_v a_v_isKept a_v_st a_v_now a_v_draft a_v_placedRow a_v_tape a_v_by a_v_told a_v_bestRow a_v_ways a_v_lanes a_v_sizes a_v_cells a_v_before v_hasOrder v_hasStart v_placed v_placedMany v_highest v_taped v_pos v_begun v_sort v_value v_fault v_wrongAt v_rightSum v_wrongSum v_allWays v_torn v_isKept v_st) (wd_X10_back cy a_v a_v_isKept a_v_st a_v_now a_v_draft a_v_placedRow a_v_tape a_v_by a_v_told a_v_bestRow a_v_ways a_v_lanes a_v_sizes a_v_cells a_v_before v_hasOrder v_hasStart v_placed v_placedMany v_highest v_taped v_pos v_begun v_sort v_value v_fault v_wrongAt v_rightSum v_wrongSum v_allWays v_torn v_isKept o.2) o.1 := by
  refine ct_I (cc := cX10_back) (maxL := 2) (plainFor_of_name (by decide)) rfl (Nat.le_of_ble_eq_true rfl) ?_
  intro p e s m below meth c A args QQ hx hb hml hown hts hE hDD hP KR ls hl
  have hl : lv_has ls 2 [(0, .ref a_v), (1, .int (zI x1))] := hl
  have hDD : DD A [a_v, a_v_isKept, a_v_st] := hDD
  have hS : va_S A s.heap s.heap [] := va_S.rf
  have q0 := hts (.fieldLink RX10 16 "HatHoursModel" "isKept" "[Z") (List.mem_of_getElem? (i := 1) rfl)
  have q1 := hts (.fieldLink RX10 7 "HatHoursModel" "st" "[I") (List.mem_of_getElem? (i := 2) rfl)
  have iX10 : ∀ w ∈ u_ws RX10 TX10 30, w ∈ wsX10_back := in_slice 11 30 rfl
  refine lv_iload_n hx hb dX10_back_0 rfl (lv_at hl 1 rfl) ?_
  obtain ⟨hr1, h⟩ := chk_some h
  refine wi_i2l hx hb dX10_back_1 hr1 ?_
  refine wi_lc (v := 0) hx hb dX10_back_2 rfl ?_
  refine wi_lc (v := 1) hx hb dX10_back_3 rfl ?_
  obtain ⟨o2, hc3, h⟩ := bnd_some h
  refine cS_i (rest := []) (w2 := (wd_X10_back cy a_v a_v_isKept a_v_st a_v_now a_v_draft a_v_placedRow a_v_tape a_v_by a_v_told a_v_bestRow a_v_ways a_v_lanes a_v_sizes a_v_cells a_v_before v_hasOrder v_hasStart v_placed v_placedMany v_highest v_taped v_pos v_begun v_sort v_value v_fault v_wrongAt v_rightSum v_wrongSum v_allWays v_torn v_isKept v_st)) ⟨hx, hb, hml, hown, hts⟩ (c_X10_in l D cy sa x1 0 1 o2 hc3) (va_cwS 3 hts gX10_back_X10_in rfl rfl rfl (by decide +kernel) ⟨Nat.le_of_ble_eq_true rfl, Nat.le_of_ble_eq_true rfl⟩) hE hP hDD rfl hS [] rfl rfl rfl rfl hl.1 (Nat.le_of_ble_eq_true rfl) ⟨Nat.zero_le _, Nat.zero_le _⟩ rfl dX10_back_4 rfl (fun H locs hP hS => ?_)
  obtain ⟨hr4, h⟩ := chk_some h
  refine wi_if_ne (tgt := 12) hx hb dX10_back_7 (by decide) hr4 (fun c6 => ?_) (fun c6 => ?_)
  · have h := ite_f c6 h
    refine lv_aload_n hx hb dX10_back_12 rfl (lv_at hl 0 rfl) ?_
    refine wi_get (v := .ref a_v_isKept) hx hb hts iX10 hown hE hP 0 rfl rfl 2 (by decide) q0 rfl dX10_back_13 ?_
    refine lv_iload_n hx hb dX10_back_16 rfl (lv_at hl 1 rfl) ?_
    obtain ⟨hk7, h⟩ := chk_some h
    refine wi_zald hx hb hE hP 1 rfl (by decide) hk7 dX10_back_17 ?_
    obtain ⟨hr8, h⟩ := chk_some h
    refine wi_if_ne (tgt := 24) hx hb dX10_back_18 (by decide) hr8 (fun c10 => ?_) (fun c10 => ?_)
    · have h := ite_f c10 h
      refine lv_aload_n hx hb dX10_back_24 rfl (lv_at hl 0 rfl) ?_
      refine wi_ic hx hb dX10_back_25 ?_
      refine wi_bi hx hb dX10_back_26 (by decide) ?_
      refine lv_iload_n hx hb dX10_back_28 rfl (lv_at hl 1 rfl) ?_
      refine wi_ic hx hb dX10_back_29 ?_
      refine wi_iadd hx hb dX10_back_30 ?_
      refine wi_imul hx hb dX10_back_31 ?_
      obtain ⟨o11, hc12, h⟩ := bnd_some h
      refine cV_v (rest := []) (w2 := (wd_X10_back cy a_v a_v_isKept a_v_st a_v_now a_v_draft a_v_placedRow a_v_tape a_v_by a_v_told a_v_bestRow a_v_ways a_v_lanes a_v_sizes a_v_cells a_v_before v_hasOrder v_hasStart v_placed v_placedMany v_highest v_taped v_pos v_begun v_sort v_value v_fault v_wrongAt v_rightSum v_wrongSum v_allWays v_torn v_isKept o11)) ⟨hx, hb, hml, hown, hts⟩ (c_X10_copies l D cy sa a_v a_v_st a_v_now a_v_isKept a_v_draft a_v_placedRow a_v_tape a_v_by a_v_told a_v_bestRow a_v_ways a_v_lanes a_v_sizes a_v_cells a_v_before v_hasOrder v_hasStart v_placed v_placedMany v_highest v_taped v_pos v_begun v_sort v_value v_fault v_wrongAt v_rightSum v_wrongSum v_allWays v_torn v_st 0 (56 * (x1 + 1)) o11 hc12) (cwV 2 hts gX10_back_X10_copies rfl rfl rfl (by decide +kernel) ⟨Nat.le_of_ble_eq_true rfl, Nat.le_of_ble_eq_true rfl⟩) rfl rfl rfl hE hP hDD rfl hS [0, 2] rfl rfl rfl rfl hl.1 (Nat.le_of_ble_eq_true rfl) ⟨Nat.zero_le _, Nat.zero_le _⟩ rfl dX10_back_32 rfl (fun H locs hP hS => ?_)
      refine lv_aload_n hx hb dX10_back_35 rfl (lv_at hl 0 rfl) ?_
      refine wi_get (v := .ref a_v_st) hx hb hts iX10 hown hE hP 0 rfl rfl 0 (by decide) q1 rfl dX10_back_36 ?_
      refine wi_bi hx hb dX10_back_39 (by decide) ?_
      refine wi_iald hx hb hE hP 2 rfl (by decide) (by decide) dX10_back_41 ?_
      obtain rfl := Option.some.inj h
      exact KR _ _ _ _ hP hS dX10_back_42
    · have h := ite_t c10 h
      refine wi_bi hx hb dX10_back_21 (by decide) ?_
      obtain rfl := Option.some.inj h
      exact KR _ _ _ _ hP hS dX10_back_23
  · have h := ite_t c6 h
    refine wi_ic hx hb dX10_back_10 ?_
    obtain rfl := Option.some.inj h
    exact KR _ _ _ _ hP hS dX10_back_11
abbrev wd_X10_isSheet (cy : Nat → ClassId) : va_W := []
set_option maxHeartbeats 4000000 in
set_option maxRecDepth 100000 in
theorem c_X10_isSheet (l : Launch) (D : va_G) (cy : Nat → ClassId) (sa : Nat → Nat) (x0 : Int) (x1 : Int) (o : Int) (h : f_M_isSheet x0 x1 = some o) : CtI l yX10_isSheet wsX10_isSheet ({ frames := 1, cells := 0, slots := 0, locals := 25 }) D cy sa [.int (zI x0), .int (zI x1)] (wd_X10_isSheet cy ) (wd_X10_isSheet cy ) o := by
  refine ct_Z (cc := cX10_isSheet) (maxL := 2) (plainFor_of_name (by decide)) rfl (Nat.le_of_ble_eq_true rfl) ?_
  intro p e s m below meth c A args QQ hx hb hml hown hts hE hDD hP KR ls hl
  have hl : lv_has ls 2 [(0, .int (zI x0)), (1, .int (zI x1))] := hl
  have hDD : DD A [] := hDD
  have hS : va_S A s.heap s.heap [] := va_S.rf
  have q0 := hts (.constantLong RX10 210 (3)) (List.mem_of_getElem? (i := 1) rfl)
  have q1 := hts (.constantLong RX10 284 (2)) (List.mem_of_getElem? (i := 2) rfl)
  refine lv_iload_n hx hb dX10_isSheet_0 rfl (lv_at hl 0 rfl) ?_
  obtain ⟨hr1, h⟩ := chk_some h
  refine wi_i2l hx hb dX10_isSheet_1 hr1 ?_
  refine wi_lc (v := 0) hx hb dX10_isSheet_2 rfl ?_
  refine wi_ldc2 (n := 3) hx hb hown q0 dX10_isSheet_3 rfl ?_
  obtain ⟨o2, hc3, h⟩ := bnd_some h
  refine cS_i (rest := []) (w2 := (wd_X10_isSheet cy )) ⟨hx, hb, hml, hown, hts⟩ (c_X10_in l D cy sa x0 0 3 o2 hc3) (va_cwS 3 hts gX10_isSheet_X10_in rfl rfl rfl (by decide +kernel) ⟨Nat.le_of_ble_eq_true rfl, Nat.le_of_ble_eq_true rfl⟩) hE hP hDD rfl hS [] rfl rfl rfl rfl hl.1 (Nat.le_of_ble_eq_true rfl) ⟨Nat.zero_le _, Nat.zero_le _⟩ rfl dX10_isSheet_6 rfl (fun H locs hP hS => ?_)
  obtain ⟨hr4, h⟩ := chk_some h
  refine wi_if_eq (tgt := 28) hx hb dX10_isSheet_9 (by decide) hr4 (fun c6 => ?_) (fun c6 => ?_)
  · have h := ite_t c6 h
    refine wi_ic hx hb dX10_isSheet_28 ?_
    obtain rfl := Option.some.inj h
    exact KR _ _ _ _ (z01 (Or.inl rfl)) hP hS dX10_isSheet_29
  · have h := ite_f c6 h
    refine lv_iload_n hx hb dX10_isSheet_12 rfl (lv_at hl 1 rfl) ?_
    obtain ⟨hr7, h⟩ := chk_some h
    refine wi_i2l hx hb dX10_isSheet_13 hr7 ?_
    refine wi_lc (v := 0) hx hb dX10_isSheet_14 rfl ?_
    refine wi_ldc2 (n := 2) hx hb hown q1 dX10_isSheet_15 rfl ?_
    obtain ⟨o8, hc9, h⟩ := bnd_some h
    refine cS_i (rest := []) (w2 := (wd_X10_isSheet cy )) ⟨hx, hb, hml, hown, hts⟩ (c_X10_in l D cy sa x1 0 2 o8 hc9) (va_cwS 3 hts gX10_isSheet_X10_in rfl rfl rfl (by decide +kernel) ⟨Nat.le_of_ble_eq_true rfl, Nat.le_of_ble_eq_true rfl⟩) hE hP hDD rfl hS [] rfl rfl rfl rfl hl.1 (Nat.le_of_ble_eq_true rfl) ⟨Nat.zero_le _, Nat.zero_le _⟩ rfl dX10_isSheet_18 rfl (fun H locs hP hS => ?_)
    obtain ⟨hr10, h⟩ := chk_some h
    refine wi_if_eq (tgt := 28) hx hb dX10_isSheet_21 (by decide) hr10 (fun c12 => ?_) (fun c12 => ?_)
    · have h := ite_t c12 h
      refine wi_ic hx hb dX10_isSheet_28 ?_
      obtain rfl := Option.some.inj h
      exact KR _ _ _ _ (z01 (Or.inl rfl)) hP hS dX10_isSheet_29
    · have h := ite_f c12 h
      refine wi_ic hx hb dX10_isSheet_24 ?_
      refine lv_goto (tgt := 29) hx hb dX10_isSheet_25 (by decide) ?_
      obtain rfl := Option.some.inj h
      exact KR _ _ _ _ (z01 (Or.inr rfl)) hP hS dX10_isSheet_29
abbrev wd_X10_sheet (cy : Nat → ClassId) (a_v : Nat) (a_v_cells : Nat) (a_v_lanes : Nat) (a_v_sizes : Nat) (a_v_st : Nat) (a_v_now : Nat) (a_v_isKept : Nat) (a_v_draft : Nat) (a_v_placedRow : Nat) (a_v_tape : Nat) (a_v_by : Nat) (a_v_told : Nat) (a_v_bestRow : Nat) (a_v_ways : Nat) (a_v_before : Nat) (v_hasOrder : Int) (v_hasStart : Int) (v_placed : Int) (v_placedMany : Int) (v_highest : Int) (v_taped : Int) (v_pos : Int) (v_begun : Int) (v_sort : Int) (v_value : Int) (v_fault : Int) (v_wrongAt : Int) (v_rightSum : Int) (v_wrongSum : Int) (v_allWays : Int) (v_torn : Int) (v_cells : Nat → Int) (v_lanes : Nat → Int) (v_sizes : Nat → Int) : va_W := [(a_v, .inr (10, [.ref a_v_st, .ref a_v_now, .ref a_v_isKept, .ref a_v_draft, .int (zI v_hasOrder), .int (zI v_hasStart), .int (zI v_placed), .int (zI v_placedMany), .ref a_v_placedRow, .int (zI v_highest), .ref a_v_tape, .int (zI v_taped), .int (zI v_pos), .int (zI v_begun), .int (zI v_sort), .int (zI v_value), .int (zI v_fault), .int (zI v_wrongAt), .ref a_v_by, .ref a_v_told, .ref a_v_bestRow, .long (zL v_rightSum), .long (zL v_wrongSum), .long (zL v_allWays), .ref a_v_ways, .ref a_v_lanes, .ref a_v_sizes, .ref a_v_cells, .int (zI v_torn), .ref a_v_before])), (a_v_cells, .inl (cy 0, 160, .inl (fun j => zI (v_cells j)))), (a_v_lanes, .inl (cy 0, 4, .inl (fun j => zI (v_lanes j)))), (a_v_sizes, .inl (cy 0, 4, .inl (fun j => zI (v_sizes j))))]
set_option maxHeartbeats 4000000 in
set_option maxRecDepth 100000 in
theorem c_X10_sheet (l : Launch) (D : va_G) (cy : Nat → ClassId) (sa : Nat → Nat) (a_v : Nat) (a_v_cells : Nat) (a_v_lanes : Nat) (a_v_sizes : Nat) (a_v_st : Nat) (a_v_now : Nat) (a_v_isKept : Nat) (a_v_draft : Nat) (a_v_placedRow : Nat) (a_v_tape : Nat) (a_v_by : Nat) (a_v_told : Nat) (a_v_bestRow : Nat) (a_v_ways : Nat) (a_v_before : Nat) (v_hasOrder : Int) (v_hasStart : Int) (v_placed : Int) (v_placedMany : Int) (v_highest : Int) (v_taped : Int) (v_pos : Int) (v_begun : Int) (v_sort : Int) (v_value : Int) (v_fault : Int) (v_wrongAt : Int) (v_rightSum : Int) (v_wrongSum : Int) (v_allWays : Int) (v_torn : Int) (v_cells : Nat → Int) (v_lanes : Nat → Int) (v_sizes : Nat → Int) (x1 : Int) (x2 : Int) (x3 : Int) (o : Int × (Nat → Int) × (Nat → Int) × (Nat → Int)) (h : f_M_sheet v_cells v_lanes v_sizes x1 x2 x3 = some o) : CtI l yX10_sheet wsX10_sheet ({ frames := 2, cells := 0, slots := 0, locals := 46 }) D cy sa [.ref a_v, .int (zI x1), .int (zI x2), .int (zI x3)] (wd_X10_sheet cy a_v a_v_cells a_v_lanes a_v_sizes a_v_st a_v_now a_v_isKept a_v_draft a_v_placedRow a_v_tape a_v_by a_v_told a_v_bestRow a_v_ways a_v_before v_hasOrder v_hasStart v_placed v_placedMany v_highest v_taped v_pos v_begun v_sort v_value v_fault v_wrongAt v_rightSum v_wrongSum v_allWays v_torn v_cells v_lanes v_sizes) (wd_X10_sheet cy a_v a_v_cells a_v_lanes a_v_sizes a_v_st a_v_now a_v_isKept a_v_draft a_v_placedRow a_v_tape a_v_by a_v_told a_v_bestRow a_v_ways a_v_before v_hasOrder v_hasStart v_placed v_placedMany v_highest v_taped v_pos v_begun v_sort v_value v_fault v_wrongAt v_rightSum v_wrongSum v_allWays v_torn o.2.1 o.2.2.1 o.2.2.2) o.1 := by
  refine ct_I (cc := cX10_sheet) (maxL := 5) (plainFor_of_name (by decide)) rfl (Nat.le_of_ble_eq_true rfl) ?_
  intro p e s m below meth c A args QQ hx hb hml hown hts hE hDD hP KR ls hl
  have hl : lv_has ls 5 [(0, .ref a_v), (1, .int (zI x1)), (2, .int (zI x2)), (3, .int (zI x3))] := hl
  have hDD : DD A [a_v, a_v_cells, a_v_lanes, a_v_sizes] := hDD
  have hS : va_S A s.heap s.heap [] := va_S.rf
  have q0 := hts (.fieldLink RX10 41 "HatHoursModel" "lanes" "[I") (List.mem_of_getElem? (i := 1) rfl)
  have q1 := hts (.fieldLink RX10 44 "HatHoursModel" "sizes" "[I") (List.mem_of_getElem? (i := 2) rfl)
  have q2 := hts (.fieldLink RX10 47 "HatHoursModel" "cells" "[I") (List.mem_of_getElem? (i := 3) rfl)
  have iX10 : ∀ w ∈ u_ws RX10 TX10 30, w ∈ wsX10_sheet := in_slice 13 30 rfl
  have L40 : ∀ (fuel : Nat) (v_cells : Nat → Int) (v_lanes : Nat → Int) (v_sizes : Nat → Int) (x1 : Int) (x4 : Int) (H : Heap) (locs : List Loc) (ls : Array Slot) (ex : (Nat → Int)), va_P D vwCl (wd_X10_sheet cy a_v a_v_cells a_v_lanes a_v_sizes a_v_st a_v_now a_v_isKept a_v_draft a_v_placedRow a_v_tape a_v_by a_v_told a_v_bestRow a_v_ways a_v_before v_hasOrder v_hasStart v_placed v_placedMany v_highest v_taped v_pos v_begun v_sort v_value v_fault v_wrongAt v_rightSum v_wrongSum v_allWays v_torn v_cells v_lanes v_sizes) H → va_S A s.heap H locs → lv_has ls 5 [(0, .ref a_v), (1, .int (zI x1)), (4, .int (zI x4))] → f_M_sheet_L40 fuel v_cells x1 x4 = some ex → (∀ (H : Heap) (locs : List Loc) (ls : Array Slot), va_P D vwCl (wd_X10_sheet cy a_v a_v_cells a_v_lanes a_v_sizes a_v_st a_v_now a_v_isKept a_v_draft a_v_placedRow a_v_tape a_v_by a_v_told a_v_bestRow a_v_ways a_v_before v_hasOrder v_hasStart v_placed v_placedMany v_highest v_taped v_pos v_begun v_sort v_value v_fault v_wrongAt v_rightSum v_wrongSum v_allWays v_torn ex v_lanes v_sizes) H → va_S A s.heap H locs → lv_has ls 5 [] → W p l e { frames := 2, cells := 0, slots := 0, locals := 46 } s m args below meth c H locs 0 0 QQ (F0 m 66 ls [])) → W p l e { frames := 2, cells := 0, slots := 0, locals := 46 } s m args below meth c H locs 0 0 QQ (F0 m 40 ls []) := by
    intro fuel
    induction fuel with
    | zero => intro _ _ _ _ _ H locs ls ex hP hS hl h K; cases h
    | succ fuel ih =>
      intro v_cells v_lanes v_sizes x1 x4 H locs ls ex hP hS hl h K
      refine lv_iload hx hb dX10_sheet_40 (lv_at hl 2 rfl) ?_
      refine wi_bi hx hb dX10_sheet_42 (by decide) ?_
      obtain ⟨hr12, h⟩ := chk_some h
      refine wi_ic_ge (tgt := 66) hx hb dX10_sheet_44 (by decide) hr12 (by decide) (fun c14 => ?_) (fun c14 => ?_)
      · have h := ite_t c14 h
        obtain rfl := Option.some.inj h
        exact K _ _ _ hP hS (lv_sub hl [] rfl)
      · have h := ite_f c14 h
        refine lv_aload_n hx hb dX10_sheet_47 rfl (lv_at hl 0 rfl) ?_
        refine wi_get (v := .ref a_v_cells) hx hb hts iX10 hown hE hP 0 rfl rfl 27 (by decide) q2 rfl dX10_sheet_48 ?_
        refine wi_bi hx hb dX10_sheet_51 (by decide) ?_
        refine lv_iload_n hx hb dX10_sheet_53 rfl (lv_at hl 1 rfl) ?_
        refine wi_imul hx hb dX10_sheet_54 ?_
        refine lv_iload hx hb dX10_sheet_55 (lv_at hl 2 rfl) ?_
        refine wi_iadd hx hb dX10_sheet_57 ?_
        refine wi_ic hx hb dX10_sheet_58 ?_
        obtain ⟨hk15, h⟩ := chk_some h
        refine wi_iast (w2 := (wd_X10_sheet cy a_v a_v_cells a_v_lanes a_v_sizes a_v_st a_v_now a_v_isKept a_v_draft a_v_placedRow a_v_tape a_v_by a_v_told a_v_bestRow a_v_ways a_v_before v_hasOrder v_hasStart v_placed v_placedMany v_highest v_taped v_pos v_begun v_sort v_value v_fault v_wrongAt v_rightSum v_wrongSum v_allWays v_torn (upZ v_cells ((40 * x1) + x4).toNat 0) v_lanes v_sizes)) hx hb hE hP hDD rfl hS 1 rfl (by decide) hk15 dX10_sheet_59 rfl (fun H locs hP hS => ?_)
        refine wi_iinc (k := 2) (lv' := [(4, .int (zI (x4 + 1))), (0, .ref a_v), (1, .int (zI x1))]) hx hb dX10_sheet_60 hl rfl (by decide) rfl (fun ls hl => ?_)
        refine lv_goto (tgt := 40) hx hb dX10_sheet_63 (by decide) ?_
        exact ih (upZ v_cells ((40 * x1) + x4).toNat 0) v_lanes v_sizes x1 (x4 + 1) _ _ _ _ hP hS (lv_sub hl [1, 2, 0] rfl) h K
  refine lv_iload_n hx hb dX10_sheet_0 rfl (lv_at hl 1 rfl) ?_
  refine lv_iload_n hx hb dX10_sheet_1 rfl (lv_at hl 2 rfl) ?_
  obtain ⟨o1, hc2, h⟩ := bnd_some h
  refine cS_i (rest := []) (w2 := (wd_X10_sheet cy a_v a_v_cells a_v_lanes a_v_sizes a_v_st a_v_now a_v_isKept a_v_draft a_v_placedRow a_v_tape a_v_by a_v_told a_v_bestRow a_v_ways a_v_before v_hasOrder v_hasStart v_placed v_placedMany v_highest v_taped v_pos v_begun v_sort v_value v_fault v_wrongAt v_rightSum v_wrongSum v_allWays v_torn v_cells v_lanes v_sizes)) ⟨hx, hb, hml, hown, hts⟩ (c_X10_isSheet l D cy sa x1 x2 o1 hc2) (va_cwS 2 hts gX10_sheet_X10_isSheet rfl rfl rfl (by decide +kernel) ⟨Nat.le_of_ble_eq_true rfl, Nat.le_of_ble_eq_true rfl⟩) hE hP hDD rfl hS [] rfl rfl rfl rfl hl.1 (Nat.le_of_ble_eq_true rfl) ⟨Nat.zero_le _, Nat.zero_le _⟩ rfl dX10_sheet_2 rfl (fun H locs hP hS => ?_)
  obtain ⟨hr3, h⟩ := chk_some h
  refine wi_if_eq (tgt := 14) hx hb dX10_sheet_5 (by decide) hr3 (fun c5 => ?_) (fun c5 => ?_)
  · have h := ite_t c5 h
    refine wi_ic hx hb dX10_sheet_14 ?_
    obtain rfl := Option.some.inj h
    exact KR _ _ _ _ hP hS dX10_sheet_15
  · have h := ite_f c5 h
    refine lv_iload_n hx hb dX10_sheet_8 rfl (lv_at hl 3 rfl) ?_
    refine wi_bi hx hb dX10_sheet_9 (by decide) ?_
    obtain ⟨hr6, h⟩ := chk_some h
    refine wi_ic_le (tgt := 16) hx hb dX10_sheet_11 (by decide) hr6 (by decide) (fun c8 => ?_) (fun c8 => ?_)
    · have h := ite_t c8 h
      refine lv_iload_n hx hb dX10_sheet_16 rfl (lv_at hl 3 rfl) ?_
      refine wi_if_ge (tgt := 23) hx hb dX10_sheet_17 (by decide) hr6 (fun c10 => ?_) (fun c10 => ?_)
      · have h := ite_t c10 h
        refine lv_aload_n hx hb dX10_sheet_23 rfl (lv_at hl 0 rfl) ?_
        refine wi_get (v := .ref a_v_lanes) hx hb hts iX10 hown hE hP 0 rfl rfl 25 (by decide) q0 rfl dX10_sheet_24 ?_
        refine lv_iload_n hx hb dX10_sheet_27 rfl (lv_at hl 1 rfl) ?_
        refine lv_iload_n hx hb dX10_sheet_28 rfl (lv_at hl 2 rfl) ?_
        obtain ⟨hk11, h⟩ := chk_some h
        refine wi_iast (w2 := (wd_X10_sheet cy a_v a_v_cells a_v_lanes a_v_sizes a_v_st a_v_now a_v_isKept a_v_draft a_v_placedRow a_v_tape a_v_by a_v_told a_v_bestRow a_v_ways a_v_before v_hasOrder v_hasStart v_placed v_placedMany v_highest v_taped v_pos v_begun v_sort v_value v_fault v_wrongAt v_rightSum v_wrongSum v_allWays v_torn v_cells (upZ v_lanes (x1).toNat x2) v_sizes)) hx hb hE hP hDD rfl hS 2 rfl (by decide) hk11 dX10_sheet_29 rfl (fun H locs hP hS => ?_)
        refine lv_aload_n hx hb dX10_sheet_30 rfl (lv_at hl 0 rfl) ?_
        refine wi_get (v := .ref a_v_sizes) hx hb hts iX10 hown hE hP 0 rfl rfl 26 (by decide) q1 rfl dX10_sheet_31 ?_
        refine lv_iload_n hx hb dX10_sheet_34 rfl (lv_at hl 1 rfl) ?_
        refine lv_iload_n hx hb dX10_sheet_35 rfl (lv_at hl 3 rfl) ?_
        refine wi_iast (w2 := (wd_X10_sheet cy a_v a_v_cells a_v_lanes a_v_sizes a_v_st a_v_now a_v_isKept a_v_draft a_v_placedRow a_v_tape a_v_by a_v_told a_v_bestRow a_v_ways a_v_before v_hasOrder v_hasStart v_placed v_placedMany v_highest v_taped v_pos v_begun v_sort v_value v_fault v_wrongAt v_rightSum v_wrongSum v_allWays v_torn v_cells (upZ v_lanes (x1).toNat x2) (upZ v_sizes (x1).toNat x3))) hx hb hE hP hDD rfl hS 3 rfl (by decide) hk11 dX10_sheet_36 rfl (fun H locs hP hS => ?_)
        refine wi_ic hx hb dX10_sheet_37 ?_
        refine lv_istore (lv' := [(4, .int (zI 0)), (0, .ref a_v), (1, .int (zI x1)), (2, .int (zI x2)), (3, .int (zI x3))]) hx hb dX10_sheet_38 hl (by decide) rfl (fun ls hl => ?_)
        obtain ⟨o16, hx17, h⟩ := bnd_some h
        refine L40 5000 v_cells (upZ v_lanes (x1).toNat x2) (upZ v_sizes (x1).toNat x3) x1 0 _ _ _ _ hP hS (lv_sub hl [1, 2, 0] rfl) hx17 ?_
        clear hx17
        intro H locs ls hP hS hl
        refine wi_ic hx hb dX10_sheet_66 ?_
        obtain rfl := Option.some.inj h
        exact KR _ _ _ _ hP hS dX10_sheet_67
      · have h := ite_f c10 h
        refine wi_bi hx hb dX10_sheet_20 (by decide) ?_
        obtain rfl := Option.some.inj h
        exact KR _ _ _ _ hP hS dX10_sheet_22
    · have h := ite_f c8 h
      refine wi_ic hx hb dX10_sheet_14 ?_
      obtain rfl := Option.some.inj h
      exact KR _ _ _ _ hP hS dX10_sheet_15
abbrev wd_X10_lay (cy : Nat → ClassId) (a_v : Nat) (a_v_cells : Nat) (a_v_lanes : Nat) (a_v_sizes : Nat) (a_v_st : Nat) (a_v_now : Nat) (a_v_isKept : Nat) (a_v_draft : Nat) (a_v_placedRow : Nat) (a_v_tape : Nat) (a_v_by : Nat) (a_v_told : Nat) (a_v_bestRow : Nat) (a_v_ways : Nat) (a_v_before : Nat) (v_hasOrder : Int) (v_hasStart : Int) (v_placed : Int) (v_placedMany : Int) (v_highest : Int) (v_taped : Int) (v_pos : Int) (v_begun : Int) (v_sort : Int) (v_value : Int) (v_fault : Int) (v_wrongAt : Int) (v_rightSum : Int) (v_wrongSum : Int) (v_allWays : Int) (v_torn : Int) (v_cells : Nat → Int) (v_lanes : Nat → Int) (v_sizes : Nat → Int) : va_W := [(a_v, .inr (10, [.ref a_v_st, .ref a_v_now, .ref a_v_isKept, .ref a_v_draft, .int (zI v_hasOrder), .int (zI v_hasStart), .int (zI v_placed), .int (zI v_placedMany), .ref a_v_placedRow, .int (zI v_highest), .ref a_v_tape, .int (zI v_taped), .int (zI v_pos), .int (zI v_begun), .int (zI v_sort), .int (zI v_value), .int (zI v_fault), .int (zI v_wrongAt), .ref a_v_by, .ref a_v_told, .ref a_v_bestRow, .long (zL v_rightSum), .long (zL v_wrongSum), .long (zL v_allWays), .ref a_v_ways, .ref a_v_lanes, .ref a_v_sizes, .ref a_v_cells, .int (zI v_torn), .ref a_v_before])), (a_v_cells, .inl (cy 0, 160, .inl (fun j => zI (v_cells j)))), (a_v_lanes, .inl (cy 0, 4, .inl (fun j => zI (v_lanes j)))), (a_v_sizes, .inl (cy 0, 4, .inl (fun j => zI (v_sizes j))))]
set_option maxHeartbeats 4000000 in
set_option maxRecDepth 100000 in
theorem c_X10_lay (l : Launch) (D : va_G) (cy : Nat → ClassId) (sa : Nat → Nat) (a_v : Nat) (a_v_cells : Nat) (a_v_lanes : Nat) (a_v_sizes : Nat) (a_v_st : Nat) (a_v_now : Nat) (a_v_isKept : Nat) (a_v_draft : Nat) (a_v_placedRow : Nat) (a_v_tape : Nat) (a_v_by : Nat) (a_v_told : Nat) (a_v_bestRow : Nat) (a_v_ways : Nat) (a_v_before : Nat) (v_hasOrder : Int) (v_hasStart : Int) (v_placed : Int) (v_placedMany : Int) (v_highest : Int) (v_taped : Int) (v_pos : Int) (v_begun : Int) (v_sort : Int) (v_value : Int) (v_fault : Int) (v_wrongAt : Int) (v_rightSum : Int) (v_wrongSum : Int) (v_allWays : Int) (v_torn : Int) (v_cells : Nat → Int) (v_lanes : Nat → Int) (v_sizes : Nat → Int) (x1 : Int) (x2 : Int) (x3 : Int) (o : Int × (Nat → Int)) (h : f_M_lay v_cells v_lanes v_sizes x1 x2 x3 = some o) : CtI l yX10_lay wsX10_lay ({ frames := 2, cells := 0, slots := 0, locals := 46 }) D cy sa [.ref a_v, .int (zI x1), .int (zI x2), .int (zI x3)] (wd_X10_lay cy a_v a_v_cells a_v_lanes a_v_sizes a_v_st a_v_now a_v_isKept a_v_draft a_v_placedRow a_v_tape a_v_by a_v_told a_v_bestRow a_v_ways a_v_before v_hasOrder v_hasStart v_placed v_placedMany v_highest v_taped v_pos v_begun v_sort v_value v_fault v_wrongAt v_rightSum v_wrongSum v_allWays v_torn v_cells v_lanes v_sizes) (wd_X10_lay cy a_v a_v_cells a_v_lanes a_v_sizes a_v_st a_v_now a_v_isKept a_v_draft a_v_placedRow a_v_tape a_v_by a_v_told a_v_bestRow a_v_ways a_v_before v_hasOrder v_hasStart v_placed v_placedMany v_highest v_taped v_pos v_begun v_sort v_value v_fault v_wrongAt v_rightSum v_wrongSum v_allWays v_torn o.2 v_lanes v_sizes) o.1 := by
  refine ct_I (cc := cX10_lay) (maxL := 4) (plainFor_of_name (by decide)) rfl (Nat.le_of_ble_eq_true rfl) ?_
  intro p e s m below meth c A args QQ hx hb hml hown hts hE hDD hP KR ls hl
  have hl : lv_has ls 4 [(0, .ref a_v), (1, .int (zI x1)), (2, .int (zI x2)), (3, .int (zI x3))] := hl
  have hDD : DD A [a_v, a_v_cells, a_v_lanes, a_v_sizes] := hDD
  have hS : va_S A s.heap s.heap [] := va_S.rf
  have q0 := hts (.fieldLink RX10 41 "HatHoursModel" "lanes" "[I") (List.mem_of_getElem? (i := 1) rfl)
  have q1 := hts (.fieldLink RX10 44 "HatHoursModel" "sizes" "[I") (List.mem_of_getElem? (i := 2) rfl)
  have q2 := hts (.fieldLink RX10 47 "HatHoursModel" "cells" "[I") (List.mem_of_getElem? (i := 3) rfl)
  have iX10 : ∀ w ∈ u_ws RX10 TX10 30, w ∈ wsX10_lay := in_slice 13 30 rfl
  refine lv_iload_n hx hb dX10_lay_0 rfl (lv_at hl 1 rfl) ?_
  refine wi_ic hx hb dX10_lay_1 ?_
  obtain ⟨o1, hc2, h⟩ := bnd_some h
  refine cS_i (rest := []) (w2 := (wd_X10_lay cy a_v a_v_cells a_v_lanes a_v_sizes a_v_st a_v_now a_v_isKept a_v_draft a_v_placedRow a_v_tape a_v_by a_v_told a_v_bestRow a_v_ways a_v_before v_hasOrder v_hasStart v_placed v_placedMany v_highest v_taped v_pos v_begun v_sort v_value v_fault v_wrongAt v_rightSum v_wrongSum v_allWays v_torn v_cells v_lanes v_sizes)) ⟨hx, hb, hml, hown, hts⟩ (c_X10_isSheet l D cy sa x1 0 o1 hc2) (va_cwS 2 hts gX10_lay_X10_isSheet rfl rfl rfl (by decide +kernel) ⟨Nat.le_of_ble_eq_true rfl, Nat.le_of_ble_eq_true rfl⟩) hE hP hDD rfl hS [] rfl rfl rfl rfl hl.1 (Nat.le_of_ble_eq_true rfl) ⟨Nat.zero_le _, Nat.zero_le _⟩ rfl dX10_lay_2 rfl (fun H locs hP hS => ?_)
  obtain ⟨hr3, h⟩ := chk_some h
  refine wi_if_ne (tgt := 10) hx hb dX10_lay_5 (by decide) hr3 (fun c5 => ?_) (fun c5 => ?_)
  · have h := ite_f c5 h
    refine lv_aload_n hx hb dX10_lay_10 rfl (lv_at hl 0 rfl) ?_
    refine wi_get (v := .ref a_v_lanes) hx hb hts iX10 hown hE hP 0 rfl rfl 25 (by decide) q0 rfl dX10_lay_11 ?_
    refine lv_iload_n hx hb dX10_lay_14 rfl (lv_at hl 1 rfl) ?_
    obtain ⟨hk6, h⟩ := chk_some h
    refine wi_iald hx hb hE hP 2 rfl (by decide) hk6 dX10_lay_15 ?_
    refine wi_bi hx hb dX10_lay_16 (by decide) ?_
    obtain ⟨hr7, h⟩ := chk_some h
    refine wi_ic_ne (tgt := 24) hx hb dX10_lay_18 (by decide) hr7 (by decide) (fun c9 => ?_) (fun c9 => ?_)
    · have h := ite_f c9 h
      refine lv_iload_n hx hb dX10_lay_24 rfl (lv_at hl 2 rfl) ?_
      obtain ⟨hr10, h⟩ := chk_some h
      refine wi_i2l hx hb dX10_lay_25 hr10 ?_
      refine wi_lc (v := 0) hx hb dX10_lay_26 rfl ?_
      refine lv_aload_n hx hb dX10_lay_27 rfl (lv_at hl 0 rfl) ?_
      refine wi_get (v := .ref a_v_sizes) hx hb hts iX10 hown hE hP 0 rfl rfl 26 (by decide) q1 rfl dX10_lay_28 ?_
      refine lv_iload_n hx hb dX10_lay_31 rfl (lv_at hl 1 rfl) ?_
      refine wi_iald hx hb hE hP 3 rfl (by decide) hk6 dX10_lay_32 ?_
      refine wi_ic hx hb dX10_lay_33 ?_
      refine wi_isub hx hb dX10_lay_34 ?_
      obtain ⟨hr11, h⟩ := chk_some h
      refine wi_i2l hx hb dX10_lay_35 hr11 ?_
      obtain ⟨o12, hc13, h⟩ := bnd_some h
      refine cS_i (rest := []) (w2 := (wd_X10_lay cy a_v a_v_cells a_v_lanes a_v_sizes a_v_st a_v_now a_v_isKept a_v_draft a_v_placedRow a_v_tape a_v_by a_v_told a_v_bestRow a_v_ways a_v_before v_hasOrder v_hasStart v_placed v_placedMany v_highest v_taped v_pos v_begun v_sort v_value v_fault v_wrongAt v_rightSum v_wrongSum v_allWays v_torn v_cells v_lanes v_sizes)) ⟨hx, hb, hml, hown, hts⟩ (c_X10_in l D cy sa x2 0 ((v_sizes (x1).toNat) - 1) o12 hc13) (va_cwS 3 hts gX10_lay_X10_in rfl rfl rfl (by decide +kernel) ⟨Nat.le_of_ble_eq_true rfl, Nat.le_of_ble_eq_true rfl⟩) hE hP hDD rfl hS [] rfl rfl rfl rfl hl.1 (Nat.le_of_ble_eq_true rfl) ⟨Nat.zero_le _, Nat.zero_le _⟩ rfl dX10_lay_36 rfl (fun H locs hP hS => ?_)
      obtain ⟨hr14, h⟩ := chk_some h
      refine wi_if_ne (tgt := 45) hx hb dX10_lay_39 (by decide) hr14 (fun c16 => ?_) (fun c16 => ?_)
      · have h := ite_f c16 h
        refine lv_aload_n hx hb dX10_lay_45 rfl (lv_at hl 0 rfl) ?_
        refine wi_get (v := .ref a_v_cells) hx hb hts iX10 hown hE hP 0 rfl rfl 27 (by decide) q2 rfl dX10_lay_46 ?_
        refine wi_bi hx hb dX10_lay_49 (by decide) ?_
        refine lv_iload_n hx hb dX10_lay_51 rfl (lv_at hl 1 rfl) ?_
        refine wi_imul hx hb dX10_lay_52 ?_
        refine lv_iload_n hx hb dX10_lay_53 rfl (lv_at hl 2 rfl) ?_
        refine wi_iadd hx hb dX10_lay_54 ?_
        refine lv_aload_n hx hb dX10_lay_55 rfl (lv_at hl 0 rfl) ?_
        refine wi_get (v := .ref a_v_lanes) hx hb hts iX10 hown hE hP 0 rfl rfl 25 (by decide) q0 rfl dX10_lay_56 ?_
        refine lv_iload_n hx hb dX10_lay_59 rfl (lv_at hl 1 rfl) ?_
        refine wi_iald hx hb hE hP 2 rfl (by decide) hk6 dX10_lay_60 ?_
        refine wi_if_ne (tgt := 69) hx hb dX10_lay_61 (by decide) hr7 (fun c18 => ?_) (fun c18 => ?_)
        · have h := ite_f c18 h
          refine lv_aload_n hx hb dX10_lay_69 rfl (lv_at hl 0 rfl) ?_
          refine wi_get (v := .ref a_v_lanes) hx hb hts iX10 hown hE hP 0 rfl rfl 25 (by decide) q0 rfl dX10_lay_70 ?_
          refine lv_iload_n hx hb dX10_lay_73 rfl (lv_at hl 1 rfl) ?_
          refine wi_iald hx hb hE hP 2 rfl (by decide) hk6 dX10_lay_74 ?_
          refine wi_ic hx hb dX10_lay_75 ?_
          refine wi_ic_ne (tgt := 84) hx hb dX10_lay_76 (by decide) hr7 (by decide) (fun c20 => ?_) (fun c20 => ?_)
          · have h := ite_f c20 h
            refine lv_iload_n hx hb dX10_lay_84 rfl (lv_at hl 3 rfl) ?_
            obtain ⟨hk21, h⟩ := chk_some h
            refine wi_iast (w2 := (wd_X10_lay cy a_v a_v_cells a_v_lanes a_v_sizes a_v_st a_v_now a_v_isKept a_v_draft a_v_placedRow a_v_tape a_v_by a_v_told a_v_bestRow a_v_ways a_v_before v_hasOrder v_hasStart v_placed v_placedMany v_highest v_taped v_pos v_begun v_sort v_value v_fault v_wrongAt v_rightSum v_wrongSum v_allWays v_torn (upZ v_cells ((40 * x1) + x2).toNat x3) v_lanes v_sizes)) hx hb hE hP hDD rfl hS 1 rfl (by decide) hk21 dX10_lay_85 rfl (fun H locs hP hS => ?_)
            refine wi_ic hx hb dX10_lay_86 ?_
            obtain rfl := Option.some.inj h
            exact KR _ _ _ _ hP hS dX10_lay_87
          · have h := ite_t c20 h
            refine lv_iload_n hx hb dX10_lay_79 rfl (lv_at hl 3 rfl) ?_
            refine wi_i2s hx hb dX10_lay_80 ?_
            refine lv_goto (tgt := 85) hx hb dX10_lay_81 (by decide) ?_
            obtain ⟨hk22, h⟩ := chk_some h
            refine wi_iast (w2 := (wd_X10_lay cy a_v a_v_cells a_v_lanes a_v_sizes a_v_st a_v_now a_v_isKept a_v_draft a_v_placedRow a_v_tape a_v_by a_v_told a_v_bestRow a_v_ways a_v_before v_hasOrder v_hasStart v_placed v_placedMany v_highest v_taped v_pos v_begun v_sort v_value v_fault v_wrongAt v_rightSum v_wrongSum v_allWays v_torn (upZ v_cells ((40 * x1) + x2).toNat (z16 x3)) v_lanes v_sizes)) hx hb hE hP hDD rfl hS 1 rfl (by decide) hk22 dX10_lay_85 rfl (fun H locs hP hS => ?_)
            refine wi_ic hx hb dX10_lay_86 ?_
            obtain rfl := Option.some.inj h
            exact KR _ _ _ _ hP hS dX10_lay_87
        · have h := ite_t c18 h
          refine lv_iload_n hx hb dX10_lay_64 rfl (lv_at hl 3 rfl) ?_
          refine wi_i2b hx hb dX10_lay_65 ?_
          refine lv_goto (tgt := 85) hx hb dX10_lay_66 (by decide) ?_
          obtain ⟨hk23, h⟩ := chk_some h
          refine wi_iast (w2 := (wd_X10_lay cy a_v a_v_cells a_v_lanes a_v_sizes a_v_st a_v_now a_v_isKept a_v_draft a_v_placedRow a_v_tape a_v_by a_v_told a_v_bestRow a_v_ways a_v_before v_hasOrder v_hasStart v_placed v_placedMany v_highest v_taped v_pos v_begun v_sort v_value v_fault v_wrongAt v_rightSum v_wrongSum v_allWays v_torn (upZ v_cells ((40 * x1) + x2).toNat (z8 x3)) v_lanes v_sizes)) hx hb hE hP hDD rfl hS 1 rfl (by decide) hk23 dX10_lay_85 rfl (fun H locs hP hS => ?_)
          refine wi_ic hx hb dX10_lay_86 ?_
          obtain rfl := Option.some.inj h
          exact KR _ _ _ _ hP hS dX10_lay_87
      · have h := ite_t c16 h
        refine wi_bi hx hb dX10_lay_42 (by decide) ?_
        obtain rfl := Option.some.inj h
        exact KR _ _ _ _ hP hS dX10_lay_44
    · have h := ite_t c9 h
      refine wi_bi hx hb dX10_lay_21 (by decide) ?_
      obtain rfl := Option.some.inj h
      exact KR _ _ _ _ hP hS dX10_lay_23
  · have h := ite_t c5 h
    refine wi_ic hx hb dX10_lay_8 ?_
    obtain rfl := Option.some.inj h
    exact KR _ _ _ _ hP hS dX10_lay_9
