abbrev wd_X10_lineNow (cy : Nat → ClassId) (a_v : Nat) (a_v_tape : Nat) (a_v_st : Nat) (a_v_now : Nat) (a_v_isKept : Nat) (a_v_draft : Nat) (a_v_placedRow : Nat) (a_v_by : Nat) (a_v_told : Nat) (a_v_bestRow : Nat) (a_v_ways : Nat) (a_v_lanes : Nat) (a_v_sizes : Nat) (a_v_cells : Nat) (a_v_before : Nat) (v_hasOrder : Int) (v_hasStart : Int) (v_placed : Int) (v_placedMany : Int) (v_highest : Int) (v_taped : Int) (v_pos : Int) (v_begun : Int) (v_sort : Int) (v_value : Int) (v_fault : Int) (v_wrongAt : Int) (v_rightSum : Int) (v_wrongSum : Int) (v_allWays : Int) (v_torn : Int) (v_tape : Nat → Int) : va_W := [(a_v, .inr (10, [.ref a_v_st, .ref a_v_now, .ref a_v_isKept, .ref a_v_draft, .int (zI v_hasOrder), .int (zI v_hasStart), .int (zI v_placed), .int (zI v_placedMany), .ref a_v_placedRow, .int (zI v_highest), .ref a_v_tape, .int (zI v_taped), .int (zI v_pos), .int (zI v_begun), .int (zI v_sort), .int (zI v_value), .int (zI v_fault), .int (zI v_wrongAt), .ref a_v_by, .ref a_v_told, .ref a_v_bestRow, .long (zL v_rightSum), .long (zL v_wrongSum), .long (zL v_allWays), .ref a_v_ways, .ref a_v_lanes, .ref a_v_sizes, .ref a_v_cells, .int (zI v_torn), .ref a_v_before])), (a_v_tape, .inl (cy 0, 160, .inl (fun j => zI (v_tape j))))]
set_option maxHeartbeats 4000000 in
set_option maxRecDepth 100000 in
theorem c_X10_lineNow (l : Launch) (D : va_G) (cy : Nat → ClassId) (sa : Nat → Nat) (a_v : Nat) (a_v_tape : Nat) (a_v_st : Nat) (a_v_now : Nat) (a_v_isKept : Nat) (a_v_draft : Nat) (a_v_placedRow : Nat) (a_v_by : Nat) (a_v_told : Nat) (a_v_bestRow : Nat) (a_v_ways : Nat) (a_v_lanes : Nat) (a_v_sizes : Nat) (a_v_cells : Nat) (a_v_before : Nat) (v_hasOrder : Int) (v_hasStart : Int) (v_placed : Int) (v_placedMany : Int) (v_highest : Int) (v_taped : Int) (v_pos : Int) (v_begun : Int) (v_sort : Int) (v_value : Int) (v_fault : Int) (v_wrongAt : Int) (v_rightSum : Int) (v_wrongSum : Int) (v_allWays : Int) (v_torn : Int) (v_tape : Nat → Int) (o : Int) (h : f_M_lineNow v_taped v_pos v_begun v_tape = some o) : CtI l yX10_lineNow wsX10_lineNow ({ frames := 2, cells := 0, slots := 0, locals := 46 }) D cy sa [.ref a_v] (wd_X10_lineNow cy a_v a_v_tape a_v_st a_v_now a_v_isKept a_v_draft a_v_placedRow a_v_by a_v_told a_v_bestRow a_v_ways a_v_lanes a_v_sizes a_v_cells a_v_before v_hasOrder v_hasStart v_placed v_placedMany v_highest v_taped v_pos v_begun v_sort v_value v_fault v_wrongAt v_rightSum v_wrongSum v_allWays v_torn v_tape) (wd_X10_lineNow cy a_v a_v_tape a_v_st a_v_now a_v_isKept a_v_draft a_v_placedRow a_v_by a_v_told a_v_bestRow a_v_ways a_v_lanes a_v_sizes a_v_cells a_v_before v_hasOrder v_hasStart v_placed v_placedMany v_highest v_taped v_pos v_begun v_sort v_value v_fault v_wrongAt v_rightSum v_wrongSum v_allWays v_torn v_tape) o := by
  refine ct_I (cc := cX10_lineNow) (maxL := 1) (plainFor_of_name (by decide)) rfl (Nat.le_of_ble_eq_true rfl) ?_
  intro p e s m below meth c A args QQ hx hb hml hown hts hE hDD hP KR ls hl
  have hl : lv_has ls 1 [(0, .ref a_v)] := hl
  have hDD : DD A [a_v, a_v_tape] := hDD
  have hS : va_S A s.heap s.heap [] := va_S.rf
  have B136 : ∀ (H : Heap) (locs : List Loc) (ls : Array Slot), va_P D vwCl (wd_X10_lineNow cy a_v a_v_tape a_v_st a_v_now a_v_isKept a_v_draft a_v_placedRow a_v_by a_v_told a_v_bestRow a_v_ways a_v_lanes a_v_sizes a_v_cells a_v_before v_hasOrder v_hasStart v_placed v_placedMany v_highest v_taped v_pos v_begun v_sort v_value v_fault v_wrongAt v_rightSum v_wrongSum v_allWays v_torn v_tape) H → va_S A s.heap H locs → lv_has ls 1 [(0, .ref a_v)] → f_M_lineNow_b136 v_taped v_pos v_begun v_tape = some o → W p l e { frames := 2, cells := 0, slots := 0, locals := 46 } s m args below meth c H locs 0 0 QQ (F0 m 136 ls []) := by
    intro  H locs ls hP hS hl h
    refine lv_aload_n hx hb dX10_lineNow_136 rfl (lv_at hl 0 rfl) ?_
    refine wi_ic hx hb dX10_lineNow_137 ?_
    refine wi_bi hx hb dX10_lineNow_138 (by decide) ?_
    refine wi_bi hx hb dX10_lineNow_140 (by decide) ?_
    refine wi_bi hx hb dX10_lineNow_142 (by decide) ?_
    refine wi_bi hx hb dX10_lineNow_144 (by decide) ?_
    obtain ⟨o26, hc27, h⟩ := bnd_some h
    refine cV_i (rest := []) (w2 := (wd_X10_lineNow cy a_v a_v_tape a_v_st a_v_now a_v_isKept a_v_draft a_v_placedRow a_v_by a_v_told a_v_bestRow a_v_ways a_v_lanes a_v_sizes a_v_cells a_v_before v_hasOrder v_hasStart v_placed v_placedMany v_highest v_taped v_pos v_begun v_sort v_value v_fault v_wrongAt v_rightSum v_wrongSum v_allWays v_torn v_tape)) ⟨hx, hb, hml, hown, hts⟩ (c_X10_is l D cy sa a_v a_v_tape a_v_st a_v_now a_v_isKept a_v_draft a_v_placedRow a_v_by a_v_told a_v_bestRow a_v_ways a_v_lanes a_v_sizes a_v_cells a_v_before v_hasOrder v_hasStart v_placed v_placedMany v_highest v_taped v_pos v_begun v_sort v_value v_fault v_wrongAt v_rightSum v_wrongSum v_allWays v_torn v_tape 5 115 116 97 114 o26 hc27) (cwV 5 hts gX10_lineNow_X10_is rfl rfl rfl (by decide +kernel) ⟨Nat.le_of_ble_eq_true rfl, Nat.le_of_ble_eq_true rfl⟩) rfl rfl rfl hE hP hDD rfl hS [0, 1] rfl rfl rfl rfl hl.1 (Nat.le_of_ble_eq_true rfl) ⟨Nat.zero_le _, Nat.zero_le _⟩ rfl dX10_lineNow_146 rfl (fun H locs hP hS => ?_)
    obtain ⟨hr28, h⟩ := chk_some h
    refine wi_if_eq (tgt := 166) hx hb dX10_lineNow_149 (by decide) hr28 (fun c30 => ?_) (fun c30 => ?_)
    · have h := ite_t c30 h
      refine wi_bi hx hb dX10_lineNow_166 (by decide) ?_
      obtain rfl := Option.some.inj h
      exact KR _ _ _ _ hP hS dX10_lineNow_168
    · have h := ite_f c30 h
      refine lv_aload_n hx hb dX10_lineNow_152 rfl (lv_at hl 0 rfl) ?_
      refine wi_bi hx hb dX10_lineNow_153 (by decide) ?_
      refine wi_ic hx hb dX10_lineNow_155 ?_
      obtain ⟨o31, hc32, h⟩ := bnd_some h
      refine cV_i (rest := []) (w2 := (wd_X10_lineNow cy a_v a_v_tape a_v_st a_v_now a_v_isKept a_v_draft a_v_placedRow a_v_by a_v_told a_v_bestRow a_v_ways a_v_lanes a_v_sizes a_v_cells a_v_before v_hasOrder v_hasStart v_placed v_placedMany v_highest v_taped v_pos v_begun v_sort v_value v_fault v_wrongAt v_rightSum v_wrongSum v_allWays v_torn v_tape)) ⟨hx, hb, hml, hown, hts⟩ (c_X10_ends l D cy sa a_v a_v_tape a_v_st a_v_now a_v_isKept a_v_draft a_v_placedRow a_v_by a_v_told a_v_bestRow a_v_ways a_v_lanes a_v_sizes a_v_cells a_v_before v_hasOrder v_hasStart v_placed v_placedMany v_highest v_taped v_pos v_begun v_sort v_value v_fault v_wrongAt v_rightSum v_wrongSum v_allWays v_torn v_tape 116 0 o31 hc32) (cwV 2 hts gX10_lineNow_X10_ends rfl rfl rfl (by decide +kernel) ⟨Nat.le_of_ble_eq_true rfl, Nat.le_of_ble_eq_true rfl⟩) rfl rfl rfl hE hP hDD rfl hS [0, 1] rfl rfl rfl rfl hl.1 (Nat.le_of_ble_eq_true rfl) ⟨Nat.zero_le _, Nat.zero_le _⟩ rfl dX10_lineNow_156 rfl (fun H locs hP hS => ?_)
      obtain ⟨hr33, h⟩ := chk_some h
      refine wi_if_eq (tgt := 166) hx hb dX10_lineNow_159 (by decide) hr33 (fun c35 => ?_) (fun c35 => ?_)
      · have h := ite_t c35 h
        refine wi_bi hx hb dX10_lineNow_166 (by decide) ?_
        obtain rfl := Option.some.inj h
        exact KR _ _ _ _ hP hS dX10_lineNow_168
      · have h := ite_f c35 h
        refine wi_ic hx hb dX10_lineNow_162 ?_
        refine lv_goto (tgt := 168) hx hb dX10_lineNow_163 (by decide) ?_
        obtain rfl := Option.some.inj h
        exact KR _ _ _ _ hP hS dX10_lineNow_168
  have B106 : ∀ (H : Heap) (locs : List Loc) (ls : Array Slot), va_P D vwCl (wd_X10_lineNow cy a_v a_v_tape a_v_st a_v_now a_v_isKept a_v_draft a_v_placedRow a_v_by a_v_told a_v_bestRow a_v_ways a_v_lanes a_v_sizes a_v_cells a_v_before v_hasOrder v_hasStart v_placed v_placedMany v_highest v_taped v_pos v_begun v_sort v_value v_fault v_wrongAt v_rightSum v_wrongSum v_allWays v_torn v_tape) H → va_S A s.heap H locs → lv_has ls 1 [(0, .ref a_v)] → f_M_lineNow_b106 v_taped v_pos v_begun v_tape = some o → W p l e { frames := 2, cells := 0, slots := 0, locals := 46 } s m args below meth c H locs 0 0 QQ (F0 m 106 ls []) := by
    intro  H locs ls hP hS hl h
    refine lv_aload_n hx hb dX10_lineNow_106 rfl (lv_at hl 0 rfl) ?_
    refine wi_ic hx hb dX10_lineNow_107 ?_
    refine wi_bi hx hb dX10_lineNow_108 (by decide) ?_
    refine wi_bi hx hb dX10_lineNow_110 (by decide) ?_
    refine wi_bi hx hb dX10_lineNow_112 (by decide) ?_
    refine wi_bi hx hb dX10_lineNow_114 (by decide) ?_
    obtain ⟨o21, hc22, h⟩ := bnd_some h
    refine cV_i (rest := []) (w2 := (wd_X10_lineNow cy a_v a_v_tape a_v_st a_v_now a_v_isKept a_v_draft a_v_placedRow a_v_by a_v_told a_v_bestRow a_v_ways a_v_lanes a_v_sizes a_v_cells a_v_before v_hasOrder v_hasStart v_placed v_placedMany v_highest v_taped v_pos v_begun v_sort v_value v_fault v_wrongAt v_rightSum v_wrongSum v_allWays v_torn v_tape)) ⟨hx, hb, hml, hown, hts⟩ (c_X10_is l D cy sa a_v a_v_tape a_v_st a_v_now a_v_isKept a_v_draft a_v_placedRow a_v_by a_v_told a_v_bestRow a_v_ways a_v_lanes a_v_sizes a_v_cells a_v_before v_hasOrder v_hasStart v_placed v_placedMany v_highest v_taped v_pos v_begun v_sort v_value v_fault v_wrongAt v_rightSum v_wrongSum v_allWays v_torn v_tape 5 111 114 100 101 o21 hc22) (cwV 5 hts gX10_lineNow_X10_is rfl rfl rfl (by decide +kernel) ⟨Nat.le_of_ble_eq_true rfl, Nat.le_of_ble_eq_true rfl⟩) rfl rfl rfl hE hP hDD rfl hS [0, 1] rfl rfl rfl rfl hl.1 (Nat.le_of_ble_eq_true rfl) ⟨Nat.zero_le _, Nat.zero_le _⟩ rfl dX10_lineNow_116 rfl (fun H locs hP hS => ?_)
    obtain ⟨hr23, h⟩ := chk_some h
    refine wi_if_eq (tgt := 136) hx hb dX10_lineNow_119 (by decide) hr23 (fun c25 => ?_) (fun c25 => ?_)
    · have h := ite_t c25 h
      exact B136  _ _ _ hP hS (lv_sub hl [0] rfl) h
    · have h := ite_f c25 h
      refine lv_aload_n hx hb dX10_lineNow_122 rfl (lv_at hl 0 rfl) ?_
      refine wi_bi hx hb dX10_lineNow_123 (by decide) ?_
      refine wi_ic hx hb dX10_lineNow_125 ?_
      obtain ⟨o36, hc37, h⟩ := bnd_some h
      refine cV_i (rest := []) (w2 := (wd_X10_lineNow cy a_v a_v_tape a_v_st a_v_now a_v_isKept a_v_draft a_v_placedRow a_v_by a_v_told a_v_bestRow a_v_ways a_v_lanes a_v_sizes a_v_cells a_v_before v_hasOrder v_hasStart v_placed v_placedMany v_highest v_taped v_pos v_begun v_sort v_value v_fault v_wrongAt v_rightSum v_wrongSum v_allWays v_torn v_tape)) ⟨hx, hb, hml, hown, hts⟩ (c_X10_ends l D cy sa a_v a_v_tape a_v_st a_v_now a_v_isKept a_v_draft a_v_placedRow a_v_by a_v_told a_v_bestRow a_v_ways a_v_lanes a_v_sizes a_v_cells a_v_before v_hasOrder v_hasStart v_placed v_placedMany v_highest v_taped v_pos v_begun v_sort v_value v_fault v_wrongAt v_rightSum v_wrongSum v_allWays v_torn v_tape 114 0 o36 hc37) (cwV 2 hts gX10_lineNow_X10_ends rfl rfl rfl (by decide +kernel) ⟨Nat.le_of_ble_eq_true rfl, Nat.le_of_ble_eq_true rfl⟩) rfl rfl rfl hE hP hDD rfl hS [0, 1] rfl rfl rfl rfl hl.1 (Nat.le_of_ble_eq_true rfl) ⟨Nat.zero_le _, Nat.zero_le _⟩ rfl dX10_lineNow_126 rfl (fun H locs hP hS => ?_)
      obtain ⟨hr38, h⟩ := chk_some h
      refine wi_if_eq (tgt := 136) hx hb dX10_lineNow_129 (by decide) hr38 (fun c40 => ?_) (fun c40 => ?_)
      · have h := ite_t c40 h
        exact B136  _ _ _ hP hS (lv_sub hl [0] rfl) h
      · have h := ite_f c40 h
        refine wi_ic hx hb dX10_lineNow_132 ?_
        refine lv_goto (tgt := 168) hx hb dX10_lineNow_133 (by decide) ?_
        obtain rfl := Option.some.inj h
        exact KR _ _ _ _ hP hS dX10_lineNow_168
  have B76 : ∀ (H : Heap) (locs : List Loc) (ls : Array Slot), va_P D vwCl (wd_X10_lineNow cy a_v a_v_tape a_v_st a_v_now a_v_isKept a_v_draft a_v_placedRow a_v_by a_v_told a_v_bestRow a_v_ways a_v_lanes a_v_sizes a_v_cells a_v_before v_hasOrder v_hasStart v_placed v_placedMany v_highest v_taped v_pos v_begun v_sort v_value v_fault v_wrongAt v_rightSum v_wrongSum v_allWays v_torn v_tape) H → va_S A s.heap H locs → lv_has ls 1 [(0, .ref a_v)] → f_M_lineNow_b76 v_taped v_pos v_begun v_tape = some o → W p l e { frames := 2, cells := 0, slots := 0, locals := 46 } s m args below meth c H locs 0 0 QQ (F0 m 76 ls []) := by
    intro  H locs ls hP hS hl h
    refine lv_aload_n hx hb dX10_lineNow_76 rfl (lv_at hl 0 rfl) ?_
    refine wi_bi hx hb dX10_lineNow_77 (by decide) ?_
    refine wi_bi hx hb dX10_lineNow_79 (by decide) ?_
    refine wi_bi hx hb dX10_lineNow_81 (by decide) ?_
    refine wi_bi hx hb dX10_lineNow_83 (by decide) ?_
    refine wi_bi hx hb dX10_lineNow_85 (by decide) ?_
    obtain ⟨o16, hc17, h⟩ := bnd_some h
    refine cV_i (rest := []) (w2 := (wd_X10_lineNow cy a_v a_v_tape a_v_st a_v_now a_v_isKept a_v_draft a_v_placedRow a_v_by a_v_told a_v_bestRow a_v_ways a_v_lanes a_v_sizes a_v_cells a_v_before v_hasOrder v_hasStart v_placed v_placedMany v_highest v_taped v_pos v_begun v_sort v_value v_fault v_wrongAt v_rightSum v_wrongSum v_allWays v_torn v_tape)) ⟨hx, hb, hml, hown, hts⟩ (c_X10_is l D cy sa a_v a_v_tape a_v_st a_v_now a_v_isKept a_v_draft a_v_placedRow a_v_by a_v_told a_v_bestRow a_v_ways a_v_lanes a_v_sizes a_v_cells a_v_before v_hasOrder v_hasStart v_placed v_placedMany v_highest v_taped v_pos v_begun v_sort v_value v_fault v_wrongAt v_rightSum v_wrongSum v_allWays v_torn v_tape 6 98 114 105 100 o16 hc17) (cwV 5 hts gX10_lineNow_X10_is rfl rfl rfl (by decide +kernel) ⟨Nat.le_of_ble_eq_true rfl, Nat.le_of_ble_eq_true rfl⟩) rfl rfl rfl hE hP hDD rfl hS [0, 1] rfl rfl rfl rfl hl.1 (Nat.le_of_ble_eq_true rfl) ⟨Nat.zero_le _, Nat.zero_le _⟩ rfl dX10_lineNow_87 rfl (fun H locs hP hS => ?_)
    obtain ⟨hr18, h⟩ := chk_some h
    refine wi_if_eq (tgt := 106) hx hb dX10_lineNow_90 (by decide) hr18 (fun c20 => ?_) (fun c20 => ?_)
    · have h := ite_t c20 h
      exact B106  _ _ _ hP hS (lv_sub hl [0] rfl) h
    · have h := ite_f c20 h
      refine lv_aload_n hx hb dX10_lineNow_93 rfl (lv_at hl 0 rfl) ?_
      refine wi_bi hx hb dX10_lineNow_94 (by decide) ?_
      refine wi_bi hx hb dX10_lineNow_96 (by decide) ?_
      obtain ⟨o41, hc42, h⟩ := bnd_some h
      refine cV_i (rest := []) (w2 := (wd_X10_lineNow cy a_v a_v_tape a_v_st a_v_now a_v_isKept a_v_draft a_v_placedRow a_v_by a_v_told a_v_bestRow a_v_ways a_v_lanes a_v_sizes a_v_cells a_v_before v_hasOrder v_hasStart v_placed v_placedMany v_highest v_taped v_pos v_begun v_sort v_value v_fault v_wrongAt v_rightSum v_wrongSum v_allWays v_torn v_tape)) ⟨hx, hb, hml, hown, hts⟩ (c_X10_ends l D cy sa a_v a_v_tape a_v_st a_v_now a_v_isKept a_v_draft a_v_placedRow a_v_by a_v_told a_v_bestRow a_v_ways a_v_lanes a_v_sizes a_v_cells a_v_before v_hasOrder v_hasStart v_placed v_placedMany v_highest v_taped v_pos v_begun v_sort v_value v_fault v_wrongAt v_rightSum v_wrongSum v_allWays v_torn v_tape 97 108 o41 hc42) (cwV 2 hts gX10_lineNow_X10_ends rfl rfl rfl (by decide +kernel) ⟨Nat.le_of_ble_eq_true rfl, Nat.le_of_ble_eq_true rfl⟩) rfl rfl rfl hE hP hDD rfl hS [0, 1] rfl rfl rfl rfl hl.1 (Nat.le_of_ble_eq_true rfl) ⟨Nat.zero_le _, Nat.zero_le _⟩ rfl dX10_lineNow_98 rfl (fun H locs hP hS => ?_)
      obtain ⟨hr43, h⟩ := chk_some h
      refine wi_if_eq (tgt := 106) hx hb dX10_lineNow_101 (by decide) hr43 (fun c45 => ?_) (fun c45 => ?_)
      · have h := ite_t c45 h
        exact B106  _ _ _ hP hS (lv_sub hl [0] rfl) h
      · have h := ite_f c45 h
        refine wi_ic hx hb dX10_lineNow_104 ?_
        obtain rfl := Option.some.inj h
        exact KR _ _ _ _ hP hS dX10_lineNow_105
  have B30 : ∀ (H : Heap) (locs : List Loc) (ls : Array Slot), va_P D vwCl (wd_X10_lineNow cy a_v a_v_tape a_v_st a_v_now a_v_isKept a_v_draft a_v_placedRow a_v_by a_v_told a_v_bestRow a_v_ways a_v_lanes a_v_sizes a_v_cells a_v_before v_hasOrder v_hasStart v_placed v_placedMany v_highest v_taped v_pos v_begun v_sort v_value v_fault v_wrongAt v_rightSum v_wrongSum v_allWays v_torn v_tape) H → va_S A s.heap H locs → lv_has ls 1 [(0, .ref a_v)] → f_M_lineNow_b30 v_taped v_pos v_begun v_tape = some o → W p l e { frames := 2, cells := 0, slots := 0, locals := 46 } s m args below meth c H locs 0 0 QQ (F0 m 30 ls []) := by
    intro  H locs ls hP hS hl h
    refine lv_aload_n hx hb dX10_lineNow_30 rfl (lv_at hl 0 rfl) ?_
    refine wi_ic hx hb dX10_lineNow_31 ?_
    refine wi_bi hx hb dX10_lineNow_32 (by decide) ?_
    refine wi_bi hx hb dX10_lineNow_34 (by decide) ?_
    refine wi_bi hx hb dX10_lineNow_36 (by decide) ?_
    refine wi_bi hx hb dX10_lineNow_38 (by decide) ?_
    obtain ⟨o6, hc7, h⟩ := bnd_some h
    refine cV_i (rest := []) (w2 := (wd_X10_lineNow cy a_v a_v_tape a_v_st a_v_now a_v_isKept a_v_draft a_v_placedRow a_v_by a_v_told a_v_bestRow a_v_ways a_v_lanes a_v_sizes a_v_cells a_v_before v_hasOrder v_hasStart v_placed v_placedMany v_highest v_taped v_pos v_begun v_sort v_value v_fault v_wrongAt v_rightSum v_wrongSum v_allWays v_torn v_tape)) ⟨hx, hb, hml, hown, hts⟩ (c_X10_is l D cy sa a_v a_v_tape a_v_st a_v_now a_v_isKept a_v_draft a_v_placedRow a_v_by a_v_told a_v_bestRow a_v_ways a_v_lanes a_v_sizes a_v_cells a_v_before v_hasOrder v_hasStart v_placed v_placedMany v_highest v_taped v_pos v_begun v_sort v_value v_fault v_wrongAt v_rightSum v_wrongSum v_allWays v_torn v_tape 4 118 101 105 108 o6 hc7) (cwV 5 hts gX10_lineNow_X10_is rfl rfl rfl (by decide +kernel) ⟨Nat.le_of_ble_eq_true rfl, Nat.le_of_ble_eq_true rfl⟩) rfl rfl rfl hE hP hDD rfl hS [0, 1] rfl rfl rfl rfl hl.1 (Nat.le_of_ble_eq_true rfl) ⟨Nat.zero_le _, Nat.zero_le _⟩ rfl dX10_lineNow_40 rfl (fun H locs hP hS => ?_)
    obtain ⟨hr8, h⟩ := chk_some h
    refine wi_if_eq (tgt := 48) hx hb dX10_lineNow_43 (by decide) hr8 (fun c10 => ?_) (fun c10 => ?_)
    · have h := ite_t c10 h
      refine lv_aload_n hx hb dX10_lineNow_48 rfl (lv_at hl 0 rfl) ?_
      refine wi_ic hx hb dX10_lineNow_49 ?_
      refine wi_bi hx hb dX10_lineNow_50 (by decide) ?_
      refine wi_bi hx hb dX10_lineNow_52 (by decide) ?_
      refine wi_bi hx hb dX10_lineNow_54 (by decide) ?_
      refine wi_bi hx hb dX10_lineNow_56 (by decide) ?_
      obtain ⟨o11, hc12, h⟩ := bnd_some h
      refine cV_i (rest := []) (w2 := (wd_X10_lineNow cy a_v a_v_tape a_v_st a_v_now a_v_isKept a_v_draft a_v_placedRow a_v_by a_v_told a_v_bestRow a_v_ways a_v_lanes a_v_sizes a_v_cells a_v_before v_hasOrder v_hasStart v_placed v_placedMany v_highest v_taped v_pos v_begun v_sort v_value v_fault v_wrongAt v_rightSum v_wrongSum v_allWays v_torn v_tape)) ⟨hx, hb, hml, hown, hts⟩ (c_X10_is l D cy sa a_v a_v_tape a_v_st a_v_now a_v_isKept a_v_draft a_v_placedRow a_v_by a_v_told a_v_bestRow a_v_ways a_v_lanes a_v_sizes a_v_cells a_v_before v_hasOrder v_hasStart v_placed v_placedMany v_highest v_taped v_pos v_begun v_sort v_value v_fault v_wrongAt v_rightSum v_wrongSum v_allWays v_torn v_tape 5 116 111 113 117 o11 hc12) (cwV 5 hts gX10_lineNow_X10_is rfl rfl rfl (by decide +kernel) ⟨Nat.le_of_ble_eq_true rfl, Nat.le_of_ble_eq_true rfl⟩) rfl rfl rfl hE hP hDD rfl hS [0, 1] rfl rfl rfl rfl hl.1 (Nat.le_of_ble_eq_true rfl) ⟨Nat.zero_le _, Nat.zero_le _⟩ rfl dX10_lineNow_58 rfl (fun H locs hP hS => ?_)
      obtain ⟨hr13, h⟩ := chk_some h
      refine wi_if_eq (tgt := 76) hx hb dX10_lineNow_61 (by decide) hr13 (fun c15 => ?_) (fun c15 => ?_)
      · have h := ite_t c15 h
        exact B76  _ _ _ hP hS (lv_sub hl [0] rfl) h
      · have h := ite_f c15 h
        refine lv_aload_n hx hb dX10_lineNow_64 rfl (lv_at hl 0 rfl) ?_
        refine wi_bi hx hb dX10_lineNow_65 (by decide) ?_
        refine wi_ic hx hb dX10_lineNow_67 ?_
        obtain ⟨o46, hc47, h⟩ := bnd_some h
        refine cV_i (rest := []) (w2 := (wd_X10_lineNow cy a_v a_v_tape a_v_st a_v_now a_v_isKept a_v_draft a_v_placedRow a_v_by a_v_told a_v_bestRow a_v_ways a_v_lanes a_v_sizes a_v_cells a_v_before v_hasOrder v_hasStart v_placed v_placedMany v_highest v_taped v_pos v_begun v_sort v_value v_fault v_wrongAt v_rightSum v_wrongSum v_allWays v_torn v_tape)) ⟨hx, hb, hml, hown, hts⟩ (c_X10_ends l D cy sa a_v a_v_tape a_v_st a_v_now a_v_isKept a_v_draft a_v_placedRow a_v_by a_v_told a_v_bestRow a_v_ways a_v_lanes a_v_sizes a_v_cells a_v_before v_hasOrder v_hasStart v_placed v_placedMany v_highest v_taped v_pos v_begun v_sort v_value v_fault v_wrongAt v_rightSum v_wrongSum v_allWays v_torn v_tape 101 0 o46 hc47) (cwV 2 hts gX10_lineNow_X10_ends rfl rfl rfl (by decide +kernel) ⟨Nat.le_of_ble_eq_true rfl, Nat.le_of_ble_eq_true rfl⟩) rfl rfl rfl hE hP hDD rfl hS [0, 1] rfl rfl rfl rfl hl.1 (Nat.le_of_ble_eq_true rfl) ⟨Nat.zero_le _, Nat.zero_le _⟩ rfl dX10_lineNow_68 rfl (fun H locs hP hS => ?_)
        obtain ⟨hr48, h⟩ := chk_some h
        refine wi_if_eq (tgt := 76) hx hb dX10_lineNow_71 (by decide) hr48 (fun c50 => ?_) (fun c50 => ?_)
        · have h := ite_t c50 h
          exact B76  _ _ _ hP hS (lv_sub hl [0] rfl) h
        · have h := ite_f c50 h
          refine wi_ic hx hb dX10_lineNow_74 ?_
          obtain rfl := Option.some.inj h
          exact KR _ _ _ _ hP hS dX10_lineNow_75
    · have h := ite_f c10 h
      refine wi_ic hx hb dX10_lineNow_46 ?_
      obtain rfl := Option.some.inj h
      exact KR _ _ _ _ hP hS dX10_lineNow_47
  refine lv_aload_n hx hb dX10_lineNow_0 rfl (lv_at hl 0 rfl) ?_
  refine wi_bi hx hb dX10_lineNow_1 (by decide) ?_
  refine wi_bi hx hb dX10_lineNow_3 (by decide) ?_
  refine wi_bi hx hb dX10_lineNow_5 (by decide) ?_
  refine wi_bi hx hb dX10_lineNow_7 (by decide) ?_
  refine wi_bi hx hb dX10_lineNow_9 (by decide) ?_
  obtain ⟨o1, hc2, h⟩ := bnd_some h
  refine cV_i (rest := []) (w2 := (wd_X10_lineNow cy a_v a_v_tape a_v_st a_v_now a_v_isKept a_v_draft a_v_placedRow a_v_by a_v_told a_v_bestRow a_v_ways a_v_lanes a_v_sizes a_v_cells a_v_before v_hasOrder v_hasStart v_placed v_placedMany v_highest v_taped v_pos v_begun v_sort v_value v_fault v_wrongAt v_rightSum v_wrongSum v_allWays v_torn v_tape)) ⟨hx, hb, hml, hown, hts⟩ (c_X10_is l D cy sa a_v a_v_tape a_v_st a_v_now a_v_isKept a_v_draft a_v_placedRow a_v_by a_v_told a_v_bestRow a_v_ways a_v_lanes a_v_sizes a_v_cells a_v_before v_hasOrder v_hasStart v_placed v_placedMany v_highest v_taped v_pos v_begun v_sort v_value v_fault v_wrongAt v_rightSum v_wrongSum v_allWays v_torn v_tape 6 98 111 110 110 o1 hc2) (cwV 5 hts gX10_lineNow_X10_is rfl rfl rfl (by decide +kernel) ⟨Nat.le_of_ble_eq_true rfl, Nat.le_of_ble_eq_true rfl⟩) rfl rfl rfl hE hP hDD rfl hS [0, 1] rfl rfl rfl rfl hl.1 (Nat.le_of_ble_eq_true rfl) ⟨Nat.zero_le _, Nat.zero_le _⟩ rfl dX10_lineNow_11 rfl (fun H locs hP hS => ?_)
  obtain ⟨hr3, h⟩ := chk_some h
  refine wi_if_eq (tgt := 30) hx hb dX10_lineNow_14 (by decide) hr3 (fun c5 => ?_) (fun c5 => ?_)
  · have h := ite_t c5 h
    exact B30  _ _ _ hP hS (lv_sub hl [0] rfl) h
  · have h := ite_f c5 h
    refine lv_aload_n hx hb dX10_lineNow_17 rfl (lv_at hl 0 rfl) ?_
    refine wi_bi hx hb dX10_lineNow_18 (by decide) ?_
    refine wi_bi hx hb dX10_lineNow_20 (by decide) ?_
    obtain ⟨o51, hc52, h⟩ := bnd_some h
    refine cV_i (rest := []) (w2 := (wd_X10_lineNow cy a_v a_v_tape a_v_st a_v_now a_v_isKept a_v_draft a_v_placedRow a_v_by a_v_told a_v_bestRow a_v_ways a_v_lanes a_v_sizes a_v_cells a_v_before v_hasOrder v_hasStart v_placed v_placedMany v_highest v_taped v_pos v_begun v_sort v_value v_fault v_wrongAt v_rightSum v_wrongSum v_allWays v_torn v_tape)) ⟨hx, hb, hml, hown, hts⟩ (c_X10_ends l D cy sa a_v a_v_tape a_v_st a_v_now a_v_isKept a_v_draft a_v_placedRow a_v_by a_v_told a_v_bestRow a_v_ways a_v_lanes a_v_sizes a_v_cells a_v_before v_hasOrder v_hasStart v_placed v_placedMany v_highest v_taped v_pos v_begun v_sort v_value v_fault v_wrongAt v_rightSum v_wrongSum v_allWays v_torn v_tape 101 116 o51 hc52) (cwV 2 hts gX10_lineNow_X10_ends rfl rfl rfl (by decide +kernel) ⟨Nat.le_of_ble_eq_true rfl, Nat.le_of_ble_eq_true rfl⟩) rfl rfl rfl hE hP hDD rfl hS [0, 1] rfl rfl rfl rfl hl.1 (Nat.le_of_ble_eq_true rfl) ⟨Nat.zero_le _, Nat.zero_le _⟩ rfl dX10_lineNow_22 rfl (fun H locs hP hS => ?_)
    obtain ⟨hr53, h⟩ := chk_some h
    refine wi_if_eq (tgt := 30) hx hb dX10_lineNow_25 (by decide) hr53 (fun c55 => ?_) (fun c55 => ?_)
    · have h := ite_t c55 h
      exact B30  _ _ _ hP hS (lv_sub hl [0] rfl) h
    · have h := ite_f c55 h
      refine wi_ic hx hb dX10_lineNow_28 ?_
      obtain rfl := Option.some.inj h
      exact KR _ _ _ _ hP hS dX10_lineNow_29
abbrev wd_X10_takes (cy : Nat → ClassId) (a_v : Nat) (a_v_tape : Nat) (a_v_st : Nat) (a_v_now : Nat) (a_v_isKept : Nat) (a_v_draft : Nat) (a_v_placedRow : Nat) (a_v_by : Nat) (a_v_told : Nat) (a_v_bestRow : Nat) (a_v_ways : Nat) (a_v_lanes : Nat) (a_v_sizes : Nat) (a_v_cells : Nat) (a_v_before : Nat) (v_hasOrder : Int) (v_hasStart : Int) (v_placed : Int) (v_placedMany : Int) (v_highest : Int) (v_taped : Int) (v_pos : Int) (v_begun : Int) (v_sort : Int) (v_value : Int) (v_fault : Int) (v_wrongAt : Int) (v_rightSum : Int) (v_wrongSum : Int) (v_allWays : Int) (v_torn : Int) (v_tape : Nat → Int) : va_W := [(a_v, .inr (10, [.ref a_v_st, .ref a_v_now, .ref a_v_isKept, .ref a_v_draft, .int (zI v_hasOrder), .int (zI v_hasStart), .int (zI v_placed), .int (zI v_placedMany), .ref a_v_placedRow, .int (zI v_highest), .ref a_v_tape, .int (zI v_taped), .int (zI v_pos), .int (zI v_begun), .int (zI v_sort), .int (zI v_value), .int (zI v_fault), .int (zI v_wrongAt), .ref a_v_by, .ref a_v_told, .ref a_v_bestRow, .long (zL v_rightSum), .long (zL v_wrongSum), .long (zL v_allWays), .ref a_v_ways, .ref a_v_lanes, .ref a_v_sizes, .ref a_v_cells, .int (zI v_torn), .ref a_v_before])), (a_v_tape, .inl (cy 0, 160, .inl (fun j => zI (v_tape j))))]
set_option maxHeartbeats 4000000 in
set_option maxRecDepth 100000 in
theorem c_X10_takes (l : Launch) (D : va_G) (cy : Nat → ClassId) (sa : Nat → Nat) (a_v : Nat) (a_v_tape : Nat) (a_v_st : Nat) (a_v_now : Nat) (a_v_isKept : Nat) (a_v_draft : Nat) (a_v_placedRow : Nat) (a_v_by : Nat) (a_v_told : Nat) (a_v_bestRow : Nat) (a_v_ways : Nat) (a_v_lanes : Nat) (a_v_sizes : Nat) (a_v_cells : Nat) (a_v_before : Nat) (v_hasOrder : Int) (v_hasStart : Int) (v_placed : Int) (v_placedMany : Int) (v_highest : Int) (v_taped : Int) (v_pos : Int) (v_begun : Int) (v_sort : Int) (v_value : Int) (v_fault : Int) (v_wrongAt : Int) (v_rightSum : Int) (v_wrongSum : Int) (v_allWays : Int) (v_torn : Int) (v_tape : Nat → Int) (o : Int × Int × Int × Int × Int × Int) (h : f_M_takes v_taped v_pos v_begun v_sort v_value v_fault v_wrongAt v_tape = some o) : CtV l yX10_takes wsX10_takes ({ frames := 1, cells := 0, slots := 0, locals := 25 }) D cy sa [.ref a_v] (wd_X10_takes cy a_v a_v_tape a_v_st a_v_now a_v_isKept a_v_draft a_v_placedRow a_v_by a_v_told a_v_bestRow a_v_ways a_v_lanes a_v_sizes a_v_cells a_v_before v_hasOrder v_hasStart v_placed v_placedMany v_highest v_taped v_pos v_begun v_sort v_value v_fault v_wrongAt v_rightSum v_wrongSum v_allWays v_torn v_tape) (wd_X10_takes cy a_v a_v_tape a_v_st a_v_now a_v_isKept a_v_draft a_v_placedRow a_v_by a_v_told a_v_bestRow a_v_ways a_v_lanes a_v_sizes a_v_cells a_v_before v_hasOrder v_hasStart v_placed v_placedMany v_highest v_taped o.1 o.2.1 o.2.2.1 o.2.2.2.1 o.2.2.2.2.1 o.2.2.2.2.2 v_rightSum v_wrongSum v_allWays v_torn v_tape)  := by
  refine ct_V (cc := cX10_takes) (maxL := 2) (plainFor_of_name (by decide)) rfl (Nat.le_of_ble_eq_true rfl) ?_
  intro p e s m below meth c A args QQ hx hb hml hown hts hE hDD hP KR ls hl
  have hl : lv_has ls 2 [(0, .ref a_v)] := hl
  have hDD : DD A [a_v, a_v_tape] := hDD
  have hS : va_S A s.heap s.heap [] := va_S.rf
  have q0 := hts (.fieldLink RX10 85 "HatHoursModel" "fault" "I") (List.mem_of_getElem? (i := 1) rfl)
  have q1 := hts (.fieldLink RX10 94 "HatHoursModel" "pos" "I") (List.mem_of_getElem? (i := 2) rfl)
  have q2 := hts (.fieldLink RX10 88 "HatHoursModel" "begun" "I") (List.mem_of_getElem? (i := 3) rfl)
  have q3 := hts (.constantLong RX10 112 (97)) (List.mem_of_getElem? (i := 5) rfl)
  have q4 := hts (.constantLong RX10 114 (122)) (List.mem_of_getElem? (i := 6) rfl)
  have q5 := hts (.constantLong RX10 116 (48)) (List.mem_of_getElem? (i := 7) rfl)
  have q6 := hts (.constantLong RX10 118 (57)) (List.mem_of_getElem? (i := 8) rfl)
  have q7 := hts (.fieldLink RX10 109 "HatHoursModel" "sort" "I") (List.mem_of_getElem? (i := 4) rfl)
  have q8 := hts (.fieldLink RX10 120 "HatHoursModel" "value" "I") (List.mem_of_getElem? (i := 9) rfl)
  have iX10 : ∀ w ∈ u_ws RX10 TX10 30, w ∈ wsX10_takes := in_slice 25 30 rfl
  have L8 : ∀ (fuel : Nat) (v_pos : Int) (v_begun : Int) (v_sort : Int) (v_value : Int) (v_fault : Int) (v_wrongAt : Int) (H : Heap) (locs : List Loc) (ls : Array Slot) (ex : Int), va_P D vwCl (wd_X10_takes cy a_v a_v_tape a_v_st a_v_now a_v_isKept a_v_draft a_v_placedRow a_v_by a_v_told a_v_bestRow a_v_ways a_v_lanes a_v_sizes a_v_cells a_v_before v_hasOrder v_hasStart v_placed v_placedMany v_highest v_taped v_pos v_begun v_sort v_value v_fault v_wrongAt v_rightSum v_wrongSum v_allWays v_torn v_tape) H → va_S A s.heap H locs → lv_has ls 2 [(0, .ref a_v)] → f_M_takes_L8 fuel v_taped v_pos v_tape = some ex → (∀ (H : Heap) (locs : List Loc) (ls : Array Slot), va_P D vwCl (wd_X10_takes cy a_v a_v_tape a_v_st a_v_now a_v_isKept a_v_draft a_v_placedRow a_v_by a_v_told a_v_bestRow a_v_ways a_v_lanes a_v_sizes a_v_cells a_v_before v_hasOrder v_hasStart v_placed v_placedMany v_highest v_taped ex v_begun v_sort v_value v_fault v_wrongAt v_rightSum v_wrongSum v_allWays v_torn v_tape) H → va_S A s.heap H locs → lv_has ls 2 [(0, .ref a_v)] → W p l e { frames := 1, cells := 0, slots := 0, locals := 25 } s m args below meth c H locs 0 0 QQ (F0 m 34 ls [])) → W p l e { frames := 1, cells := 0, slots := 0, locals := 25 } s m args below meth c H locs 0 0 QQ (F0 m 8 ls []) := by
    intro fuel
    induction fuel with
    | zero => intro _ _ _ _ _ _ H locs ls ex hP hS hl h K; cases h
    | succ fuel ih =>
      intro v_pos v_begun v_sort v_value v_fault v_wrongAt H locs ls ex hP hS hl h K
      refine lv_aload_n hx hb dX10_takes_8 rfl (lv_at hl 0 rfl) ?_
      refine lv_aload_n hx hb dX10_takes_9 rfl (lv_at hl 0 rfl) ?_
      refine wi_get (v := .int (zI v_pos)) hx hb hts iX10 hown hE hP 0 rfl rfl 12 (by decide) q1 rfl dX10_takes_10 ?_
      obtain ⟨o4, hc5, h⟩ := bnd_some h
      refine cV_i (rest := []) (w2 := (wd_X10_takes cy a_v a_v_tape a_v_st a_v_now a_v_isKept a_v_draft a_v_placedRow a_v_by a_v_told a_v_bestRow a_v_ways a_v_lanes a_v_sizes a_v_cells a_v_before v_hasOrder v_hasStart v_placed v_placedMany v_highest v_taped v_pos v_begun v_sort v_value v_fault v_wrongAt v_rightSum v_wrongSum v_allWays v_torn v_tape)) ⟨hx, hb, hml, hown, hts⟩ (c_X10_byteAt l D cy sa a_v a_v_tape a_v_st a_v_now a_v_isKept a_v_draft a_v_placedRow a_v_by a_v_told a_v_bestRow a_v_ways a_v_lanes a_v_sizes a_v_cells a_v_before v_hasOrder v_hasStart v_placed v_placedMany v_highest v_taped v_pos v_begun v_sort v_value v_fault v_wrongAt v_rightSum v_wrongSum v_allWays v_torn v_tape v_pos o4 hc5) (cwV 1 hts gX10_takes_X10_byteAt rfl rfl rfl (by decide +kernel) ⟨Nat.le_of_ble_eq_true rfl, Nat.le_of_ble_eq_true rfl⟩) rfl rfl rfl hE hP hDD rfl hS [0, 1] rfl rfl rfl rfl hl.1 (Nat.le_of_ble_eq_true rfl) ⟨Nat.zero_le _, Nat.zero_le _⟩ rfl dX10_takes_13 rfl (fun H locs hP hS => ?_)
      refine wi_bi hx hb dX10_takes_16 (by decide) ?_
      obtain ⟨hr6, h⟩ := chk_some h
      refine wi_ic_ne (tgt := 34) hx hb dX10_takes_18 (by decide) hr6 (by decide) (fun c8 => ?_) (fun c8 => ?_)
      · have h := ite_f c8 h
        obtain rfl := Option.some.inj h
        exact K _ _ _ hP hS (lv_sub hl [0] rfl)
      · have h := ite_t c8 h
        refine lv_aload_n hx hb dX10_takes_21 rfl (lv_at hl 0 rfl) ?_
        refine lv_dup hx hb dX10_takes_22 rfl ?_
        refine wi_get (v := .int (zI v_pos)) hx hb hts iX10 hown hE hP 0 rfl rfl 12 (by decide) q1 rfl dX10_takes_23 ?_
        refine wi_ic hx hb dX10_takes_26 ?_
        refine wi_iadd hx hb dX10_takes_27 ?_
        refine wi_put (ty := .int) (v := .int (zI (v_pos + 1))) (w2 := (wd_X10_takes cy a_v a_v_tape a_v_st a_v_now a_v_isKept a_v_draft a_v_placedRow a_v_by a_v_told a_v_bestRow a_v_ways a_v_lanes a_v_sizes a_v_cells a_v_before v_hasOrder v_hasStart v_placed v_placedMany v_highest v_taped (v_pos + 1) v_begun v_sort v_value v_fault v_wrongAt v_rightSum v_wrongSum v_allWays v_torn v_tape)) hx hb hts iX10 tyX10 tyX10_ok nmX10 hown hE hP hDD rfl hS 0 rfl rfl 12 (by decide) q1 rfl (by decide +kernel) rfl rfl (Nat.le_of_ble_eq_true rfl) dX10_takes_28 rfl (fun H locs hP hS => ?_)
        refine lv_goto (tgt := 8) hx hb dX10_takes_31 (by decide) ?_
        exact ih (v_pos + 1) v_begun v_sort v_value v_fault v_wrongAt _ _ _ _ hP hS (lv_sub hl [0] rfl) h K
  have L140 : ∀ (fuel : Nat) (v_pos : Int) (v_begun : Int) (v_sort : Int) (v_value : Int) (v_fault : Int) (v_wrongAt : Int) (H : Heap) (locs : List Loc) (ls : Array Slot) (ex : Int × Int), va_P D vwCl (wd_X10_takes cy a_v a_v_tape a_v_st a_v_now a_v_isKept a_v_draft a_v_placedRow a_v_by a_v_told a_v_bestRow a_v_ways a_v_lanes a_v_sizes a_v_cells a_v_before v_hasOrder v_hasStart v_placed v_placedMany v_highest v_taped v_pos v_begun v_sort v_value v_fault v_wrongAt v_rightSum v_wrongSum v_allWays v_torn v_tape) H → va_S A s.heap H locs → lv_has ls 2 [(0, .ref a_v)] → f_M_takes_L140 fuel v_taped v_pos v_begun v_value v_tape = some ex → (∀ (H : Heap) (locs : List Loc) (ls : Array Slot), va_P D vwCl (wd_X10_takes cy a_v a_v_tape a_v_st a_v_now a_v_isKept a_v_draft a_v_placedRow a_v_by a_v_told a_v_bestRow a_v_ways a_v_lanes a_v_sizes a_v_cells a_v_before v_hasOrder v_hasStart v_placed v_placedMany v_highest v_taped ex.1 v_begun v_sort ex.2 v_fault v_wrongAt v_rightSum v_wrongSum v_allWays v_torn v_tape) H → va_S A s.heap H locs → lv_has ls 2 [(0, .ref a_v)] → W p l e { frames := 1, cells := 0, slots := 0, locals := 25 } s m args below meth c H locs 0 0 QQ (F0 m 217 ls [])) → W p l e { frames := 1, cells := 0, slots := 0, locals := 25 } s m args below meth c H locs 0 0 QQ (F0 m 140 ls []) := by
    intro fuel
    induction fuel with
    | zero => intro _ _ _ _ _ _ H locs ls ex hP hS hl h K; cases h
    | succ fuel ih =>
      intro v_pos v_begun v_sort v_value v_fault v_wrongAt H locs ls ex hP hS hl h K
      refine lv_aload_n hx hb dX10_takes_140 rfl (lv_at hl 0 rfl) ?_
      refine lv_aload_n hx hb dX10_takes_141 rfl (lv_at hl 0 rfl) ?_
      refine wi_get (v := .int (zI v_pos)) hx hb hts iX10 hown hE hP 0 rfl rfl 12 (by decide) q1 rfl dX10_takes_142 ?_
      obtain ⟨o32, hc33, h⟩ := bnd_some h
      refine cV_i (rest := []) (w2 := (wd_X10_takes cy a_v a_v_tape a_v_st a_v_now a_v_isKept a_v_draft a_v_placedRow a_v_by a_v_told a_v_bestRow a_v_ways a_v_lanes a_v_sizes a_v_cells a_v_before v_hasOrder v_hasStart v_placed v_placedMany v_highest v_taped v_pos v_begun v_sort v_value v_fault v_wrongAt v_rightSum v_wrongSum v_allWays v_torn v_tape)) ⟨hx, hb, hml, hown, hts⟩ (c_X10_byteAt l D cy sa a_v a_v_tape a_v_st a_v_now a_v_isKept a_v_draft a_v_placedRow a_v_by a_v_told a_v_bestRow a_v_ways a_v_lanes a_v_sizes a_v_cells a_v_before v_hasOrder v_hasStart v_placed v_placedMany v_highest v_taped v_pos v_begun v_sort v_value v_fault v_wrongAt v_rightSum v_wrongSum v_allWays v_torn v_tape v_pos o32 hc33) (cwV 1 hts gX10_takes_X10_byteAt rfl rfl rfl (by decide +kernel) ⟨Nat.le_of_ble_eq_true rfl, Nat.le_of_ble_eq_true rfl⟩) rfl rfl rfl hE hP hDD rfl hS [0, 1] rfl rfl rfl rfl hl.1 (Nat.le_of_ble_eq_true rfl) ⟨Nat.zero_le _, Nat.zero_le _⟩ rfl dX10_takes_145 rfl (fun H locs hP hS => ?_)
      obtain ⟨hr34, h⟩ := chk_some h
      refine wi_i2l hx hb dX10_takes_148 hr34 ?_
      refine wi_ldc2 (n := 48) hx hb hown q5 dX10_takes_149 rfl ?_
      refine wi_ldc2 (n := 57) hx hb hown q6 dX10_takes_152 rfl ?_
      obtain ⟨o35, hc36, h⟩ := bnd_some h
      refine cS_i (rest := []) (w2 := (wd_X10_takes cy a_v a_v_tape a_v_st a_v_now a_v_isKept a_v_draft a_v_placedRow a_v_by a_v_told a_v_bestRow a_v_ways a_v_lanes a_v_sizes a_v_cells a_v_before v_hasOrder v_hasStart v_placed v_placedMany v_highest v_taped v_pos v_begun v_sort v_value v_fault v_wrongAt v_rightSum v_wrongSum v_allWays v_torn v_tape)) ⟨hx, hb, hml, hown, hts⟩ (c_X10_in l D cy sa o32 48 57 o35 hc36) (va_cwS 3 hts gX10_takes_X10_in rfl rfl rfl (by decide +kernel) ⟨Nat.le_of_ble_eq_true rfl, Nat.le_of_ble_eq_true rfl⟩) hE hP hDD rfl hS [] rfl rfl rfl rfl hl.1 (Nat.le_of_ble_eq_true rfl) ⟨Nat.zero_le _, Nat.zero_le _⟩ rfl dX10_takes_155 rfl (fun H locs hP hS => ?_)
      obtain ⟨hr37, h⟩ := chk_some h
      refine wi_if_eq (tgt := 217) hx hb dX10_takes_158 (by decide) hr37 (fun c39 => ?_) (fun c39 => ?_)
      · have h := ite_t c39 h
        obtain rfl := Option.some.inj h
        exact K _ _ _ hP hS (lv_sub hl [0] rfl)
      · have h := ite_f c39 h
        refine lv_aload_n hx hb dX10_takes_161 rfl (lv_at hl 0 rfl) ?_
        refine lv_aload_n hx hb dX10_takes_162 rfl (lv_at hl 0 rfl) ?_
        refine wi_get (v := .int (zI v_pos)) hx hb hts iX10 hown hE hP 0 rfl rfl 12 (by decide) q1 rfl dX10_takes_163 ?_
        refine lv_aload_n hx hb dX10_takes_166 rfl (lv_at hl 0 rfl) ?_
        refine wi_get (v := .int (zI v_begun)) hx hb hts iX10 hown hE hP 0 rfl rfl 13 (by decide) q2 rfl dX10_takes_167 ?_
        refine wi_isub hx hb dX10_takes_170 ?_
        refine wi_ic hx hb dX10_takes_171 ?_
        obtain ⟨hr40, h⟩ := chk_some h
        obtain ⟨o41, hx42, h⟩ := bnd_some h
        have J43 : ∀ (H : Heap) (locs : List Loc) (ls : Array Slot), va_P D vwCl (wd_X10_takes cy a_v a_v_tape a_v_st a_v_now a_v_isKept a_v_draft a_v_placedRow a_v_by a_v_told a_v_bestRow a_v_ways a_v_lanes a_v_sizes a_v_cells a_v_before v_hasOrder v_hasStart v_placed v_placedMany v_highest v_taped v_pos v_begun v_sort v_value v_fault v_wrongAt v_rightSum v_wrongSum v_allWays v_torn v_tape) H → va_S A s.heap H locs → lv_has ls 2 [(0, .ref a_v)] → W p l e { frames := 1, cells := 0, slots := 0, locals := 25 } s m args below meth c H locs 0 0 QQ (F0 m 201 ls [.int (zI o41), .ref a_v]) := by
          intro H locs ls hP hS hl
          refine wi_put (ty := .int) (v := .int (zI o41)) (w2 := (wd_X10_takes cy a_v a_v_tape a_v_st a_v_now a_v_isKept a_v_draft a_v_placedRow a_v_by a_v_told a_v_bestRow a_v_ways a_v_lanes a_v_sizes a_v_cells a_v_before v_hasOrder v_hasStart v_placed v_placedMany v_highest v_taped v_pos v_begun v_sort o41 v_fault v_wrongAt v_rightSum v_wrongSum v_allWays v_torn v_tape)) hx hb hts iX10 tyX10 tyX10_ok nmX10 hown hE hP hDD rfl hS 0 rfl rfl 15 (by decide) q8 rfl (by decide +kernel) rfl rfl (Nat.le_of_ble_eq_true rfl) dX10_takes_201 rfl (fun H locs hP hS => ?_)
          refine lv_aload_n hx hb dX10_takes_204 rfl (lv_at hl 0 rfl) ?_
          refine lv_dup hx hb dX10_takes_205 rfl ?_
          refine wi_get (v := .int (zI v_pos)) hx hb hts iX10 hown hE hP 0 rfl rfl 12 (by decide) q1 rfl dX10_takes_206 ?_
          refine wi_ic hx hb dX10_takes_209 ?_
          refine wi_iadd hx hb dX10_takes_210 ?_
          refine wi_put (ty := .int) (v := .int (zI (v_pos + 1))) (w2 := (wd_X10_takes cy a_v a_v_tape a_v_st a_v_now a_v_isKept a_v_draft a_v_placedRow a_v_by a_v_told a_v_bestRow a_v_ways a_v_lanes a_v_sizes a_v_cells a_v_before v_hasOrder v_hasStart v_placed v_placedMany v_highest v_taped (v_pos + 1) v_begun v_sort o41 v_fault v_wrongAt v_rightSum v_wrongSum v_allWays v_torn v_tape)) hx hb hts iX10 tyX10 tyX10_ok nmX10 hown hE hP hDD rfl hS 0 rfl rfl 12 (by decide) q1 rfl (by decide +kernel) rfl rfl (Nat.le_of_ble_eq_true rfl) dX10_takes_211 rfl (fun H locs hP hS => ?_)
          refine lv_goto (tgt := 140) hx hb dX10_takes_214 (by decide) ?_
          exact ih (v_pos + 1) v_begun v_sort o41 v_fault v_wrongAt _ _ _ _ hP hS (lv_sub hl [0] rfl) h K
        clear h
        have h := hx42
        clear hx42
        refine wi_ic_ge (tgt := 197) hx hb dX10_takes_172 (by decide) hr40 (by decide) (fun c44 => ?_) (fun c44 => ?_)
        · have h := ite_t c44 h
          refine lv_aload_n hx hb dX10_takes_197 rfl (lv_at hl 0 rfl) ?_
          refine wi_get (v := .int (zI v_value)) hx hb hts iX10 hown hE hP 0 rfl rfl 15 (by decide) q8 rfl dX10_takes_198 ?_
          obtain rfl := Option.some.inj h
          exact J43 _ _ _ hP hS (lv_sub hl [0] rfl)
        · have h := ite_f c44 h
          refine wi_bi hx hb dX10_takes_175 (by decide) ?_
          refine lv_aload_n hx hb dX10_takes_177 rfl (lv_at hl 0 rfl) ?_
          refine wi_get (v := .int (zI v_value)) hx hb hts iX10 hown hE hP 0 rfl rfl 15 (by decide) q8 rfl dX10_takes_178 ?_
          refine wi_imul hx hb dX10_takes_181 ?_
          refine lv_aload_n hx hb dX10_takes_182 rfl (lv_at hl 0 rfl) ?_
          refine lv_aload_n hx hb dX10_takes_183 rfl (lv_at hl 0 rfl) ?_
          refine wi_get (v := .int (zI v_pos)) hx hb hts iX10 hown hE hP 0 rfl rfl 12 (by decide) q1 rfl dX10_takes_184 ?_
          obtain ⟨o45, hc46, h⟩ := bnd_some h
          refine cV_i (rest := [.int (zI (10 * v_value)), .ref a_v]) (w2 := (wd_X10_takes cy a_v a_v_tape a_v_st a_v_now a_v_isKept a_v_draft a_v_placedRow a_v_by a_v_told a_v_bestRow a_v_ways a_v_lanes a_v_sizes a_v_cells a_v_before v_hasOrder v_hasStart v_placed v_placedMany v_highest v_taped v_pos v_begun v_sort v_value v_fault v_wrongAt v_rightSum v_wrongSum v_allWays v_torn v_tape)) ⟨hx, hb, hml, hown, hts⟩ (c_X10_byteAt l D cy sa a_v a_v_tape a_v_st a_v_now a_v_isKept a_v_draft a_v_placedRow a_v_by a_v_told a_v_bestRow a_v_ways a_v_lanes a_v_sizes a_v_cells a_v_before v_hasOrder v_hasStart v_placed v_placedMany v_highest v_taped v_pos v_begun v_sort v_value v_fault v_wrongAt v_rightSum v_wrongSum v_allWays v_torn v_tape v_pos o45 hc46) (cwV 1 hts gX10_takes_X10_byteAt rfl rfl rfl (by decide +kernel) ⟨Nat.le_of_ble_eq_true rfl, Nat.le_of_ble_eq_true rfl⟩) rfl rfl rfl hE hP hDD rfl hS [0, 1] rfl rfl rfl rfl hl.1 (Nat.le_of_ble_eq_true rfl) ⟨Nat.zero_le _, Nat.zero_le _⟩ rfl dX10_takes_187 rfl (fun H locs hP hS => ?_)
          refine wi_iadd hx hb dX10_takes_190 ?_
          refine wi_bi hx hb dX10_takes_191 (by decide) ?_
          refine wi_isub hx hb dX10_takes_193 ?_
          refine lv_goto (tgt := 201) hx hb dX10_takes_194 (by decide) ?_
          obtain rfl := Option.some.inj h
          exact J43 _ _ _ hP hS (lv_sub hl [0] rfl)
  have L82 : ∀ (fuel : Nat) (v_pos : Int) (v_begun : Int) (v_sort : Int) (v_value : Int) (v_fault : Int) (v_wrongAt : Int) (H : Heap) (locs : List Loc) (ls : Array Slot) (ex : Int), va_P D vwCl (wd_X10_takes cy a_v a_v_tape a_v_st a_v_now a_v_isKept a_v_draft a_v_placedRow a_v_by a_v_told a_v_bestRow a_v_ways a_v_lanes a_v_sizes a_v_cells a_v_before v_hasOrder v_hasStart v_placed v_placedMany v_highest v_taped v_pos v_begun v_sort v_value v_fault v_wrongAt v_rightSum v_wrongSum v_allWays v_torn v_tape) H → va_S A s.heap H locs → lv_has ls 2 [(0, .ref a_v)] → f_M_takes_L82 fuel v_taped v_pos v_tape = some ex → (∀ (H : Heap) (locs : List Loc) (ls : Array Slot), va_P D vwCl (wd_X10_takes cy a_v a_v_tape a_v_st a_v_now a_v_isKept a_v_draft a_v_placedRow a_v_by a_v_told a_v_bestRow a_v_ways a_v_lanes a_v_sizes a_v_cells a_v_before v_hasOrder v_hasStart v_placed v_placedMany v_highest v_taped ex v_begun v_sort v_value v_fault v_wrongAt v_rightSum v_wrongSum v_allWays v_torn v_tape) H → va_S A s.heap H locs → lv_has ls 2 [] → W p l e { frames := 1, cells := 0, slots := 0, locals := 25 } s m args below meth c H locs 0 0 QQ (F0 m 274 ls [])) → W p l e { frames := 1, cells := 0, slots := 0, locals := 25 } s m args below meth c H locs 0 0 QQ (F0 m 82 ls []) := by
    intro fuel
    induction fuel with
    | zero => intro _ _ _ _ _ _ H locs ls ex hP hS hl h K; cases h
    | succ fuel ih =>
      intro v_pos v_begun v_sort v_value v_fault v_wrongAt H locs ls ex hP hS hl h K
      refine lv_aload_n hx hb dX10_takes_82 rfl (lv_at hl 0 rfl) ?_
      refine lv_aload_n hx hb dX10_takes_83 rfl (lv_at hl 0 rfl) ?_
      refine wi_get (v := .int (zI v_pos)) hx hb hts iX10 hown hE hP 0 rfl rfl 12 (by decide) q1 rfl dX10_takes_84 ?_
      obtain ⟨o56, hc57, h⟩ := bnd_some h
      refine cV_i (rest := []) (w2 := (wd_X10_takes cy a_v a_v_tape a_v_st a_v_now a_v_isKept a_v_draft a_v_placedRow a_v_by a_v_told a_v_bestRow a_v_ways a_v_lanes a_v_sizes a_v_cells a_v_before v_hasOrder v_hasStart v_placed v_placedMany v_highest v_taped v_pos v_begun v_sort v_value v_fault v_wrongAt v_rightSum v_wrongSum v_allWays v_torn v_tape)) ⟨hx, hb, hml, hown, hts⟩ (c_X10_byteAt l D cy sa a_v a_v_tape a_v_st a_v_now a_v_isKept a_v_draft a_v_placedRow a_v_by a_v_told a_v_bestRow a_v_ways a_v_lanes a_v_sizes a_v_cells a_v_before v_hasOrder v_hasStart v_placed v_placedMany v_highest v_taped v_pos v_begun v_sort v_value v_fault v_wrongAt v_rightSum v_wrongSum v_allWays v_torn v_tape v_pos o56 hc57) (cwV 1 hts gX10_takes_X10_byteAt rfl rfl rfl (by decide +kernel) ⟨Nat.le_of_ble_eq_true rfl, Nat.le_of_ble_eq_true rfl⟩) rfl rfl rfl hE hP hDD rfl hS [0, 1] rfl rfl rfl rfl hl.1 (Nat.le_of_ble_eq_true rfl) ⟨Nat.zero_le _, Nat.zero_le _⟩ rfl dX10_takes_87 rfl (fun H locs hP hS => ?_)
      obtain ⟨hr58, h⟩ := chk_some h
      refine wi_i2l hx hb dX10_takes_90 hr58 ?_
      refine wi_ldc2 (n := 97) hx hb hown q3 dX10_takes_91 rfl ?_
      refine wi_ldc2 (n := 122) hx hb hown q4 dX10_takes_94 rfl ?_
      obtain ⟨o59, hc60, h⟩ := bnd_some h
      refine cS_i (rest := []) (w2 := (wd_X10_takes cy a_v a_v_tape a_v_st a_v_now a_v_isKept a_v_draft a_v_placedRow a_v_by a_v_told a_v_bestRow a_v_ways a_v_lanes a_v_sizes a_v_cells a_v_before v_hasOrder v_hasStart v_placed v_placedMany v_highest v_taped v_pos v_begun v_sort v_value v_fault v_wrongAt v_rightSum v_wrongSum v_allWays v_torn v_tape)) ⟨hx, hb, hml, hown, hts⟩ (c_X10_in l D cy sa o56 97 122 o59 hc60) (va_cwS 3 hts gX10_takes_X10_in rfl rfl rfl (by decide +kernel) ⟨Nat.le_of_ble_eq_true rfl, Nat.le_of_ble_eq_true rfl⟩) hE hP hDD rfl hS [] rfl rfl rfl rfl hl.1 (Nat.le_of_ble_eq_true rfl) ⟨Nat.zero_le _, Nat.zero_le _⟩ rfl dX10_takes_97 rfl (fun H locs hP hS => ?_)
      obtain ⟨hr61, h⟩ := chk_some h
      refine wi_if_eq (tgt := 274) hx hb dX10_takes_100 (by decide) hr61 (fun c63 => ?_) (fun c63 => ?_)
      · have h := ite_t c63 h
        obtain rfl := Option.some.inj h
        exact K _ _ _ hP hS (lv_sub hl [] rfl)
      · have h := ite_f c63 h
        refine lv_aload_n hx hb dX10_takes_103 rfl (lv_at hl 0 rfl) ?_
        refine lv_dup hx hb dX10_takes_104 rfl ?_
        refine wi_get (v := .int (zI v_pos)) hx hb hts iX10 hown hE hP 0 rfl rfl 12 (by decide) q1 rfl dX10_takes_105 ?_
        refine wi_ic hx hb dX10_takes_108 ?_
        refine wi_iadd hx hb dX10_takes_109 ?_
        refine wi_put (ty := .int) (v := .int (zI (v_pos + 1))) (w2 := (wd_X10_takes cy a_v a_v_tape a_v_st a_v_now a_v_isKept a_v_draft a_v_placedRow a_v_by a_v_told a_v_bestRow a_v_ways a_v_lanes a_v_sizes a_v_cells a_v_before v_hasOrder v_hasStart v_placed v_placedMany v_highest v_taped (v_pos + 1) v_begun v_sort v_value v_fault v_wrongAt v_rightSum v_wrongSum v_allWays v_torn v_tape)) hx hb hts iX10 tyX10 tyX10_ok nmX10 hown hE hP hDD rfl hS 0 rfl rfl 12 (by decide) q1 rfl (by decide +kernel) rfl rfl (Nat.le_of_ble_eq_true rfl) dX10_takes_110 rfl (fun H locs hP hS => ?_)
        refine lv_goto (tgt := 82) hx hb dX10_takes_113 (by decide) ?_
        exact ih (v_pos + 1) v_begun v_sort v_value v_fault v_wrongAt _ _ _ _ hP hS (lv_sub hl [0] rfl) h K
  refine lv_aload_n hx hb dX10_takes_0 rfl (lv_at hl 0 rfl) ?_
  refine wi_get (v := .int (zI v_fault)) hx hb hts iX10 hown hE hP 0 rfl rfl 16 (by decide) q0 rfl dX10_takes_1 ?_
  obtain ⟨hr1, h⟩ := chk_some h
  refine wi_if_le (tgt := 8) hx hb dX10_takes_4 (by decide) hr1 (fun c3 => ?_) (fun c3 => ?_)
  · have h := ite_t c3 h
    obtain ⟨o9, hx10, h⟩ := bnd_some h
    refine L8 5000 v_pos v_begun v_sort v_value v_fault v_wrongAt _ _ _ _ hP hS (lv_sub hl [0] rfl) hx10 ?_
    clear hx10
    intro H locs ls hP hS hl
    refine lv_aload_n hx hb dX10_takes_34 rfl (lv_at hl 0 rfl) ?_
    refine lv_aload_n hx hb dX10_takes_35 rfl (lv_at hl 0 rfl) ?_
    refine wi_get (v := .int (zI o9)) hx hb hts iX10 hown hE hP 0 rfl rfl 12 (by decide) q1 rfl dX10_takes_36 ?_
    refine wi_put (ty := .int) (v := .int (zI o9)) (w2 := (wd_X10_takes cy a_v a_v_tape a_v_st a_v_now a_v_isKept a_v_draft a_v_placedRow a_v_by a_v_told a_v_bestRow a_v_ways a_v_lanes a_v_sizes a_v_cells a_v_before v_hasOrder v_hasStart v_placed v_placedMany v_highest v_taped o9 o9 v_sort v_value v_fault v_wrongAt v_rightSum v_wrongSum v_allWays v_torn v_tape)) hx hb hts iX10 tyX10 tyX10_ok nmX10 hown hE hP hDD rfl hS 0 rfl rfl 13 (by decide) q2 rfl (by decide +kernel) rfl rfl (Nat.le_of_ble_eq_true rfl) dX10_takes_39 rfl (fun H locs hP hS => ?_)
    refine lv_aload_n hx hb dX10_takes_42 rfl (lv_at hl 0 rfl) ?_
    refine lv_aload_n hx hb dX10_takes_43 rfl (lv_at hl 0 rfl) ?_
    refine wi_get (v := .int (zI o9)) hx hb hts iX10 hown hE hP 0 rfl rfl 12 (by decide) q1 rfl dX10_takes_44 ?_
    obtain ⟨o11, hc12, h⟩ := bnd_some h
    refine cV_i (rest := []) (w2 := (wd_X10_takes cy a_v a_v_tape a_v_st a_v_now a_v_isKept a_v_draft a_v_placedRow a_v_by a_v_told a_v_bestRow a_v_ways a_v_lanes a_v_sizes a_v_cells a_v_before v_hasOrder v_hasStart v_placed v_placedMany v_highest v_taped o9 o9 v_sort v_value v_fault v_wrongAt v_rightSum v_wrongSum v_allWays v_torn v_tape)) ⟨hx, hb, hml, hown, hts⟩ (c_X10_byteAt l D cy sa a_v a_v_tape a_v_st a_v_now a_v_isKept a_v_draft a_v_placedRow a_v_by a_v_told a_v_bestRow a_v_ways a_v_lanes a_v_sizes a_v_cells a_v_before v_hasOrder v_hasStart v_placed v_placedMany v_highest v_taped o9 o9 v_sort v_value v_fault v_wrongAt v_rightSum v_wrongSum v_allWays v_torn v_tape o9 o11 hc12) (cwV 1 hts gX10_takes_X10_byteAt rfl rfl rfl (by decide +kernel) ⟨Nat.le_of_ble_eq_true rfl, Nat.le_of_ble_eq_true rfl⟩) rfl rfl rfl hE hP hDD rfl hS [0, 1] rfl rfl rfl rfl hl.1 (Nat.le_of_ble_eq_true rfl) ⟨Nat.zero_le _, Nat.zero_le _⟩ rfl dX10_takes_47 rfl (fun H locs hP hS => ?_)
    refine lv_istore_n (lv' := [(1, .int (zI o11)), (0, .ref a_v)]) hx hb dX10_takes_50 rfl hl (by decide) rfl (fun ls hl => ?_)
    refine lv_iload_n hx hb dX10_takes_51 rfl (lv_at hl 0 rfl) ?_
    obtain ⟨hr13, h⟩ := chk_some h
    refine wi_if_ge (tgt := 63) hx hb dX10_takes_52 (by decide) hr13 (fun c15 => ?_) (fun c15 => ?_)
    · have h := ite_t c15 h
      refine lv_iload_n hx hb dX10_takes_63 rfl (lv_at hl 0 rfl) ?_
      refine wi_i2l hx hb dX10_takes_64 hr13 ?_
      refine wi_ldc2 (n := 97) hx hb hown q3 dX10_takes_65 rfl ?_
      refine wi_ldc2 (n := 122) hx hb hown q4 dX10_takes_68 rfl ?_
      obtain ⟨o16, hc17, h⟩ := bnd_some h
      refine cS_i (rest := []) (w2 := (wd_X10_takes cy a_v a_v_tape a_v_st a_v_now a_v_isKept a_v_draft a_v_placedRow a_v_by a_v_told a_v_bestRow a_v_ways a_v_lanes a_v_sizes a_v_cells a_v_before v_hasOrder v_hasStart v_placed v_placedMany v_highest v_taped o9 o9 v_sort v_value v_fault v_wrongAt v_rightSum v_wrongSum v_allWays v_torn v_tape)) ⟨hx, hb, hml, hown, hts⟩ (c_X10_in l D cy sa o11 97 122 o16 hc17) (va_cwS 3 hts gX10_takes_X10_in rfl rfl rfl (by decide +kernel) ⟨Nat.le_of_ble_eq_true rfl, Nat.le_of_ble_eq_true rfl⟩) hE hP hDD rfl hS [] rfl rfl rfl rfl hl.1 (Nat.le_of_ble_eq_true rfl) ⟨Nat.zero_le _, Nat.zero_le _⟩ rfl dX10_takes_71 rfl (fun H locs hP hS => ?_)
      obtain ⟨hr18, h⟩ := chk_some h
      refine wi_if_eq (tgt := 116) hx hb dX10_takes_74 (by decide) hr18 (fun c20 => ?_) (fun c20 => ?_)
      · have h := ite_t c20 h
        refine lv_iload_n hx hb dX10_takes_116 rfl (lv_at hl 0 rfl) ?_
        refine wi_i2l hx hb dX10_takes_117 hr13 ?_
        refine wi_ldc2 (n := 48) hx hb hown q5 dX10_takes_118 rfl ?_
        refine wi_ldc2 (n := 57) hx hb hown q6 dX10_takes_121 rfl ?_
        obtain ⟨o21, hc22, h⟩ := bnd_some h
        refine cS_i (rest := []) (w2 := (wd_X10_takes cy a_v a_v_tape a_v_st a_v_now a_v_isKept a_v_draft a_v_placedRow a_v_by a_v_told a_v_bestRow a_v_ways a_v_lanes a_v_sizes a_v_cells a_v_before v_hasOrder v_hasStart v_placed v_placedMany v_highest v_taped o9 o9 v_sort v_value v_fault v_wrongAt v_rightSum v_wrongSum v_allWays v_torn v_tape)) ⟨hx, hb, hml, hown, hts⟩ (c_X10_in l D cy sa o11 48 57 o21 hc22) (va_cwS 3 hts gX10_takes_X10_in rfl rfl rfl (by decide +kernel) ⟨Nat.le_of_ble_eq_true rfl, Nat.le_of_ble_eq_true rfl⟩) hE hP hDD rfl hS [] rfl rfl rfl rfl hl.1 (Nat.le_of_ble_eq_true rfl) ⟨Nat.zero_le _, Nat.zero_le _⟩ rfl dX10_takes_124 rfl (fun H locs hP hS => ?_)
        obtain ⟨hr23, h⟩ := chk_some h
        refine wi_if_eq (tgt := 243) hx hb dX10_takes_127 (by decide) hr23 (fun c25 => ?_) (fun c25 => ?_)
        · have h := ite_t c25 h
          refine lv_aload_n hx hb dX10_takes_243 rfl (lv_at hl 1 rfl) ?_
          refine wi_ic hx hb dX10_takes_244 ?_
          refine wi_put (ty := .int) (v := .int (zI 3)) (w2 := (wd_X10_takes cy a_v a_v_tape a_v_st a_v_now a_v_isKept a_v_draft a_v_placedRow a_v_by a_v_told a_v_bestRow a_v_ways a_v_lanes a_v_sizes a_v_cells a_v_before v_hasOrder v_hasStart v_placed v_placedMany v_highest v_taped o9 o9 3 v_value v_fault v_wrongAt v_rightSum v_wrongSum v_allWays v_torn v_tape)) hx hb hts iX10 tyX10 tyX10_ok nmX10 hown hE hP hDD rfl hS 0 rfl rfl 14 (by decide) q7 rfl (by decide +kernel) rfl rfl (Nat.le_of_ble_eq_true rfl) dX10_takes_245 rfl (fun H locs hP hS => ?_)
          refine lv_aload_n hx hb dX10_takes_248 rfl (lv_at hl 1 rfl) ?_
          refine lv_iload_n hx hb dX10_takes_249 rfl (lv_at hl 0 rfl) ?_
          refine wi_bi hx hb dX10_takes_250 (by decide) ?_
          obtain ⟨o26, hx27, h⟩ := bnd_some h
          have J28 : ∀ (H : Heap) (locs : List Loc) (ls : Array Slot), va_P D vwCl (wd_X10_takes cy a_v a_v_tape a_v_st a_v_now a_v_isKept a_v_draft a_v_placedRow a_v_by a_v_told a_v_bestRow a_v_ways a_v_lanes a_v_sizes a_v_cells a_v_before v_hasOrder v_hasStart v_placed v_placedMany v_highest v_taped o9 o9 3 v_value v_fault v_wrongAt v_rightSum v_wrongSum v_allWays v_torn v_tape) H → va_S A s.heap H locs → lv_has ls 2 [(0, .ref a_v)] → W p l e { frames := 1, cells := 0, slots := 0, locals := 25 } s m args below meth c H locs 0 0 QQ (F0 m 260 ls [.int (zI o26), .ref a_v]) := by
            intro H locs ls hP hS hl
            refine wi_ic hx hb dX10_takes_260 ?_
            obtain ⟨o29, hc30, h⟩ := bnd_some h
            refine cV_v (rest := []) (w2 := (wd_X10_takes cy a_v a_v_tape a_v_st a_v_now a_v_isKept a_v_draft a_v_placedRow a_v_by a_v_told a_v_bestRow a_v_ways a_v_lanes a_v_sizes a_v_cells a_v_before v_hasOrder v_hasStart v_placed v_placedMany v_highest v_taped o9 o9 3 v_value o29.1 o29.2 v_rightSum v_wrongSum v_allWays v_torn v_tape)) ⟨hx, hb, hml, hown, hts⟩ (c_X10_needs l D cy sa a_v a_v_st a_v_now a_v_isKept a_v_draft a_v_placedRow a_v_tape a_v_by a_v_told a_v_bestRow a_v_ways a_v_lanes a_v_sizes a_v_cells a_v_before v_hasOrder v_hasStart v_placed v_placedMany v_highest v_taped o9 o9 3 v_value v_fault v_wrongAt v_rightSum v_wrongSum v_allWays v_torn o26 1 o29 hc30) (cwV 2 hts gX10_takes_X10_needs rfl rfl rfl (by decide +kernel) ⟨Nat.le_of_ble_eq_true rfl, Nat.le_of_ble_eq_true rfl⟩) rfl rfl rfl hE hP hDD rfl hS [0] rfl rfl rfl rfl hl.1 (Nat.le_of_ble_eq_true rfl) ⟨Nat.zero_le _, Nat.zero_le _⟩ rfl dX10_takes_261 rfl (fun H locs hP hS => ?_)
            refine lv_aload_n hx hb dX10_takes_264 rfl (lv_at hl 0 rfl) ?_
            refine lv_dup hx hb dX10_takes_265 rfl ?_
            refine wi_get (v := .int (zI o9)) hx hb hts iX10 hown hE hP 0 rfl rfl 12 (by decide) q1 rfl dX10_takes_266 ?_
            refine wi_ic hx hb dX10_takes_269 ?_
            refine wi_iadd hx hb dX10_takes_270 ?_
            refine wi_put (ty := .int) (v := .int (zI (o9 + 1))) (w2 := (wd_X10_takes cy a_v a_v_tape a_v_st a_v_now a_v_isKept a_v_draft a_v_placedRow a_v_by a_v_told a_v_bestRow a_v_ways a_v_lanes a_v_sizes a_v_cells a_v_before v_hasOrder v_hasStart v_placed v_placedMany v_highest v_taped (o9 + 1) o9 3 v_value o29.1 o29.2 v_rightSum v_wrongSum v_allWays v_torn v_tape)) hx hb hts iX10 tyX10 tyX10_ok nmX10 hown hE hP hDD rfl hS 0 rfl rfl 12 (by decide) q1 rfl (by decide +kernel) rfl rfl (Nat.le_of_ble_eq_true rfl) dX10_takes_271 rfl (fun H locs hP hS => ?_)
            obtain rfl := Option.some.inj h
            exact KR _ _ _ _ hP hS dX10_takes_274
          clear h
          have h := hx27
          clear hx27
          refine wi_ic_ne (tgt := 259) hx hb dX10_takes_252 (by decide) hr13 (by decide) (fun c31 => ?_) (fun c31 => ?_)
          · have h := ite_f c31 h
            refine wi_ic hx hb dX10_takes_259 ?_
            obtain rfl := Option.some.inj h
            exact J28 _ _ _ hP hS (lv_sub hl [1] rfl)
          · have h := ite_t c31 h
            refine wi_ic hx hb dX10_takes_255 ?_
            refine lv_goto (tgt := 260) hx hb dX10_takes_256 (by decide) ?_
            obtain rfl := Option.some.inj h
            exact J28 _ _ _ hP hS (lv_sub hl [1] rfl)
        · have h := ite_f c25 h
          refine lv_aload_n hx hb dX10_takes_130 rfl (lv_at hl 1 rfl) ?_
          refine wi_ic hx hb dX10_takes_131 ?_
          refine wi_put (ty := .int) (v := .int (zI 2)) (w2 := (wd_X10_takes cy a_v a_v_tape a_v_st a_v_now a_v_isKept a_v_draft a_v_placedRow a_v_by a_v_told a_v_bestRow a_v_ways a_v_lanes a_v_sizes a_v_cells a_v_before v_hasOrder v_hasStart v_placed v_placedMany v_highest v_taped o9 o9 2 v_value v_fault v_wrongAt v_rightSum v_wrongSum v_allWays v_torn v_tape)) hx hb hts iX10 tyX10 tyX10_ok nmX10 hown hE hP hDD rfl hS 0 rfl rfl 14 (by decide) q7 rfl (by decide +kernel) rfl rfl (Nat.le_of_ble_eq_true rfl) dX10_takes_132 rfl (fun H locs hP hS => ?_)
          refine lv_aload_n hx hb dX10_takes_135 rfl (lv_at hl 1 rfl) ?_
          refine wi_ic hx hb dX10_takes_136 ?_
          refine wi_put (ty := .int) (v := .int (zI 0)) (w2 := (wd_X10_takes cy a_v a_v_tape a_v_st a_v_now a_v_isKept a_v_draft a_v_placedRow a_v_by a_v_told a_v_bestRow a_v_ways a_v_lanes a_v_sizes a_v_cells a_v_before v_hasOrder v_hasStart v_placed v_placedMany v_highest v_taped o9 o9 2 0 v_fault v_wrongAt v_rightSum v_wrongSum v_allWays v_torn v_tape)) hx hb hts iX10 tyX10 tyX10_ok nmX10 hown hE hP hDD rfl hS 0 rfl rfl 15 (by decide) q8 rfl (by decide +kernel) rfl rfl (Nat.le_of_ble_eq_true rfl) dX10_takes_137 rfl (fun H locs hP hS => ?_)
          obtain ⟨o47, hx48, h⟩ := bnd_some h
          refine L140 5000 o9 o9 2 0 v_fault v_wrongAt _ _ _ _ hP hS (lv_sub hl [1] rfl) hx48 ?_
          clear hx48
          intro H locs ls hP hS hl
          refine lv_aload_n hx hb dX10_takes_217 rfl (lv_at hl 0 rfl) ?_
          refine lv_aload_n hx hb dX10_takes_218 rfl (lv_at hl 0 rfl) ?_
          refine wi_get (v := .int (zI o47.1)) hx hb hts iX10 hown hE hP 0 rfl rfl 12 (by decide) q1 rfl dX10_takes_219 ?_
          refine lv_aload_n hx hb dX10_takes_222 rfl (lv_at hl 0 rfl) ?_
          refine wi_get (v := .int (zI o9)) hx hb hts iX10 hown hE hP 0 rfl rfl 13 (by decide) q2 rfl dX10_takes_223 ?_
          refine wi_isub hx hb dX10_takes_226 ?_
          refine wi_ic hx hb dX10_takes_227 ?_
          obtain ⟨hr49, h⟩ := chk_some h
          obtain ⟨o50, hx51, h⟩ := bnd_some h
          have J52 : ∀ (H : Heap) (locs : List Loc) (ls : Array Slot), va_P D vwCl (wd_X10_takes cy a_v a_v_tape a_v_st a_v_now a_v_isKept a_v_draft a_v_placedRow a_v_by a_v_told a_v_bestRow a_v_ways a_v_lanes a_v_sizes a_v_cells a_v_before v_hasOrder v_hasStart v_placed v_placedMany v_highest v_taped o47.1 o9 2 o47.2 v_fault v_wrongAt v_rightSum v_wrongSum v_allWays v_torn v_tape) H → va_S A s.heap H locs → lv_has ls 2 [] → W p l e { frames := 1, cells := 0, slots := 0, locals := 25 } s m args below meth c H locs 0 0 QQ (F0 m 236 ls [.int (zI o50), .ref a_v]) := by
            intro H locs ls hP hS hl
            refine wi_ic hx hb dX10_takes_236 ?_
            obtain ⟨o53, hc54, h⟩ := bnd_some h
            refine cV_v (rest := []) (w2 := (wd_X10_takes cy a_v a_v_tape a_v_st a_v_now a_v_isKept a_v_draft a_v_placedRow a_v_by a_v_told a_v_bestRow a_v_ways a_v_lanes a_v_sizes a_v_cells a_v_before v_hasOrder v_hasStart v_placed v_placedMany v_highest v_taped o47.1 o9 2 o47.2 o53.1 o53.2 v_rightSum v_wrongSum v_allWays v_torn v_tape)) ⟨hx, hb, hml, hown, hts⟩ (c_X10_needs l D cy sa a_v a_v_st a_v_now a_v_isKept a_v_draft a_v_placedRow a_v_tape a_v_by a_v_told a_v_bestRow a_v_ways a_v_lanes a_v_sizes a_v_cells a_v_before v_hasOrder v_hasStart v_placed v_placedMany v_highest v_taped o47.1 o9 2 o47.2 v_fault v_wrongAt v_rightSum v_wrongSum v_allWays v_torn o50 1 o53 hc54) (cwV 2 hts gX10_takes_X10_needs rfl rfl rfl (by decide +kernel) ⟨Nat.le_of_ble_eq_true rfl, Nat.le_of_ble_eq_true rfl⟩) rfl rfl rfl hE hP hDD rfl hS [0] rfl rfl rfl rfl hl.1 (Nat.le_of_ble_eq_true rfl) ⟨Nat.zero_le _, Nat.zero_le _⟩ rfl dX10_takes_237 rfl (fun H locs hP hS => ?_)
            refine lv_goto (tgt := 274) hx hb dX10_takes_240 (by decide) ?_
            obtain rfl := Option.some.inj h
            exact KR _ _ _ _ hP hS dX10_takes_274
          clear h
          have h := hx51
          clear hx51
          refine wi_ic_gt (tgt := 235) hx hb dX10_takes_228 (by decide) hr49 (by decide) (fun c55 => ?_) (fun c55 => ?_)
          · have h := ite_t c55 h
            refine wi_ic hx hb dX10_takes_235 ?_
            obtain rfl := Option.some.inj h
            exact J52 _ _ _ hP hS (lv_sub hl [] rfl)
          · have h := ite_f c55 h
            refine wi_ic hx hb dX10_takes_231 ?_
            refine lv_goto (tgt := 236) hx hb dX10_takes_232 (by decide) ?_
            obtain rfl := Option.some.inj h
            exact J52 _ _ _ hP hS (lv_sub hl [] rfl)
      · have h := ite_f c20 h
        refine lv_aload_n hx hb dX10_takes_77 rfl (lv_at hl 1 rfl) ?_
        refine wi_ic hx hb dX10_takes_78 ?_
        refine wi_put (ty := .int) (v := .int (zI 1)) (w2 := (wd_X10_takes cy a_v a_v_tape a_v_st a_v_now a_v_isKept a_v_draft a_v_placedRow a_v_by a_v_told a_v_bestRow a_v_ways a_v_lanes a_v_sizes a_v_cells a_v_before v_hasOrder v_hasStart v_placed v_placedMany v_highest v_taped o9 o9 1 v_value v_fault v_wrongAt v_rightSum v_wrongSum v_allWays v_torn v_tape)) hx hb hts iX10 tyX10 tyX10_ok nmX10 hown hE hP hDD rfl hS 0 rfl rfl 14 (by decide) q7 rfl (by decide +kernel) rfl rfl (Nat.le_of_ble_eq_true rfl) dX10_takes_79 rfl (fun H locs hP hS => ?_)
        obtain ⟨o64, hx65, h⟩ := bnd_some h
        refine L82 5000 o9 o9 1 v_value v_fault v_wrongAt _ _ _ _ hP hS (lv_sub hl [1] rfl) hx65 ?_
        clear hx65
        intro H locs ls hP hS hl
        obtain rfl := Option.some.inj h
        exact KR _ _ _ _ hP hS dX10_takes_274
    · have h := ite_f c15 h
      refine lv_aload_n hx hb dX10_takes_55 rfl (lv_at hl 1 rfl) ?_
      refine wi_ic hx hb dX10_takes_56 ?_
      refine wi_put (ty := .int) (v := .int (zI 0)) (w2 := (wd_X10_takes cy a_v a_v_tape a_v_st a_v_now a_v_isKept a_v_draft a_v_placedRow a_v_by a_v_told a_v_bestRow a_v_ways a_v_lanes a_v_sizes a_v_cells a_v_before v_hasOrder v_hasStart v_placed v_placedMany v_highest v_taped o9 o9 0 v_value v_fault v_wrongAt v_rightSum v_wrongSum v_allWays v_torn v_tape)) hx hb hts iX10 tyX10 tyX10_ok nmX10 hown hE hP hDD rfl hS 0 rfl rfl 14 (by decide) q7 rfl (by decide +kernel) rfl rfl (Nat.le_of_ble_eq_true rfl) dX10_takes_57 rfl (fun H locs hP hS => ?_)
      refine lv_goto (tgt := 274) hx hb dX10_takes_60 (by decide) ?_
      obtain rfl := Option.some.inj h
      exact KR _ _ _ _ hP hS dX10_takes_274
  · have h := ite_f c3 h
    obtain rfl := Option.some.inj h
    exact KR _ _ _ _ hP hS dX10_takes_7
abbrev wd_X10_looked (cy : Nat → ClassId) (a_v : Nat) (a_v_st : Nat) (a_v_now : Nat) (a_v_isKept : Nat) (a_v_draft : Nat) (a_v_placedRow : Nat) (a_v_tape : Nat) (a_v_by : Nat) (a_v_told : Nat) (a_v_bestRow : Nat) (a_v_ways : Nat) (a_v_lanes : Nat) (a_v_sizes : Nat) (a_v_cells : Nat) (a_v_before : Nat) (v_hasOrder : Int) (v_hasStart : Int) (v_placed : Int) (v_placedMany : Int) (v_highest : Int) (v_taped : Int) (v_pos : Int) (v_begun : Int) (v_sort : Int) (v_value : Int) (v_fault : Int) (v_wrongAt : Int) (v_rightSum : Int) (v_wrongSum : Int) (v_allWays : Int) (v_torn : Int) : va_W := [(a_v, .inr (10, [.ref a_v_st, .ref a_v_now, .ref a_v_isKept, .ref a_v_draft, .int (zI v_hasOrder), .int (zI v_hasStart), .int (zI v_placed), .int (zI v_placedMany), .ref a_v_placedRow, .int (zI v_highest), .ref a_v_tape, .int (zI v_taped), .int (zI v_pos), .int (zI v_begun), .int (zI v_sort), .int (zI v_value), .int (zI v_fault), .int (zI v_wrongAt), .ref a_v_by, .ref a_v_told, .ref a_v_bestRow, .long (zL v_rightSum), .long (zL v_wrongSum), .long (zL v_allWays), .ref a_v_ways, .ref a_v_lanes, .ref a_v_sizes, .ref a_v_cells, .int (zI v_torn), .ref a_v_before]))]
set_option maxHeartbeats 4000000 in
set_option maxRecDepth 100000 in
theorem c_X10_looked (l : Launch) (D : va_G) (cy : Nat → ClassId) (sa : Nat → Nat) (a_v : Nat) (a_v_st : Nat) (a_v_now : Nat) (a_v_isKept : Nat) (a_v_draft : Nat) (a_v_placedRow : Nat) (a_v_tape : Nat) (a_v_by : Nat) (a_v_told : Nat) (a_v_bestRow : Nat) (a_v_ways : Nat) (a_v_lanes : Nat) (a_v_sizes : Nat) (a_v_cells : Nat) (a_v_before : Nat) (v_hasOrder : Int) (v_hasStart : Int) (v_placed : Int) (v_placedMany : Int) (v_highest : Int) (v_taped : Int) (v_pos : Int) (v_begun : Int) (v_sort : Int) (v_value : Int) (v_fault : Int) (v_wrongAt : Int) (v_rightSum : Int) (v_wrongSum : Int) (v_allWays : Int) (v_torn : Int) (x1 : Int) (x2 : Int) (o : Int × Int × Int) (h : f_M_looked v_begun v_sort v_value v_fault v_wrongAt x1 x2 = some o) : CtI l yX10_looked wsX10_looked ({ frames := 1, cells := 0, slots := 0, locals := 25 }) D cy sa [.ref a_v, .int (zI x1), .int (zI x2)] (wd_X10_looked cy a_v a_v_st a_v_now a_v_isKept a_v_draft a_v_placedRow a_v_tape a_v_by a_v_told a_v_bestRow a_v_ways a_v_lanes a_v_sizes a_v_cells a_v_before v_hasOrder v_hasStart v_placed v_placedMany v_highest v_taped v_pos v_begun v_sort v_value v_fault v_wrongAt v_rightSum v_wrongSum v_allWays v_torn) (wd_X10_looked cy a_v a_v_st a_v_now a_v_isKept a_v_draft a_v_placedRow a_v_tape a_v_by a_v_told a_v_bestRow a_v_ways a_v_lanes a_v_sizes a_v_cells a_v_before v_hasOrder v_hasStart v_placed v_placedMany v_highest v_taped v_pos v_begun v_sort v_value o.2.1 o.2.2 v_rightSum v_wrongSum v_allWays v_torn) o.1 := by
  refine ct_I (cc := cX10_looked) (maxL := 3) (plainFor_of_name (by decide)) rfl (Nat.le_of_ble_eq_true rfl) ?_
  intro p e s m below meth c A args QQ hx hb hml hown hts hE hDD hP KR ls hl
  have hl : lv_has ls 3 [(0, .ref a_v), (1, .int (zI x1)), (2, .int (zI x2))] := hl
  have hDD : DD A [a_v] := hDD
  have hS : va_S A s.heap s.heap [] := va_S.rf
  have q0 := hts (.fieldLink RX10 85 "HatHoursModel" "fault" "I") (List.mem_of_getElem? (i := 1) rfl)
  have q1 := hts (.fieldLink RX10 120 "HatHoursModel" "value" "I") (List.mem_of_getElem? (i := 3) rfl)
  have q2 := hts (.fieldLink RX10 109 "HatHoursModel" "sort" "I") (List.mem_of_getElem? (i := 2) rfl)
  have iX10 : ∀ w ∈ u_ws RX10 TX10 30, w ∈ wsX10_looked := in_slice 14 30 rfl
  refine lv_aload_n hx hb dX10_looked_0 rfl (lv_at hl 0 rfl) ?_
  refine wi_get (v := .int (zI v_fault)) hx hb hts iX10 hown hE hP 0 rfl rfl 16 (by decide) q0 rfl dX10_looked_1 ?_
  obtain ⟨hr1, h⟩ := chk_some h
  obtain ⟨o2, hx3, h⟩ := bnd_some h
  have J4 : ∀ (H : Heap) (locs : List Loc) (ls : Array Slot), va_P D vwCl (wd_X10_looked cy a_v a_v_st a_v_now a_v_isKept a_v_draft a_v_placedRow a_v_tape a_v_by a_v_told a_v_bestRow a_v_ways a_v_lanes a_v_sizes a_v_cells a_v_before v_hasOrder v_hasStart v_placed v_placedMany v_highest v_taped v_pos v_begun v_sort v_value o2.1 o2.2 v_rightSum v_wrongSum v_allWays v_torn) H → va_S A s.heap H locs → lv_has ls 3 [(0, .ref a_v), (1, .int (zI x1)), (2, .int (zI x2))] → W p l e { frames := 1, cells := 0, slots := 0, locals := 25 } s m args below meth c H locs 0 0 QQ (F0 m 25 ls []) := by
    intro H locs ls hP hS hl
    refine lv_aload_n hx hb dX10_looked_25 rfl (lv_at hl 0 rfl) ?_
    refine wi_get (v := .int (zI o2.1)) hx hb hts iX10 hown hE hP 0 rfl rfl 16 (by decide) q0 rfl dX10_looked_26 ?_
    obtain ⟨hr5, h⟩ := chk_some h
    obtain ⟨o6, hx7, h⟩ := bnd_some h
    have J8 : ∀ (H : Heap) (locs : List Loc) (ls : Array Slot), va_P D vwCl (wd_X10_looked cy a_v a_v_st a_v_now a_v_isKept a_v_draft a_v_placedRow a_v_tape a_v_by a_v_told a_v_bestRow a_v_ways a_v_lanes a_v_sizes a_v_cells a_v_before v_hasOrder v_hasStart v_placed v_placedMany v_highest v_taped v_pos v_begun v_sort v_value o6.1 o6.2 v_rightSum v_wrongSum v_allWays v_torn) H → va_S A s.heap H locs → lv_has ls 3 [(0, .ref a_v)] → W p l e { frames := 1, cells := 0, slots := 0, locals := 25 } s m args below meth c H locs 0 0 QQ (F0 m 49 ls []) := by
      intro H locs ls hP hS hl
      refine lv_aload_n hx hb dX10_looked_49 rfl (lv_at hl 0 rfl) ?_
      refine wi_get (v := .int (zI o6.1)) hx hb hts iX10 hown hE hP 0 rfl rfl 16 (by decide) q0 rfl dX10_looked_50 ?_
      obtain ⟨hr9, h⟩ := chk_some h
      refine wi_if_ne (tgt := 63) hx hb dX10_looked_53 (by decide) hr9 (fun c11 => ?_) (fun c11 => ?_)
      · have h := ite_f c11 h
        refine wi_ic hx hb dX10_looked_63 ?_
        obtain rfl := Option.some.inj h
        exact KR _ _ _ _ hP hS dX10_looked_64
      · have h := ite_t c11 h
        refine lv_aload_n hx hb dX10_looked_56 rfl (lv_at hl 0 rfl) ?_
        refine wi_get (v := .int (zI v_value)) hx hb hts iX10 hown hE hP 0 rfl rfl 15 (by decide) q1 rfl dX10_looked_57 ?_
        refine lv_goto (tgt := 64) hx hb dX10_looked_60 (by decide) ?_
        obtain rfl := Option.some.inj h
        exact KR _ _ _ _ hP hS dX10_looked_64
    clear h
    have h := hx7
    clear hx7
    refine wi_if_ne (tgt := 49) hx hb dX10_looked_29 (by decide) hr5 (fun c12 => ?_) (fun c12 => ?_)
    · have h := ite_f c12 h
      obtain rfl := Option.some.inj h
      exact J8 _ _ _ hP hS (lv_sub hl [0] rfl)
    · have h := ite_t c12 h
      refine lv_aload_n hx hb dX10_looked_32 rfl (lv_at hl 0 rfl) ?_
      refine lv_aload_n hx hb dX10_looked_33 rfl (lv_at hl 0 rfl) ?_
      refine wi_get (v := .int (zI v_value)) hx hb hts iX10 hown hE hP 0 rfl rfl 15 (by decide) q1 rfl dX10_looked_34 ?_
      obtain ⟨hr13, h⟩ := chk_some h
      refine wi_i2l hx hb dX10_looked_37 hr13 ?_
      refine lv_iload_n hx hb dX10_looked_38 rfl (lv_at hl 1 rfl) ?_
      obtain ⟨hr14, h⟩ := chk_some h
      refine wi_i2l hx hb dX10_looked_39 hr14 ?_
      refine lv_iload_n hx hb dX10_looked_40 rfl (lv_at hl 2 rfl) ?_
      obtain ⟨hr15, h⟩ := chk_some h
      refine wi_i2l hx hb dX10_looked_41 hr15 ?_
      obtain ⟨o16, hc17, h⟩ := bnd_some h
      refine cS_i (rest := [.ref a_v]) (w2 := (wd_X10_looked cy a_v a_v_st a_v_now a_v_isKept a_v_draft a_v_placedRow a_v_tape a_v_by a_v_told a_v_bestRow a_v_ways a_v_lanes a_v_sizes a_v_cells a_v_before v_hasOrder v_hasStart v_placed v_placedMany v_highest v_taped v_pos v_begun v_sort v_value o2.1 o2.2 v_rightSum v_wrongSum v_allWays v_torn)) ⟨hx, hb, hml, hown, hts⟩ (c_X10_in l D cy sa v_value x1 x2 o16 hc17) (va_cwS 3 hts gX10_looked_X10_in rfl rfl rfl (by decide +kernel) ⟨Nat.le_of_ble_eq_true rfl, Nat.le_of_ble_eq_true rfl⟩) hE hP hDD rfl hS [] rfl rfl rfl rfl hl.1 (Nat.le_of_ble_eq_true rfl) ⟨Nat.zero_le _, Nat.zero_le _⟩ rfl dX10_looked_42 rfl (fun H locs hP hS => ?_)
      refine wi_ic hx hb dX10_looked_45 ?_
      obtain ⟨o18, hc19, h⟩ := bnd_some h
      refine cV_v (rest := []) (w2 := (wd_X10_looked cy a_v a_v_st a_v_now a_v_isKept a_v_draft a_v_placedRow a_v_tape a_v_by a_v_told a_v_bestRow a_v_ways a_v_lanes a_v_sizes a_v_cells a_v_before v_hasOrder v_hasStart v_placed v_placedMany v_highest v_taped v_pos v_begun v_sort v_value o18.1 o18.2 v_rightSum v_wrongSum v_allWays v_torn)) ⟨hx, hb, hml, hown, hts⟩ (c_X10_needs l D cy sa a_v a_v_st a_v_now a_v_isKept a_v_draft a_v_placedRow a_v_tape a_v_by a_v_told a_v_bestRow a_v_ways a_v_lanes a_v_sizes a_v_cells a_v_before v_hasOrder v_hasStart v_placed v_placedMany v_highest v_taped v_pos v_begun v_sort v_value o2.1 o2.2 v_rightSum v_wrongSum v_allWays v_torn o16 3 o18 hc19) (cwV 2 hts gX10_looked_X10_needs rfl rfl rfl (by decide +kernel) ⟨Nat.le_of_ble_eq_true rfl, Nat.le_of_ble_eq_true rfl⟩) rfl rfl rfl hE hP hDD rfl hS [0] rfl rfl rfl rfl hl.1 (Nat.le_of_ble_eq_true rfl) ⟨Nat.zero_le _, Nat.zero_le _⟩ rfl dX10_looked_46 rfl (fun H locs hP hS => ?_)
      obtain rfl := Option.some.inj h
      exact J8 _ _ _ hP hS (lv_sub hl [0] rfl)
  clear h
  have h := hx3
  clear hx3
  refine wi_if_ne (tgt := 25) hx hb dX10_looked_4 (by decide) hr1 (fun c20 => ?_) (fun c20 => ?_)
  · have h := ite_f c20 h
    obtain rfl := Option.some.inj h
    exact J4 _ _ _ hP hS (lv_sub hl [0, 1, 2] rfl)
  · have h := ite_t c20 h
    refine lv_aload_n hx hb dX10_looked_7 rfl (lv_at hl 0 rfl) ?_
    refine lv_aload_n hx hb dX10_looked_8 rfl (lv_at hl 0 rfl) ?_
    refine wi_get (v := .int (zI v_sort)) hx hb hts iX10 hown hE hP 0 rfl rfl 14 (by decide) q2 rfl dX10_looked_9 ?_
    refine wi_ic hx hb dX10_looked_12 ?_
    obtain ⟨hr21, h⟩ := chk_some h
    obtain ⟨o22, hx23, h⟩ := bnd_some h
    have J24 : ∀ (H : Heap) (locs : List Loc) (ls : Array Slot), va_P D vwCl (wd_X10_looked cy a_v a_v_st a_v_now a_v_isKept a_v_draft a_v_placedRow a_v_tape a_v_by a_v_told a_v_bestRow a_v_ways a_v_lanes a_v_sizes a_v_cells a_v_before v_hasOrder v_hasStart v_placed v_placedMany v_highest v_taped v_pos v_begun v_sort v_value v_fault v_wrongAt v_rightSum v_wrongSum v_allWays v_torn) H → va_S A s.heap H locs → lv_has ls 3 [(0, .ref a_v), (1, .int (zI x1)), (2, .int (zI x2))] → W p l e { frames := 1, cells := 0, slots := 0, locals := 25 } s m args below meth c H locs 0 0 QQ (F0 m 21 ls [.int (zI o22), .ref a_v]) := by
      intro H locs ls hP hS hl
      refine wi_ic hx hb dX10_looked_21 ?_
      obtain ⟨o25, hc26, h⟩ := bnd_some h
      refine cV_v (rest := []) (w2 := (wd_X10_looked cy a_v a_v_st a_v_now a_v_isKept a_v_draft a_v_placedRow a_v_tape a_v_by a_v_told a_v_bestRow a_v_ways a_v_lanes a_v_sizes a_v_cells a_v_before v_hasOrder v_hasStart v_placed v_placedMany v_highest v_taped v_pos v_begun v_sort v_value o25.1 o25.2 v_rightSum v_wrongSum v_allWays v_torn)) ⟨hx, hb, hml, hown, hts⟩ (c_X10_needs l D cy sa a_v a_v_st a_v_now a_v_isKept a_v_draft a_v_placedRow a_v_tape a_v_by a_v_told a_v_bestRow a_v_ways a_v_lanes a_v_sizes a_v_cells a_v_before v_hasOrder v_hasStart v_placed v_placedMany v_highest v_taped v_pos v_begun v_sort v_value v_fault v_wrongAt v_rightSum v_wrongSum v_allWays v_torn o22 2 o25 hc26) (cwV 2 hts gX10_looked_X10_needs rfl rfl rfl (by decide +kernel) ⟨Nat.le_of_ble_eq_true rfl, Nat.le_of_ble_eq_true rfl⟩) rfl rfl rfl hE hP hDD rfl hS [0] rfl rfl rfl rfl hl.1 (Nat.le_of_ble_eq_true rfl) ⟨Nat.zero_le _, Nat.zero_le _⟩ rfl dX10_looked_22 rfl (fun H locs hP hS => ?_)
      obtain rfl := Option.some.inj h
      exact J4 _ _ _ hP hS (lv_sub hl [0, 1, 2] rfl)
    clear h
    have h := hx23
    clear hx23
    refine wi_ic_ne (tgt := 20) hx hb dX10_looked_13 (by decide) hr21 (by decide) (fun c27 => ?_) (fun c27 => ?_)
    · have h := ite_f c27 h
      refine wi_ic hx hb dX10_looked_20 ?_
      obtain rfl := Option.some.inj h
      exact J24 _ _ _ hP hS (lv_sub hl [0, 1, 2] rfl)
    · have h := ite_t c27 h
      refine wi_ic hx hb dX10_looked_16 ?_
      refine lv_goto (tgt := 21) hx hb dX10_looked_17 (by decide) ?_
      obtain rfl := Option.some.inj h
      exact J24 _ _ _ hP hS (lv_sub hl [0, 1, 2] rfl)
abbrev wd_X10_readNumber (cy : Nat → ClassId) (a_v : Nat) (a_v_tape : Nat) (a_v_st : Nat) (a_v_now : Nat) (a_v_isKept : Nat) (a_v_draft : Nat) (a_v_placedRow : Nat) (a_v_by : Nat) (a_v_told : Nat) (a_v_bestRow : Nat) (a_v_ways : Nat) (a_v_lanes : Nat) (a_v_sizes : Nat) (a_v_cells : Nat) (a_v_before : Nat) (v_hasOrder : Int) (v_hasStart : Int) (v_placed : Int) (v_placedMany : Int) (v_highest : Int) (v_taped : Int) (v_pos : Int) (v_begun : Int) (v_sort : Int) (v_value : Int) (v_fault : Int) (v_wrongAt : Int) (v_rightSum : Int) (v_wrongSum : Int) (v_allWays : Int) (v_torn : Int) (v_tape : Nat → Int) : va_W := [(a_v, .inr (10, [.ref a_v_st, .ref a_v_now, .ref a_v_isKept, .ref a_v_draft, .int (zI v_hasOrder), .int (zI v_hasStart), .int (zI v_placed), .int (zI v_placedMany), .ref a_v_placedRow, .int (zI v_highest), .ref a_v_tape, .int (zI v_taped), .int (zI v_pos), .int (zI v_begun), .int (zI v_sort), .int (zI v_value), .int (zI v_fault), .int (zI v_wrongAt), .ref a_v_by, .ref a_v_told, .ref a_v_bestRow, .long (zL v_rightSum), .long (zL v_wrongSum), .long (zL v_allWays), .ref a_v_ways, .ref a_v_lanes, .ref a_v_sizes, .ref a_v_cells, .int (zI v_torn), .ref a_v_before])), (a_v_tape, .inl (cy 0, 160, .inl (fun j => zI (v_tape j))))]
set_option maxHeartbeats 4000000 in
set_option maxRecDepth 100000 in
theorem c_X10_readNumber (l : Launch) (D : va_G) (cy : Nat → ClassId) (sa : Nat → Nat) (a_v : Nat) (a_v_tape : Nat) (a_v_st : Nat) (a_v_now : Nat) (a_v_isKept : Nat) (a_v_draft : Nat) (a_v_placedRow : Nat) (a_v_by : Nat) (a_v_told : Nat) (a_v_bestRow : Nat) (a_v_ways : Nat) (a_v_lanes : Nat) (a_v_sizes : Nat) (a_v_cells : Nat) (a_v_before : Nat) (v_hasOrder : Int) (v_hasStart : Int) (v_placed : Int) (v_placedMany : Int) (v_highest : Int) (v_taped : Int) (v_pos : Int) (v_begun : Int) (v_sort : Int) (v_value : Int) (v_fault : Int) (v_wrongAt : Int) (v_rightSum : Int) (v_wrongSum : Int) (v_allWays : Int) (v_torn : Int) (v_tape : Nat → Int) (x1 : Int) (x2 : Int) (o : Int × Int × Int × Int × Int × Int × Int) (h : f_M_readNumber v_taped v_pos v_begun v_sort v_value v_fault v_wrongAt v_tape x1 x2 = some o) : CtI l yX10_readNumber wsX10_readNumber ({ frames := 2, cells := 0, slots := 0, locals := 47 }) D cy sa [.ref a_v, .int (zI x1), .int (zI x2)] (wd_X10_readNumber cy a_v a_v_tape a_v_st a_v_now a_v_isKept a_v_draft a_v_placedRow a_v_by a_v_told a_v_bestRow a_v_ways a_v_lanes a_v_sizes a_v_cells a_v_before v_hasOrder v_hasStart v_placed v_placedMany v_highest v_taped v_pos v_begun v_sort v_value v_fault v_wrongAt v_rightSum v_wrongSum v_allWays v_torn v_tape) (wd_X10_readNumber cy a_v a_v_tape a_v_st a_v_now a_v_isKept a_v_draft a_v_placedRow a_v_by a_v_told a_v_bestRow a_v_ways a_v_lanes a_v_sizes a_v_cells a_v_before v_hasOrder v_hasStart v_placed v_placedMany v_highest v_taped o.2.1 o.2.2.1 o.2.2.2.1 o.2.2.2.2.1 o.2.2.2.2.2.1 o.2.2.2.2.2.2 v_rightSum v_wrongSum v_allWays v_torn v_tape) o.1 := by
  refine ct_I (cc := cX10_readNumber) (maxL := 4) (plainFor_of_name (by decide)) rfl (Nat.le_of_ble_eq_true rfl) ?_
  intro p e s m below meth c A args QQ hx hb hml hown hts hE hDD hP KR ls hl
  have hl : lv_has ls 4 [(0, .ref a_v), (1, .int (zI x1)), (2, .int (zI x2))] := hl
  have hDD : DD A [a_v, a_v_tape] := hDD
  have hS : va_S A s.heap s.heap [] := va_S.rf
  refine lv_aload_n hx hb dX10_readNumber_0 rfl (lv_at hl 0 rfl) ?_
  refine lv_iload_n hx hb dX10_readNumber_1 rfl (lv_at hl 1 rfl) ?_
  refine lv_iload_n hx hb dX10_readNumber_2 rfl (lv_at hl 2 rfl) ?_
  obtain ⟨o1, hc2, h⟩ := bnd_some h
  refine cV_i (rest := []) (w2 := (wd_X10_readNumber cy a_v a_v_tape a_v_st a_v_now a_v_isKept a_v_draft a_v_placedRow a_v_by a_v_told a_v_bestRow a_v_ways a_v_lanes a_v_sizes a_v_cells a_v_before v_hasOrder v_hasStart v_placed v_placedMany v_highest v_taped v_pos v_begun v_sort v_value o1.2.1 o1.2.2 v_rightSum v_wrongSum v_allWays v_torn v_tape)) ⟨hx, hb, hml, hown, hts⟩ (c_X10_looked l D cy sa a_v a_v_st a_v_now a_v_isKept a_v_draft a_v_placedRow a_v_tape a_v_by a_v_told a_v_bestRow a_v_ways a_v_lanes a_v_sizes a_v_cells a_v_before v_hasOrder v_hasStart v_placed v_placedMany v_highest v_taped v_pos v_begun v_sort v_value v_fault v_wrongAt v_rightSum v_wrongSum v_allWays v_torn x1 x2 o1 hc2) (cwV 2 hts gX10_readNumber_X10_looked rfl rfl rfl (by decide +kernel) ⟨Nat.le_of_ble_eq_true rfl, Nat.le_of_ble_eq_true rfl⟩) rfl rfl rfl hE hP hDD rfl hS [0] rfl rfl rfl rfl hl.1 (Nat.le_of_ble_eq_true rfl) ⟨Nat.zero_le _, Nat.zero_le _⟩ rfl dX10_readNumber_3 rfl (fun H locs hP hS => ?_)
  refine lv_istore_n (lv' := [(3, .int (zI o1.1)), (0, .ref a_v), (1, .int (zI x1)), (2, .int (zI x2))]) hx hb dX10_readNumber_6 rfl hl (by decide) rfl (fun ls hl => ?_)
  refine lv_aload_n hx hb dX10_readNumber_7 rfl (lv_at hl 1 rfl) ?_
  obtain ⟨o3, hc4, h⟩ := bnd_some h
  refine cV_v (rest := []) (w2 := (wd_X10_readNumber cy a_v a_v_tape a_v_st a_v_now a_v_isKept a_v_draft a_v_placedRow a_v_by a_v_told a_v_bestRow a_v_ways a_v_lanes a_v_sizes a_v_cells a_v_before v_hasOrder v_hasStart v_placed v_placedMany v_highest v_taped o3.1 o3.2.1 o3.2.2.1 o3.2.2.2.1 o3.2.2.2.2.1 o3.2.2.2.2.2 v_rightSum v_wrongSum v_allWays v_torn v_tape)) ⟨hx, hb, hml, hown, hts⟩ (c_X10_takes l D cy sa a_v a_v_tape a_v_st a_v_now a_v_isKept a_v_draft a_v_placedRow a_v_by a_v_told a_v_bestRow a_v_ways a_v_lanes a_v_sizes a_v_cells a_v_before v_hasOrder v_hasStart v_placed v_placedMany v_highest v_taped v_pos v_begun v_sort v_value o1.2.1 o1.2.2 v_rightSum v_wrongSum v_allWays v_torn v_tape o3 hc4) (cwV 0 hts gX10_readNumber_X10_takes rfl rfl rfl (by decide +kernel) ⟨Nat.le_of_ble_eq_true rfl, Nat.le_of_ble_eq_true rfl⟩) rfl rfl rfl hE hP hDD rfl hS [0, 1] rfl rfl rfl rfl hl.1 (Nat.le_of_ble_eq_true rfl) ⟨Nat.zero_le _, Nat.zero_le _⟩ rfl dX10_readNumber_8 rfl (fun H locs hP hS => ?_)
  refine lv_iload_n hx hb dX10_readNumber_11 rfl (lv_at hl 0 rfl) ?_
  obtain rfl := Option.some.inj h
  exact KR _ _ _ _ hP hS dX10_readNumber_12
