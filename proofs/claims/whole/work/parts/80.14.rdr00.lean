abbrev wd_X8_nameIs (cy : Nat → ClassId) (a_v : Nat) (a_v_tape : Nat) (a_v_tape_bytes : Nat) (a_v_draft : Nat) (a_v_ahead : Nat) (v_aheadUsed : Int) (v_orderTold : Int) (v_startTold : Int) (v_lines : Int) (v_foundFault : Int) (v_foundPlace : Int) (v_next : Int) (v_token : Int) (v_tokenPlace : Int) (v_number : Int) (v_tape_used : Int) (v_tape_bytes : Nat → Int) : va_W := [(a_v, .inr (8, [.ref a_v_tape, .ref a_v_draft, .ref a_v_ahead, .int (zI v_aheadUsed), .int (zI v_orderTold), .int (zI v_startTold), .int (zI v_lines), .int (zI v_foundFault), .int (zI v_foundPlace), .int (zI v_next), .int (zI v_token), .int (zI v_tokenPlace), .int (zI v_number)])), (a_v_tape, .inr (7, [.ref a_v_tape_bytes, .int (zI v_tape_used)])), (a_v_tape_bytes, .inl (cy 1, 160, .inl (fun j => zI (v_tape_bytes j))))]
set_option maxHeartbeats 4000000 in
set_option maxRecDepth 100000 in
theorem c_X8_nameIs (l : Launch) (D : va_G) (cy : Nat → ClassId) (sa : Nat → Nat) (a_v : Nat) (a_v_tape : Nat) (a_v_tape_bytes : Nat) (a_v_draft : Nat) (a_v_ahead : Nat) (v_aheadUsed : Int) (v_orderTold : Int) (v_startTold : Int) (v_lines : Int) (v_foundFault : Int) (v_foundPlace : Int) (v_next : Int) (v_token : Int) (v_tokenPlace : Int) (v_number : Int) (v_tape_used : Int) (v_tape_bytes : Nat → Int) (k1 : Nat) (o : Int) (h : f_TextReader_nameIs v_next v_tokenPlace v_tape_used v_tape_bytes k1 = some o) : CtI l yX8_nameIs wsX8_nameIs ({ frames := 5, cells := 0, slots := 0, locals := 110 }) D cy sa [.ref a_v, .ref (sa (10 + k1))] (wd_X8_nameIs cy a_v a_v_tape a_v_tape_bytes a_v_draft a_v_ahead v_aheadUsed v_orderTold v_startTold v_lines v_foundFault v_foundPlace v_next v_token v_tokenPlace v_number v_tape_used v_tape_bytes) (wd_X8_nameIs cy a_v a_v_tape a_v_tape_bytes a_v_draft a_v_ahead v_aheadUsed v_orderTold v_startTold v_lines v_foundFault v_foundPlace v_next v_token v_tokenPlace v_number v_tape_used v_tape_bytes) o := by
  refine ct_Z (cc := cX8_nameIs) (maxL := 3) (plainFor_of_name (by decide)) rfl (Nat.le_of_ble_eq_true rfl) ?_
  intro p e s m below meth c A args QQ hx hb hml hown hts hE hDD hP KR ls hl
  have hl : lv_has ls 3 [(0, .ref a_v), (1, .ref (sa (10 + k1)))] := hl
  have hDD : DD A [a_v, a_v_tape, a_v_tape_bytes] := hDD
  have hS : va_S A s.heap s.heap [] := va_S.rf
  have q0 := hts (.fieldLink RX8 42 "HatHours$TextReader" "next" "I") (List.mem_of_getElem? (i := 1) rfl)
  have q1 := hts (.fieldLink RX8 48 "HatHours$TextReader" "tokenPlace" "I") (List.mem_of_getElem? (i := 2) rfl)
  have q2 := hts (.fieldLink RX8 54 "HatHours$TextReader" "tape" "LHatHours$Tape;") (List.mem_of_getElem? (i := 3) rfl)
  have iX8 : ∀ w ∈ u_ws RX8 TX8 13, w ∈ wsX8_nameIs := in_slice 60 13 rfl
  have L20 : ∀ (fuel : Nat) (k1 : Nat) (x2 : Int) (H : Heap) (locs : List Loc) (ls : Array Slot), va_P D vwCl (wd_X8_nameIs cy a_v a_v_tape a_v_tape_bytes a_v_draft a_v_ahead v_aheadUsed v_orderTold v_startTold v_lines v_foundFault v_foundPlace v_next v_token v_tokenPlace v_number v_tape_used v_tape_bytes) H → va_S A s.heap H locs → lv_has ls 3 [(0, .ref a_v), (1, .ref (sa (10 + k1))), (2, .int (zI x2))] → f_TextReader_nameIs_L20 fuel v_next v_tokenPlace v_tape_used v_tape_bytes k1 x2 = some o → W p l e { frames := 5, cells := 0, slots := 0, locals := 110 } s m args below meth c H locs 0 0 QQ (F0 m 20 ls []) := by
    intro fuel
    induction fuel with
    | zero => intro _ _ H locs ls hP hS hl h; cases h
    | succ fuel ih =>
      intro k1 x2 H locs ls hP hS hl h
      refine lv_iload_n hx hb dX8_nameIs_20 rfl (lv_at hl 2 rfl) ?_
      refine lv_aload_n hx hb dX8_nameIs_21 rfl (lv_at hl 1 rfl) ?_
      obtain ⟨hk5, h⟩ := chk_some h
      refine cT_i (rest := [.int (zI x2)]) (w2 := (wd_X8_nameIs cy a_v a_v_tape a_v_tape_bytes a_v_draft a_v_ahead v_aheadUsed v_orderTold v_startTold v_lines v_foundFault v_foundPlace v_next v_token v_tokenPlace v_number v_tape_used v_tape_bytes)) ⟨hx, hb, hml, hown, hts⟩ (c_J0_length_8abf5 l D cy sa k1 hk5) (cwV 0 hts gX8_nameIs_J0_length_8abf5 rfl rfl rfl (by decide +kernel) ⟨Nat.le_of_ble_eq_true rfl, Nat.le_of_ble_eq_true rfl⟩) hk5 hE hP hDD rfl hS [] rfl rfl rfl rfl hl.1 (Nat.le_of_ble_eq_true rfl) ⟨Nat.zero_le _, Nat.zero_le _⟩ rfl dX8_nameIs_22 rfl (fun H locs hP hS => ?_)
      obtain ⟨hr6, h⟩ := chk_some h
      refine wi_ic_ge (tgt := 57) hx hb dX8_nameIs_25 (by decide) hr6 (strLenZ_in _) (fun c8 => ?_) (fun c8 => ?_)
      · have h := ite_t c8 h
        refine wi_ic hx hb dX8_nameIs_57 ?_
        obtain rfl := Option.some.inj h
        exact KR _ _ _ _ (z01 (Or.inr rfl)) hP hS dX8_nameIs_58
      · have h := ite_f c8 h
        refine lv_aload_n hx hb dX8_nameIs_28 rfl (lv_at hl 0 rfl) ?_
        refine wi_get (v := .ref a_v_tape) hx hb hts iX8 hown hE hP 0 rfl rfl 0 (by decide) q2 rfl dX8_nameIs_29 ?_
        refine lv_aload_n hx hb dX8_nameIs_32 rfl (lv_at hl 0 rfl) ?_
        refine wi_get (v := .int (zI v_tokenPlace)) hx hb hts iX8 hown hE hP 0 rfl rfl 11 (by decide) q1 rfl dX8_nameIs_33 ?_
        refine lv_iload_n hx hb dX8_nameIs_36 rfl (lv_at hl 2 rfl) ?_
        refine wi_iadd hx hb dX8_nameIs_37 ?_
        obtain ⟨o9, hc10, h⟩ := bnd_some h
        refine cV_i (rest := []) (w2 := (wd_X8_nameIs cy a_v a_v_tape a_v_tape_bytes a_v_draft a_v_ahead v_aheadUsed v_orderTold v_startTold v_lines v_foundFault v_foundPlace v_next v_token v_tokenPlace v_number v_tape_used v_tape_bytes)) ⟨hx, hb, hml, hown, hts⟩ (c_X7_at l D cy sa a_v_tape a_v_tape_bytes v_tape_used v_tape_bytes (v_tokenPlace + x2) o9 hc10) (cwV 1 hts gX8_nameIs_X7_at rfl rfl rfl (by decide +kernel) ⟨Nat.le_of_ble_eq_true rfl, Nat.le_of_ble_eq_true rfl⟩) rfl rfl rfl hE hP hDD rfl hS [1, 2] rfl rfl rfl rfl hl.1 (Nat.le_of_ble_eq_true rfl) ⟨Nat.zero_le _, Nat.zero_le _⟩ rfl dX8_nameIs_38 rfl (fun H locs hP hS => ?_)
        refine lv_aload_n hx hb dX8_nameIs_41 rfl (lv_at hl 1 rfl) ?_
        refine lv_iload_n hx hb dX8_nameIs_42 rfl (lv_at hl 2 rfl) ?_
        obtain ⟨hk11, h⟩ := chk_some h
        refine cT_i (rest := [.int (zI o9)]) (w2 := (wd_X8_nameIs cy a_v a_v_tape a_v_tape_bytes a_v_draft a_v_ahead v_aheadUsed v_orderTold v_startTold v_lines v_foundFault v_foundPlace v_next v_token v_tokenPlace v_number v_tape_used v_tape_bytes)) ⟨hx, hb, hml, hown, hts⟩ (c_J0_charAt_5068e l D cy sa k1 hk5 x2 hk11) (cwV 1 hts gX8_nameIs_J0_charAt_5068e rfl rfl rfl (by decide +kernel) ⟨Nat.le_of_ble_eq_true rfl, Nat.le_of_ble_eq_true rfl⟩) hk5 hE hP hDD rfl hS [] rfl rfl rfl rfl hl.1 (Nat.le_of_ble_eq_true rfl) ⟨Nat.zero_le _, Nat.zero_le _⟩ rfl dX8_nameIs_43 rfl (fun H locs hP hS => ?_)
        obtain ⟨hr12, h⟩ := chk_some h
        refine wi_ic_eq (tgt := 51) hx hb dX8_nameIs_46 (by decide) hr12 (strChZ_in _ _) (fun c14 => ?_) (fun c14 => ?_)
        · have h := ite_t c14 h
          refine wi_iinc (k := 2) (lv' := [(2, .int (zI (x2 + 1))), (0, .ref a_v), (1, .ref (sa (10 + k1)))]) hx hb dX8_nameIs_51 hl rfl (by decide) rfl (fun ls hl => ?_)
          refine lv_goto (tgt := 20) hx hb dX8_nameIs_54 (by decide) ?_
          exact ih k1 (x2 + 1) _ _ _ hP hS (lv_sub hl [1, 2, 0] rfl) h
        · have h := ite_f c14 h
          refine wi_ic hx hb dX8_nameIs_49 ?_
          obtain rfl := Option.some.inj h
          exact KR _ _ _ _ (z01 (Or.inl rfl)) hP hS dX8_nameIs_50
  refine lv_aload_n hx hb dX8_nameIs_0 rfl (lv_at hl 0 rfl) ?_
  refine wi_get (v := .int (zI v_next)) hx hb hts iX8 hown hE hP 0 rfl rfl 9 (by decide) q0 rfl dX8_nameIs_1 ?_
  refine lv_aload_n hx hb dX8_nameIs_4 rfl (lv_at hl 0 rfl) ?_
  refine wi_get (v := .int (zI v_tokenPlace)) hx hb hts iX8 hown hE hP 0 rfl rfl 11 (by decide) q1 rfl dX8_nameIs_5 ?_
  refine wi_isub hx hb dX8_nameIs_8 ?_
  refine lv_aload_n hx hb dX8_nameIs_9 rfl (lv_at hl 1 rfl) ?_
  obtain ⟨hk1, h⟩ := chk_some h
  refine cT_i (rest := [.int (zI (v_next - v_tokenPlace))]) (w2 := (wd_X8_nameIs cy a_v a_v_tape a_v_tape_bytes a_v_draft a_v_ahead v_aheadUsed v_orderTold v_startTold v_lines v_foundFault v_foundPlace v_next v_token v_tokenPlace v_number v_tape_used v_tape_bytes)) ⟨hx, hb, hml, hown, hts⟩ (c_J0_length_8abf5 l D cy sa k1 hk1) (cwV 0 hts gX8_nameIs_J0_length_8abf5 rfl rfl rfl (by decide +kernel) ⟨Nat.le_of_ble_eq_true rfl, Nat.le_of_ble_eq_true rfl⟩) hk1 hE hP hDD rfl hS [] rfl rfl rfl rfl hl.1 (Nat.le_of_ble_eq_true rfl) ⟨Nat.zero_le _, Nat.zero_le _⟩ rfl dX8_nameIs_10 rfl (fun H locs hP hS => ?_)
  obtain ⟨hr2, h⟩ := chk_some h
  refine wi_ic_eq (tgt := 18) hx hb dX8_nameIs_13 (by decide) hr2 (strLenZ_in _) (fun c4 => ?_) (fun c4 => ?_)
  · have h := ite_t c4 h
    refine wi_ic hx hb dX8_nameIs_18 ?_
    refine lv_istore_n (lv' := [(2, .int (zI 0)), (0, .ref a_v), (1, .ref (sa (10 + k1)))]) hx hb dX8_nameIs_19 rfl hl (by decide) rfl (fun ls hl => ?_)
    exact L20 5000 k1 0 _ _ _ hP hS (lv_sub hl [1, 2, 0] rfl) h
  · have h := ite_f c4 h
    refine wi_ic hx hb dX8_nameIs_16 ?_
    obtain rfl := Option.some.inj h
    exact KR _ _ _ _ (z01 (Or.inl rfl)) hP hS dX8_nameIs_17
abbrev wd_X8_lineOfName (cy : Nat → ClassId) (a_v : Nat) (a_v_tape : Nat) (a_v_tape_bytes : Nat) (a_v_draft : Nat) (a_v_ahead : Nat) (v_aheadUsed : Int) (v_orderTold : Int) (v_startTold : Int) (v_lines : Int) (v_foundFault : Int) (v_foundPlace : Int) (v_next : Int) (v_token : Int) (v_tokenPlace : Int) (v_number : Int) (v_tape_used : Int) (v_tape_bytes : Nat → Int) : va_W := [(a_v, .inr (8, [.ref a_v_tape, .ref a_v_draft, .ref a_v_ahead, .int (zI v_aheadUsed), .int (zI v_orderTold), .int (zI v_startTold), .int (zI v_lines), .int (zI v_foundFault), .int (zI v_foundPlace), .int (zI v_next), .int (zI v_token), .int (zI v_tokenPlace), .int (zI v_number)])), (a_v_tape, .inr (7, [.ref a_v_tape_bytes, .int (zI v_tape_used)])), (a_v_tape_bytes, .inl (cy 1, 160, .inl (fun j => zI (v_tape_bytes j))))]
set_option maxHeartbeats 4000000 in
set_option maxRecDepth 100000 in
theorem c_X8_lineOfName (l : Launch) (D : va_G) (cy : Nat → ClassId) (sa : Nat → Nat) (a_v : Nat) (a_v_tape : Nat) (a_v_tape_bytes : Nat) (a_v_draft : Nat) (a_v_ahead : Nat) (v_aheadUsed : Int) (v_orderTold : Int) (v_startTold : Int) (v_lines : Int) (v_foundFault : Int) (v_foundPlace : Int) (v_next : Int) (v_token : Int) (v_tokenPlace : Int) (v_number : Int) (v_tape_used : Int) (v_tape_bytes : Nat → Int) (o : Int) (h : f_TextReader_lineOfName v_next v_tokenPlace v_tape_used v_tape_bytes = some o) : CtI l yX8_lineOfName wsX8_lineOfName ({ frames := 6, cells := 0, slots := 0, locals := 132 }) D cy sa [.ref a_v] (wd_X8_lineOfName cy a_v a_v_tape a_v_tape_bytes a_v_draft a_v_ahead v_aheadUsed v_orderTold v_startTold v_lines v_foundFault v_foundPlace v_next v_token v_tokenPlace v_number v_tape_used v_tape_bytes) (wd_X8_lineOfName cy a_v a_v_tape a_v_tape_bytes a_v_draft a_v_ahead v_aheadUsed v_orderTold v_startTold v_lines v_foundFault v_foundPlace v_next v_token v_tokenPlace v_number v_tape_used v_tape_bytes) o := by
  refine ct_I (cc := cX8_lineOfName) (maxL := 1) (plainFor_of_name (by decide)) rfl (Nat.le_of_ble_eq_true rfl) ?_
  intro p e s m below meth c A args QQ hx hb hml hown hts hE hDD hP KR ls hl
  have hl : lv_has ls 1 [(0, .ref a_v)] := hl
  have hDD : DD A [a_v, a_v_tape, a_v_tape_bytes] := hDD
  have hS : va_S A s.heap s.heap [] := va_S.rf
  refine lv_aload_n hx hb dX8_lineOfName_0 rfl (lv_at hl 0 rfl) ?_
  refine va_ldcS hx hb hown (hE.2.1.2.2.2.2.1 0 (by decide)) dX8_lineOfName_1 ?_
  obtain ⟨o1, hc2, h⟩ := bnd_some h
  refine cV_i (rest := []) (w2 := (wd_X8_lineOfName cy a_v a_v_tape a_v_tape_bytes a_v_draft a_v_ahead v_aheadUsed v_orderTold v_startTold v_lines v_foundFault v_foundPlace v_next v_token v_tokenPlace v_number v_tape_used v_tape_bytes)) ⟨hx, hb, hml, hown, hts⟩ (c_X8_nameIs l D cy sa a_v a_v_tape a_v_tape_bytes a_v_draft a_v_ahead v_aheadUsed v_orderTold v_startTold v_lines v_foundFault v_foundPlace v_next v_token v_tokenPlace v_number v_tape_used v_tape_bytes 0 o1 hc2) (cwV 1 hts gX8_lineOfName_X8_nameIs rfl rfl rfl (by decide +kernel) ⟨Nat.le_of_ble_eq_true rfl, Nat.le_of_ble_eq_true rfl⟩) rfl rfl rfl hE hP hDD rfl hS [0, 1, 2] rfl rfl rfl rfl hl.1 (Nat.le_of_ble_eq_true rfl) ⟨Nat.zero_le _, Nat.zero_le _⟩ rfl dX8_lineOfName_3 rfl (fun H locs hP hS => ?_)
  obtain ⟨hr3, h⟩ := chk_some h
  refine wi_if_eq (tgt := 11) hx hb dX8_lineOfName_6 (by decide) hr3 (fun c5 => ?_) (fun c5 => ?_)
  · have h := ite_t c5 h
    refine lv_aload_n hx hb dX8_lineOfName_11 rfl (lv_at hl 0 rfl) ?_
    refine va_ldcS hx hb hown (hE.2.1.2.2.2.2.1 1 (by decide)) dX8_lineOfName_12 ?_
    obtain ⟨o6, hc7, h⟩ := bnd_some h
    refine cV_i (rest := []) (w2 := (wd_X8_lineOfName cy a_v a_v_tape a_v_tape_bytes a_v_draft a_v_ahead v_aheadUsed v_orderTold v_startTold v_lines v_foundFault v_foundPlace v_next v_token v_tokenPlace v_number v_tape_used v_tape_bytes)) ⟨hx, hb, hml, hown, hts⟩ (c_X8_nameIs l D cy sa a_v a_v_tape a_v_tape_bytes a_v_draft a_v_ahead v_aheadUsed v_orderTold v_startTold v_lines v_foundFault v_foundPlace v_next v_token v_tokenPlace v_number v_tape_used v_tape_bytes 1 o6 hc7) (cwV 1 hts gX8_lineOfName_X8_nameIs rfl rfl rfl (by decide +kernel) ⟨Nat.le_of_ble_eq_true rfl, Nat.le_of_ble_eq_true rfl⟩) rfl rfl rfl hE hP hDD rfl hS [0, 1, 2] rfl rfl rfl rfl hl.1 (Nat.le_of_ble_eq_true rfl) ⟨Nat.zero_le _, Nat.zero_le _⟩ rfl dX8_lineOfName_14 rfl (fun H locs hP hS => ?_)
    obtain ⟨hr8, h⟩ := chk_some h
    refine wi_if_eq (tgt := 22) hx hb dX8_lineOfName_17 (by decide) hr8 (fun c10 => ?_) (fun c10 => ?_)
    · have h := ite_t c10 h
      refine lv_aload_n hx hb dX8_lineOfName_22 rfl (lv_at hl 0 rfl) ?_
      refine va_ldcS hx hb hown (hE.2.1.2.2.2.2.1 2 (by decide)) dX8_lineOfName_23 ?_
      obtain ⟨o11, hc12, h⟩ := bnd_some h
      refine cV_i (rest := []) (w2 := (wd_X8_lineOfName cy a_v a_v_tape a_v_tape_bytes a_v_draft a_v_ahead v_aheadUsed v_orderTold v_startTold v_lines v_foundFault v_foundPlace v_next v_token v_tokenPlace v_number v_tape_used v_tape_bytes)) ⟨hx, hb, hml, hown, hts⟩ (c_X8_nameIs l D cy sa a_v a_v_tape a_v_tape_bytes a_v_draft a_v_ahead v_aheadUsed v_orderTold v_startTold v_lines v_foundFault v_foundPlace v_next v_token v_tokenPlace v_number v_tape_used v_tape_bytes 2 o11 hc12) (cwV 1 hts gX8_lineOfName_X8_nameIs rfl rfl rfl (by decide +kernel) ⟨Nat.le_of_ble_eq_true rfl, Nat.le_of_ble_eq_true rfl⟩) rfl rfl rfl hE hP hDD rfl hS [0, 1, 2] rfl rfl rfl rfl hl.1 (Nat.le_of_ble_eq_true rfl) ⟨Nat.zero_le _, Nat.zero_le _⟩ rfl dX8_lineOfName_25 rfl (fun H locs hP hS => ?_)
      obtain ⟨hr13, h⟩ := chk_some h
      refine wi_if_eq (tgt := 33) hx hb dX8_lineOfName_28 (by decide) hr13 (fun c15 => ?_) (fun c15 => ?_)
      · have h := ite_t c15 h
        refine lv_aload_n hx hb dX8_lineOfName_33 rfl (lv_at hl 0 rfl) ?_
        refine va_ldcS hx hb hown (hE.2.1.2.2.2.2.1 3 (by decide)) dX8_lineOfName_34 ?_
        obtain ⟨o16, hc17, h⟩ := bnd_some h
        refine cV_i (rest := []) (w2 := (wd_X8_lineOfName cy a_v a_v_tape a_v_tape_bytes a_v_draft a_v_ahead v_aheadUsed v_orderTold v_startTold v_lines v_foundFault v_foundPlace v_next v_token v_tokenPlace v_number v_tape_used v_tape_bytes)) ⟨hx, hb, hml, hown, hts⟩ (c_X8_nameIs l D cy sa a_v a_v_tape a_v_tape_bytes a_v_draft a_v_ahead v_aheadUsed v_orderTold v_startTold v_lines v_foundFault v_foundPlace v_next v_token v_tokenPlace v_number v_tape_used v_tape_bytes 3 o16 hc17) (cwV 1 hts gX8_lineOfName_X8_nameIs rfl rfl rfl (by decide +kernel) ⟨Nat.le_of_ble_eq_true rfl, Nat.le_of_ble_eq_true rfl⟩) rfl rfl rfl hE hP hDD rfl hS [0, 1, 2] rfl rfl rfl rfl hl.1 (Nat.le_of_ble_eq_true rfl) ⟨Nat.zero_le _, Nat.zero_le _⟩ rfl dX8_lineOfName_36 rfl (fun H locs hP hS => ?_)
        obtain ⟨hr18, h⟩ := chk_some h
        refine wi_if_eq (tgt := 44) hx hb dX8_lineOfName_39 (by decide) hr18 (fun c20 => ?_) (fun c20 => ?_)
        · have h := ite_t c20 h
          refine lv_aload_n hx hb dX8_lineOfName_44 rfl (lv_at hl 0 rfl) ?_
          refine va_ldcS hx hb hown (hE.2.1.2.2.2.2.1 4 (by decide)) dX8_lineOfName_45 ?_
          obtain ⟨o21, hc22, h⟩ := bnd_some h
          refine cV_i (rest := []) (w2 := (wd_X8_lineOfName cy a_v a_v_tape a_v_tape_bytes a_v_draft a_v_ahead v_aheadUsed v_orderTold v_startTold v_lines v_foundFault v_foundPlace v_next v_token v_tokenPlace v_number v_tape_used v_tape_bytes)) ⟨hx, hb, hml, hown, hts⟩ (c_X8_nameIs l D cy sa a_v a_v_tape a_v_tape_bytes a_v_draft a_v_ahead v_aheadUsed v_orderTold v_startTold v_lines v_foundFault v_foundPlace v_next v_token v_tokenPlace v_number v_tape_used v_tape_bytes 4 o21 hc22) (cwV 1 hts gX8_lineOfName_X8_nameIs rfl rfl rfl (by decide +kernel) ⟨Nat.le_of_ble_eq_true rfl, Nat.le_of_ble_eq_true rfl⟩) rfl rfl rfl hE hP hDD rfl hS [0, 1, 2] rfl rfl rfl rfl hl.1 (Nat.le_of_ble_eq_true rfl) ⟨Nat.zero_le _, Nat.zero_le _⟩ rfl dX8_lineOfName_47 rfl (fun H locs hP hS => ?_)
          obtain ⟨hr23, h⟩ := chk_some h
          refine wi_if_eq (tgt := 55) hx hb dX8_lineOfName_50 (by decide) hr23 (fun c25 => ?_) (fun c25 => ?_)
          · have h := ite_t c25 h
            refine lv_aload_n hx hb dX8_lineOfName_55 rfl (lv_at hl 0 rfl) ?_
            refine va_ldcS hx hb hown (hE.2.1.2.2.2.2.1 5 (by decide)) dX8_lineOfName_56 ?_
            obtain ⟨o26, hc27, h⟩ := bnd_some h
            refine cV_i (rest := []) (w2 := (wd_X8_lineOfName cy a_v a_v_tape a_v_tape_bytes a_v_draft a_v_ahead v_aheadUsed v_orderTold v_startTold v_lines v_foundFault v_foundPlace v_next v_token v_tokenPlace v_number v_tape_used v_tape_bytes)) ⟨hx, hb, hml, hown, hts⟩ (c_X8_nameIs l D cy sa a_v a_v_tape a_v_tape_bytes a_v_draft a_v_ahead v_aheadUsed v_orderTold v_startTold v_lines v_foundFault v_foundPlace v_next v_token v_tokenPlace v_number v_tape_used v_tape_bytes 5 o26 hc27) (cwV 1 hts gX8_lineOfName_X8_nameIs rfl rfl rfl (by decide +kernel) ⟨Nat.le_of_ble_eq_true rfl, Nat.le_of_ble_eq_true rfl⟩) rfl rfl rfl hE hP hDD rfl hS [0, 1, 2] rfl rfl rfl rfl hl.1 (Nat.le_of_ble_eq_true rfl) ⟨Nat.zero_le _, Nat.zero_le _⟩ rfl dX8_lineOfName_58 rfl (fun H locs hP hS => ?_)
            obtain ⟨hr28, h⟩ := chk_some h
            refine wi_if_eq (tgt := 68) hx hb dX8_lineOfName_61 (by decide) hr28 (fun c30 => ?_) (fun c30 => ?_)
            · have h := ite_t c30 h
              refine wi_bi hx hb dX8_lineOfName_68 (by decide) ?_
              obtain rfl := Option.some.inj h
              exact KR _ _ _ _ hP hS dX8_lineOfName_70
            · have h := ite_f c30 h
              refine wi_ic hx hb dX8_lineOfName_64 ?_
              refine lv_goto (tgt := 70) hx hb dX8_lineOfName_65 (by decide) ?_
              obtain rfl := Option.some.inj h
              exact KR _ _ _ _ hP hS dX8_lineOfName_70
          · have h := ite_f c25 h
            refine wi_ic hx hb dX8_lineOfName_53 ?_
            obtain rfl := Option.some.inj h
            exact KR _ _ _ _ hP hS dX8_lineOfName_54
        · have h := ite_f c20 h
          refine wi_ic hx hb dX8_lineOfName_42 ?_
          obtain rfl := Option.some.inj h
          exact KR _ _ _ _ hP hS dX8_lineOfName_43
      · have h := ite_f c15 h
        refine wi_ic hx hb dX8_lineOfName_31 ?_
        obtain rfl := Option.some.inj h
        exact KR _ _ _ _ hP hS dX8_lineOfName_32
    · have h := ite_f c10 h
      refine wi_ic hx hb dX8_lineOfName_20 ?_
      obtain rfl := Option.some.inj h
      exact KR _ _ _ _ hP hS dX8_lineOfName_21
  · have h := ite_f c5 h
    refine wi_ic hx hb dX8_lineOfName_9 ?_
    obtain rfl := Option.some.inj h
    exact KR _ _ _ _ hP hS dX8_lineOfName_10
abbrev wd_X8_takesLine (cy : Nat → ClassId) (a_v : Nat) (a_v_ahead : Nat) (a_v_draft : Nat) (a_v_draft_facts : Nat) (a_v_draft_places : Nat) (a_v_tape : Nat) (a_v_tape_bytes : Nat) (v_aheadUsed : Int) (v_orderTold : Int) (v_startTold : Int) (v_lines : Int) (v_foundFault : Int) (v_foundPlace : Int) (v_next : Int) (v_token : Int) (v_tokenPlace : Int) (v_number : Int) (v_ahead : Nat → Int) (v_draft_boxes : Int) (v_draft_startsAt : Int) (v_draft_facts : Nat → Int) (v_draft_places : Nat → Int) (v_tape_used : Int) (v_tape_bytes : Nat → Int) : va_W := [(a_v, .inr (8, [.ref a_v_tape, .ref a_v_draft, .ref a_v_ahead, .int (zI v_aheadUsed), .int (zI v_orderTold), .int (zI v_startTold), .int (zI v_lines), .int (zI v_foundFault), .int (zI v_foundPlace), .int (zI v_next), .int (zI v_token), .int (zI v_tokenPlace), .int (zI v_number)])), (a_v_ahead, .inl (cy 0, 5, .inl (fun j => zI (v_ahead j)))), (a_v_draft, .inr (5, [.ref a_v_draft_facts, .ref a_v_draft_places, .int (zI v_draft_boxes), .int (zI v_draft_startsAt)])), (a_v_draft_facts, .inl (cy 0, 30, .inl (fun j => zI (v_draft_facts j)))), (a_v_draft_places, .inl (cy 0, 5, .inl (fun j => zI (v_draft_places j)))), (a_v_tape, .inr (7, [.ref a_v_tape_bytes, .int (zI v_tape_used)])), (a_v_tape_bytes, .inl (cy 1, 160, .inl (fun j => zI (v_tape_bytes j))))]
set_option maxHeartbeats 4000000 in
set_option maxRecDepth 100000 in
theorem c_X8_takesLine (l : Launch) (D : va_G) (cy : Nat → ClassId) (sa : Nat → Nat) (a_v : Nat) (a_v_ahead : Nat) (a_v_draft : Nat) (a_v_draft_facts : Nat) (a_v_draft_places : Nat) (a_v_tape : Nat) (a_v_tape_bytes : Nat) (v_aheadUsed : Int) (v_orderTold : Int) (v_startTold : Int) (v_lines : Int) (v_foundFault : Int) (v_foundPlace : Int) (v_next : Int) (v_token : Int) (v_tokenPlace : Int) (v_number : Int) (v_ahead : Nat → Int) (v_draft_boxes : Int) (v_draft_startsAt : Int) (v_draft_facts : Nat → Int) (v_draft_places : Nat → Int) (v_tape_used : Int) (v_tape_bytes : Nat → Int) (o : Int × Int × Int × Int × Int × Int × Int × Int × Int × Int × (Nat → Int) × Int × Int × (Nat → Int) × (Nat → Int)) (h : f_TextReader_takesLine v_aheadUsed v_orderTold v_startTold v_foundFault v_foundPlace v_next v_token v_tokenPlace v_number v_ahead v_draft_boxes v_draft_startsAt v_draft_facts v_draft_places v_tape_used v_tape_bytes = some o) : CtI l yX8_takesLine wsX8_takesLine ({ frames := 7, cells := 0, slots := 0, locals := 152 }) D cy sa [.ref a_v] (wd_X8_takesLine cy a_v a_v_ahead a_v_draft a_v_draft_facts a_v_draft_places a_v_tape a_v_tape_bytes v_aheadUsed v_orderTold v_startTold v_lines v_foundFault v_foundPlace v_next v_token v_tokenPlace v_number v_ahead v_draft_boxes v_draft_startsAt v_draft_facts v_draft_places v_tape_used v_tape_bytes) (wd_X8_takesLine cy a_v a_v_ahead a_v_draft a_v_draft_facts a_v_draft_places a_v_tape a_v_tape_bytes o.2.1 o.2.2.1 o.2.2.2.1 v_lines o.2.2.2.2.1 o.2.2.2.2.2.1 o.2.2.2.2.2.2.1 o.2.2.2.2.2.2.2.1 o.2.2.2.2.2.2.2.2.1 o.2.2.2.2.2.2.2.2.2.1 o.2.2.2.2.2.2.2.2.2.2.1 o.2.2.2.2.2.2.2.2.2.2.2.1 o.2.2.2.2.2.2.2.2.2.2.2.2.1 o.2.2.2.2.2.2.2.2.2.2.2.2.2.1 o.2.2.2.2.2.2.2.2.2.2.2.2.2.2 v_tape_used v_tape_bytes) o.1 := by
  refine ct_Z (cc := cX8_takesLine) (maxL := 2) (plainFor_of_name (by decide)) rfl (Nat.le_of_ble_eq_true rfl) ?_
  intro p e s m below meth c A args QQ hx hb hml hown hts hE hDD hP KR ls hl
  have hl : lv_has ls 2 [(0, .ref a_v)] := hl
  have hDD : DD A [a_v, a_v_ahead, a_v_draft, a_v_draft_facts, a_v_draft_places, a_v_tape, a_v_tape_bytes] := hDD
  have hS : va_S A s.heap s.heap [] := va_S.rf
  have q0 := hts (.fieldLink RX8 45 "HatHours$TextReader" "token" "I") (List.mem_of_getElem? (i := 1) rfl)
  have q1 := hts (.fieldLink RX8 48 "HatHours$TextReader" "tokenPlace" "I") (List.mem_of_getElem? (i := 2) rfl)
  have iX8 : ∀ w ∈ u_ws RX8 TX8 13, w ∈ wsX8_takesLine := in_slice 165 13 rfl
  refine lv_aload_n hx hb dX8_takesLine_0 rfl (lv_at hl 0 rfl) ?_
  refine wi_get (v := .int (zI v_token)) hx hb hts iX8 hown hE hP 0 rfl rfl 10 (by decide) q0 rfl dX8_takesLine_1 ?_
  refine wi_ic hx hb dX8_takesLine_4 ?_
  obtain ⟨hr1, h⟩ := chk_some h
  obtain ⟨o2, hx3, h⟩ := bnd_some h
  have J4 : ∀ (H : Heap) (locs : List Loc) (ls : Array Slot), va_P D vwCl (wd_X8_takesLine cy a_v a_v_ahead a_v_draft a_v_draft_facts a_v_draft_places a_v_tape a_v_tape_bytes v_aheadUsed v_orderTold v_startTold v_lines v_foundFault v_foundPlace v_next v_token v_tokenPlace v_number v_ahead v_draft_boxes v_draft_startsAt v_draft_facts v_draft_places v_tape_used v_tape_bytes) H → va_S A s.heap H locs → lv_has ls 2 [(0, .ref a_v)] → W p l e { frames := 7, cells := 0, slots := 0, locals := 152 } s m args below meth c H locs 0 0 QQ (F0 m 17 ls [.int (zI o2)]) := by
    intro H locs ls hP hS hl
    refine lv_istore_n (lv' := [(1, .int (zI o2)), (0, .ref a_v)]) hx hb dX8_takesLine_17 rfl hl (by decide) rfl (fun ls hl => ?_)
    refine lv_iload_n hx hb dX8_takesLine_18 rfl (lv_at hl 0 rfl) ?_
    obtain ⟨hr5, h⟩ := chk_some h
    by_cases c6 : o2 = -4
    · have h := ite_t c6 h
      refine wi_look (off := 33) (tgt := 52) hx hb dX8_takesLine_19 (by decide) hr5 (by rw [c6]; rfl) (by decide) ?_
      refine lv_aload_n hx hb dX8_takesLine_52 rfl (lv_at hl 1 rfl) ?_
      refine wi_ic hx hb dX8_takesLine_53 ?_
      refine lv_aload_n hx hb dX8_takesLine_54 rfl (lv_at hl 1 rfl) ?_
      refine wi_get (v := .int (zI v_tokenPlace)) hx hb hts iX8 hown hE hP 0 rfl rfl 11 (by decide) q1 rfl dX8_takesLine_55 ?_
      obtain ⟨o7, hc8, h⟩ := bnd_some h
      refine cV_i (rest := []) (w2 := (wd_X8_takesLine cy a_v a_v_ahead a_v_draft a_v_draft_facts a_v_draft_places a_v_tape a_v_tape_bytes v_aheadUsed v_orderTold v_startTold v_lines o7.2.1 o7.2.2 v_next v_token v_tokenPlace v_number v_ahead v_draft_boxes v_draft_startsAt v_draft_facts v_draft_places v_tape_used v_tape_bytes)) ⟨hx, hb, hml, hown, hts⟩ (c_X8_failed l D cy sa a_v a_v_tape a_v_draft a_v_ahead v_aheadUsed v_orderTold v_startTold v_lines v_foundFault v_foundPlace v_next v_token v_tokenPlace v_number 2 v_tokenPlace o7 hc8) (cwV 2 hts gX8_takesLine_X8_failed rfl rfl rfl (by decide +kernel) ⟨Nat.le_of_ble_eq_true rfl, Nat.le_of_ble_eq_true rfl⟩) rfl rfl rfl hE hP hDD rfl hS [0] rfl rfl rfl rfl hl.1 (Nat.le_of_ble_eq_true rfl) ⟨Nat.zero_le _, Nat.zero_le _⟩ rfl dX8_takesLine_58 rfl (fun H locs hP hS => ?_)
      obtain ⟨hk9, h⟩ := chk_some h
      obtain rfl := Option.some.inj h
      exact KR _ _ _ _ (z01 hk9) hP hS dX8_takesLine_61
    have h := ite_f c6 h
    by_cases c10 : o2 = 4
    · have h := ite_t c10 h
      refine wi_look (off := 43) (tgt := 62) hx hb dX8_takesLine_19 (by decide) hr5 (by rw [c10]; rfl) (by decide) ?_
      refine lv_aload_n hx hb dX8_takesLine_62 rfl (lv_at hl 1 rfl) ?_
      obtain ⟨o11, hc12, h⟩ := bnd_some h
      refine cV_i (rest := []) (w2 := (wd_X8_takesLine cy a_v a_v_ahead a_v_draft a_v_draft_facts a_v_draft_places a_v_tape a_v_tape_bytes o11.2.1 o11.2.2.1 v_startTold v_lines o11.2.2.2.1 o11.2.2.2.2.1 o11.2.2.2.2.2.1 o11.2.2.2.2.2.2.1 o11.2.2.2.2.2.2.2.1 o11.2.2.2.2.2.2.2.2.1 o11.2.2.2.2.2.2.2.2.2 v_draft_boxes v_draft_startsAt v_draft_facts v_draft_places v_tape_used v_tape_bytes)) ⟨hx, hb, hml, hown, hts⟩ (c_X8_takesOrderLine l D cy sa a_v a_v_ahead a_v_tape a_v_tape_bytes a_v_draft v_aheadUsed v_orderTold v_startTold v_lines v_foundFault v_foundPlace v_next v_token v_tokenPlace v_number v_ahead v_tape_used v_tape_bytes o11 hc12) (cwV 0 hts gX8_takesLine_X8_takesOrderLine rfl rfl rfl (by decide +kernel) ⟨Nat.le_of_ble_eq_true rfl, Nat.le_of_ble_eq_true rfl⟩) rfl rfl rfl hE hP hDD rfl hS [0, 1, 5, 6] rfl rfl rfl rfl hl.1 (Nat.le_of_ble_eq_true rfl) ⟨Nat.zero_le _, Nat.zero_le _⟩ rfl dX8_takesLine_63 rfl (fun H locs hP hS => ?_)
      obtain ⟨hk13, h⟩ := chk_some h
      obtain rfl := Option.some.inj h
      exact KR _ _ _ _ (z01 hk13) hP hS dX8_takesLine_66
    have h := ite_f c10 h
    by_cases c14 : o2 = 5
    · have h := ite_t c14 h
      refine wi_look (off := 48) (tgt := 67) hx hb dX8_takesLine_19 (by decide) hr5 (by rw [c14]; rfl) (by decide) ?_
      refine lv_aload_n hx hb dX8_takesLine_67 rfl (lv_at hl 1 rfl) ?_
      obtain ⟨o15, hc16, h⟩ := bnd_some h
      refine cV_i (rest := []) (w2 := (wd_X8_takesLine cy a_v a_v_ahead a_v_draft a_v_draft_facts a_v_draft_places a_v_tape a_v_tape_bytes v_aheadUsed v_orderTold o15.2.1 v_lines o15.2.2.1 o15.2.2.2.1 o15.2.2.2.2.1 o15.2.2.2.2.2.1 o15.2.2.2.2.2.2.1 o15.2.2.2.2.2.2.2.1 v_ahead v_draft_boxes o15.2.2.2.2.2.2.2.2 v_draft_facts v_draft_places v_tape_used v_tape_bytes)) ⟨hx, hb, hml, hown, hts⟩ (c_X8_takesStartLine l D cy sa a_v a_v_draft a_v_tape a_v_tape_bytes a_v_ahead a_v_draft_facts a_v_draft_places v_aheadUsed v_orderTold v_startTold v_lines v_foundFault v_foundPlace v_next v_token v_tokenPlace v_number v_draft_boxes v_draft_startsAt v_tape_used v_tape_bytes o15 hc16) (cwV 0 hts gX8_takesLine_X8_takesStartLine rfl rfl rfl (by decide +kernel) ⟨Nat.le_of_ble_eq_true rfl, Nat.le_of_ble_eq_true rfl⟩) rfl rfl rfl hE hP hDD rfl hS [0, 2, 5, 6] rfl rfl rfl rfl hl.1 (Nat.le_of_ble_eq_true rfl) ⟨Nat.zero_le _, Nat.zero_le _⟩ rfl dX8_takesLine_68 rfl (fun H locs hP hS => ?_)
      obtain ⟨hr17, h⟩ := chk_some h
      refine wi_if_eq (tgt := 85) hx hb dX8_takesLine_71 (by decide) hr17 (fun c19 => ?_) (fun c19 => ?_)
      · have h := ite_t c19 h
        refine wi_ic hx hb dX8_takesLine_85 ?_
        obtain rfl := Option.some.inj h
        exact KR _ _ _ _ (z01 (Or.inl rfl)) hP hS dX8_takesLine_86
      · have h := ite_f c19 h
        refine lv_aload_n hx hb dX8_takesLine_74 rfl (lv_at hl 1 rfl) ?_
        obtain ⟨o20, hc21, h⟩ := bnd_some h
        refine cV_i (rest := []) (w2 := (wd_X8_takesLine cy a_v a_v_ahead a_v_draft a_v_draft_facts a_v_draft_places a_v_tape a_v_tape_bytes v_aheadUsed v_orderTold o15.2.1 v_lines o20.2.1 o20.2.2.1 o20.2.2.2.1 o20.2.2.2.2.1 o20.2.2.2.2.2.1 o20.2.2.2.2.2.2 v_ahead v_draft_boxes o15.2.2.2.2.2.2.2.2 v_draft_facts v_draft_places v_tape_used v_tape_bytes)) ⟨hx, hb, hml, hown, hts⟩ (c_X8_takesStop l D cy sa a_v a_v_tape a_v_tape_bytes a_v_draft a_v_ahead v_aheadUsed v_orderTold o15.2.1 v_lines o15.2.2.1 o15.2.2.2.1 o15.2.2.2.2.1 o15.2.2.2.2.2.1 o15.2.2.2.2.2.2.1 o15.2.2.2.2.2.2.2.1 v_tape_used v_tape_bytes o20 hc21) (cwV 0 hts gX8_takesLine_X8_takesStop rfl rfl rfl (by decide +kernel) ⟨Nat.le_of_ble_eq_true rfl, Nat.le_of_ble_eq_true rfl⟩) rfl rfl rfl hE hP hDD rfl hS [0, 5, 6] rfl rfl rfl rfl hl.1 (Nat.le_of_ble_eq_true rfl) ⟨Nat.zero_le _, Nat.zero_le _⟩ rfl dX8_takesLine_75 rfl (fun H locs hP hS => ?_)
        obtain ⟨hr22, h⟩ := chk_some h
        refine wi_if_eq (tgt := 85) hx hb dX8_takesLine_78 (by decide) hr22 (fun c24 => ?_) (fun c24 => ?_)
        · have h := ite_t c24 h
          refine wi_ic hx hb dX8_takesLine_85 ?_
          obtain rfl := Option.some.inj h
          exact KR _ _ _ _ (z01 (Or.inl rfl)) hP hS dX8_takesLine_86
        · have h := ite_f c24 h
          refine wi_ic hx hb dX8_takesLine_81 ?_
          refine lv_goto (tgt := 86) hx hb dX8_takesLine_82 (by decide) ?_
          obtain rfl := Option.some.inj h
          exact KR _ _ _ _ (z01 (Or.inr rfl)) hP hS dX8_takesLine_86
    have h := ite_f c14 h
    refine wi_look (off := 68) (tgt := 87) hx hb dX8_takesLine_19 (by decide) hr5 (by simp [Op.lookupswitch.offset, Ne.symm c6, Ne.symm c10, Ne.symm c14]) (by decide) ?_
    refine lv_aload_n hx hb dX8_takesLine_87 rfl (lv_at hl 1 rfl) ?_
    refine lv_iload_n hx hb dX8_takesLine_88 rfl (lv_at hl 0 rfl) ?_
    obtain ⟨o25, hc26, h⟩ := bnd_some h
    refine cV_i (rest := []) (w2 := (wd_X8_takesLine cy a_v a_v_ahead a_v_draft a_v_draft_facts a_v_draft_places a_v_tape a_v_tape_bytes v_aheadUsed v_orderTold v_startTold v_lines o25.2.1 o25.2.2.1 o25.2.2.2.1 o25.2.2.2.2.1 o25.2.2.2.2.2.1 o25.2.2.2.2.2.2.1 v_ahead o25.2.2.2.2.2.2.2.1 v_draft_startsAt o25.2.2.2.2.2.2.2.2.1 o25.2.2.2.2.2.2.2.2.2 v_tape_used v_tape_bytes)) ⟨hx, hb, hml, hown, hts⟩ (c_X8_takesBoxLine l D cy sa a_v a_v_draft a_v_draft_facts a_v_draft_places a_v_tape a_v_tape_bytes a_v_ahead v_aheadUsed v_orderTold v_startTold v_lines v_foundFault v_foundPlace v_next v_token v_tokenPlace v_number v_draft_boxes v_draft_startsAt v_draft_facts v_draft_places v_tape_used v_tape_bytes o2 o25 hc26) (cwV 1 hts gX8_takesLine_X8_takesBoxLine rfl rfl rfl (by decide +kernel) ⟨Nat.le_of_ble_eq_true rfl, Nat.le_of_ble_eq_true rfl⟩) rfl rfl rfl hE hP hDD rfl hS [0, 2, 3, 4, 5, 6] rfl rfl rfl rfl hl.1 (Nat.le_of_ble_eq_true rfl) ⟨Nat.zero_le _, Nat.zero_le _⟩ rfl dX8_takesLine_89 rfl (fun H locs hP hS => ?_)
    obtain ⟨hr27, h⟩ := chk_some h
    refine wi_if_eq (tgt := 106) hx hb dX8_takesLine_92 (by decide) hr27 (fun c29 => ?_) (fun c29 => ?_)
    · have h := ite_t c29 h
      refine wi_ic hx hb dX8_takesLine_106 ?_
      obtain rfl := Option.some.inj h
      exact KR _ _ _ _ (z01 (Or.inl rfl)) hP hS dX8_takesLine_107
    · have h := ite_f c29 h
      refine lv_aload_n hx hb dX8_takesLine_95 rfl (lv_at hl 1 rfl) ?_
      obtain ⟨o30, hc31, h⟩ := bnd_some h
      refine cV_i (rest := []) (w2 := (wd_X8_takesLine cy a_v a_v_ahead a_v_draft a_v_draft_facts a_v_draft_places a_v_tape a_v_tape_bytes v_aheadUsed v_orderTold v_startTold v_lines o30.2.1 o30.2.2.1 o30.2.2.2.1 o30.2.2.2.2.1 o30.2.2.2.2.2.1 o30.2.2.2.2.2.2 v_ahead o25.2.2.2.2.2.2.2.1 v_draft_startsAt o25.2.2.2.2.2.2.2.2.1 o25.2.2.2.2.2.2.2.2.2 v_tape_used v_tape_bytes)) ⟨hx, hb, hml, hown, hts⟩ (c_X8_takesStop l D cy sa a_v a_v_tape a_v_tape_bytes a_v_draft a_v_ahead v_aheadUsed v_orderTold v_startTold v_lines o25.2.1 o25.2.2.1 o25.2.2.2.1 o25.2.2.2.2.1 o25.2.2.2.2.2.1 o25.2.2.2.2.2.2.1 v_tape_used v_tape_bytes o30 hc31) (cwV 0 hts gX8_takesLine_X8_takesStop rfl rfl rfl (by decide +kernel) ⟨Nat.le_of_ble_eq_true rfl, Nat.le_of_ble_eq_true rfl⟩) rfl rfl rfl hE hP hDD rfl hS [0, 5, 6] rfl rfl rfl rfl hl.1 (Nat.le_of_ble_eq_true rfl) ⟨Nat.zero_le _, Nat.zero_le _⟩ rfl dX8_takesLine_96 rfl (fun H locs hP hS => ?_)
      obtain ⟨hr32, h⟩ := chk_some h
      refine wi_if_eq (tgt := 106) hx hb dX8_takesLine_99 (by decide) hr32 (fun c34 => ?_) (fun c34 => ?_)
      · have h := ite_t c34 h
        refine wi_ic hx hb dX8_takesLine_106 ?_
        obtain rfl := Option.some.inj h
        exact KR _ _ _ _ (z01 (Or.inl rfl)) hP hS dX8_takesLine_107
      · have h := ite_f c34 h
        refine wi_ic hx hb dX8_takesLine_102 ?_
        refine lv_goto (tgt := 107) hx hb dX8_takesLine_103 (by decide) ?_
        obtain rfl := Option.some.inj h
        exact KR _ _ _ _ (z01 (Or.inr rfl)) hP hS dX8_takesLine_107
  clear h
  have h := hx3
  clear hx3
  refine wi_ic_ne (tgt := 15) hx hb dX8_takesLine_5 (by decide) hr1 (by decide) (fun c35 => ?_) (fun c35 => ?_)
  · have h := ite_f c35 h
    refine wi_bi hx hb dX8_takesLine_15 (by decide) ?_
    obtain rfl := Option.some.inj h
    exact J4 _ _ _ hP hS (lv_sub hl [0] rfl)
  · have h := ite_t c35 h
    refine lv_aload_n hx hb dX8_takesLine_8 rfl (lv_at hl 0 rfl) ?_
    obtain ⟨o36, hc37, h⟩ := bnd_some h
    refine cV_i (rest := []) (w2 := (wd_X8_takesLine cy a_v a_v_ahead a_v_draft a_v_draft_facts a_v_draft_places a_v_tape a_v_tape_bytes v_aheadUsed v_orderTold v_startTold v_lines v_foundFault v_foundPlace v_next v_token v_tokenPlace v_number v_ahead v_draft_boxes v_draft_startsAt v_draft_facts v_draft_places v_tape_used v_tape_bytes)) ⟨hx, hb, hml, hown, hts⟩ (c_X8_lineOfName l D cy sa a_v a_v_tape a_v_tape_bytes a_v_draft a_v_ahead v_aheadUsed v_orderTold v_startTold v_lines v_foundFault v_foundPlace v_next v_token v_tokenPlace v_number v_tape_used v_tape_bytes o36 hc37) (cwV 0 hts gX8_takesLine_X8_lineOfName rfl rfl rfl (by decide +kernel) ⟨Nat.le_of_ble_eq_true rfl, Nat.le_of_ble_eq_true rfl⟩) rfl rfl rfl hE hP hDD rfl hS [0, 5, 6] rfl rfl rfl rfl hl.1 (Nat.le_of_ble_eq_true rfl) ⟨Nat.zero_le _, Nat.zero_le _⟩ rfl dX8_takesLine_9 rfl (fun H locs hP hS => ?_)
    refine lv_goto (tgt := 17) hx hb dX8_takesLine_12 (by decide) ?_
    obtain rfl := Option.some.inj h
    exact J4 _ _ _ hP hS (lv_sub hl [0] rfl)
abbrev wd_X8_takesAll (cy : Nat → ClassId) (a_v : Nat) (a_v_ahead : Nat) (a_v_draft : Nat) (a_v_draft_facts : Nat) (a_v_draft_places : Nat) (a_v_tape : Nat) (a_v_tape_bytes : Nat) (v_aheadUsed : Int) (v_orderTold : Int) (v_startTold : Int) (v_lines : Int) (v_foundFault : Int) (v_foundPlace : Int) (v_next : Int) (v_token : Int) (v_tokenPlace : Int) (v_number : Int) (v_ahead : Nat → Int) (v_draft_boxes : Int) (v_draft_startsAt : Int) (v_draft_facts : Nat → Int) (v_draft_places : Nat → Int) (v_tape_used : Int) (v_tape_bytes : Nat → Int) : va_W := [(a_v, .inr (8, [.ref a_v_tape, .ref a_v_draft, .ref a_v_ahead, .int (zI v_aheadUsed), .int (zI v_orderTold), .int (zI v_startTold), .int (zI v_lines), .int (zI v_foundFault), .int (zI v_foundPlace), .int (zI v_next), .int (zI v_token), .int (zI v_tokenPlace), .int (zI v_number)])), (a_v_ahead, .inl (cy 0, 5, .inl (fun j => zI (v_ahead j)))), (a_v_draft, .inr (5, [.ref a_v_draft_facts, .ref a_v_draft_places, .int (zI v_draft_boxes), .int (zI v_draft_startsAt)])), (a_v_draft_facts, .inl (cy 0, 30, .inl (fun j => zI (v_draft_facts j)))), (a_v_draft_places, .inl (cy 0, 5, .inl (fun j => zI (v_draft_places j)))), (a_v_tape, .inr (7, [.ref a_v_tape_bytes, .int (zI v_tape_used)])), (a_v_tape_bytes, .inl (cy 1, 160, .inl (fun j => zI (v_tape_bytes j))))]
set_option maxHeartbeats 4000000 in
set_option maxRecDepth 100000 in
theorem c_X8_takesAll (l : Launch) (D : va_G) (cy : Nat → ClassId) (sa : Nat → Nat) (a_v : Nat) (a_v_ahead : Nat) (a_v_draft : Nat) (a_v_draft_facts : Nat) (a_v_draft_places : Nat) (a_v_tape : Nat) (a_v_tape_bytes : Nat) (v_aheadUsed : Int) (v_orderTold : Int) (v_startTold : Int) (v_lines : Int) (v_foundFault : Int) (v_foundPlace : Int) (v_next : Int) (v_token : Int) (v_tokenPlace : Int) (v_number : Int) (v_ahead : Nat → Int) (v_draft_boxes : Int) (v_draft_startsAt : Int) (v_draft_facts : Nat → Int) (v_draft_places : Nat → Int) (v_tape_used : Int) (v_tape_bytes : Nat → Int) (o : Int × Int × Int × Int × Int × Int × Int × Int × Int × Int × Int × (Nat → Int) × Int × Int × (Nat → Int) × (Nat → Int)) (h : f_TextReader_takesAll v_aheadUsed v_orderTold v_startTold v_lines v_foundFault v_foundPlace v_next v_token v_tokenPlace v_number v_ahead v_draft_boxes v_draft_startsAt v_draft_facts v_draft_places v_tape_used v_tape_bytes = some o) : CtI l yX8_takesAll wsX8_takesAll ({ frames := 8, cells := 0, slots := 0, locals := 173 }) D cy sa [.ref a_v] (wd_X8_takesAll cy a_v a_v_ahead a_v_draft a_v_draft_facts a_v_draft_places a_v_tape a_v_tape_bytes v_aheadUsed v_orderTold v_startTold v_lines v_foundFault v_foundPlace v_next v_token v_tokenPlace v_number v_ahead v_draft_boxes v_draft_startsAt v_draft_facts v_draft_places v_tape_used v_tape_bytes) (wd_X8_takesAll cy a_v a_v_ahead a_v_draft a_v_draft_facts a_v_draft_places a_v_tape a_v_tape_bytes o.2.1 o.2.2.1 o.2.2.2.1 o.2.2.2.2.1 o.2.2.2.2.2.1 o.2.2.2.2.2.2.1 o.2.2.2.2.2.2.2.1 o.2.2.2.2.2.2.2.2.1 o.2.2.2.2.2.2.2.2.2.1 o.2.2.2.2.2.2.2.2.2.2.1 o.2.2.2.2.2.2.2.2.2.2.2.1 o.2.2.2.2.2.2.2.2.2.2.2.2.1 o.2.2.2.2.2.2.2.2.2.2.2.2.2.1 o.2.2.2.2.2.2.2.2.2.2.2.2.2.2.1 o.2.2.2.2.2.2.2.2.2.2.2.2.2.2.2 v_tape_used v_tape_bytes) o.1 := by
  refine ct_Z (cc := cX8_takesAll) (maxL := 2) (plainFor_of_name (by decide)) rfl (Nat.le_of_ble_eq_true rfl) ?_
  intro p e s m below meth c A args QQ hx hb hml hown hts hE hDD hP KR ls hl
  have hl : lv_has ls 2 [(0, .ref a_v)] := hl
  have hDD : DD A [a_v, a_v_ahead, a_v_draft, a_v_draft_facts, a_v_draft_places, a_v_tape, a_v_tape_bytes] := hDD
  have hS : va_S A s.heap s.heap [] := va_S.rf
  have q0 := hts (.fieldLink RX8 48 "HatHours$TextReader" "tokenPlace" "I") (List.mem_of_getElem? (i := 3) rfl)
  have q1 := hts (.fieldLink RX8 45 "HatHours$TextReader" "token" "I") (List.mem_of_getElem? (i := 1) rfl)
  have q2 := hts (.fieldLink RX8 33 "HatHours$TextReader" "lines" "I") (List.mem_of_getElem? (i := 2) rfl)
  have iX8 : ∀ w ∈ u_ws RX8 TX8 13, w ∈ wsX8_takesAll := in_slice 199 13 rfl
  have L6 : ∀ (fuel : Nat) (v_aheadUsed : Int) (v_orderTold : Int) (v_startTold : Int) (v_lines : Int) (v_foundFault : Int) (v_foundPlace : Int) (v_next : Int) (v_token : Int) (v_tokenPlace : Int) (v_number : Int) (v_ahead : Nat → Int) (v_draft_boxes : Int) (v_draft_startsAt : Int) (v_draft_facts : Nat → Int) (v_draft_places : Nat → Int) (x1 : Int) (H : Heap) (locs : List Loc) (ls : Array Slot), va_P D vwCl (wd_X8_takesAll cy a_v a_v_ahead a_v_draft a_v_draft_facts a_v_draft_places a_v_tape a_v_tape_bytes v_aheadUsed v_orderTold v_startTold v_lines v_foundFault v_foundPlace v_next v_token v_tokenPlace v_number v_ahead v_draft_boxes v_draft_startsAt v_draft_facts v_draft_places v_tape_used v_tape_bytes) H → va_S A s.heap H locs → lv_has ls 2 [(0, .ref a_v), (1, .int (zI x1))] → f_TextReader_takesAll_L6 fuel v_aheadUsed v_orderTold v_startTold v_lines v_foundFault v_foundPlace v_next v_token v_tokenPlace v_number v_ahead v_draft_boxes v_draft_startsAt v_draft_facts v_draft_places v_tape_used v_tape_bytes x1 = some o → W p l e { frames := 8, cells := 0, slots := 0, locals := 173 } s m args below meth c H locs 0 0 QQ (F0 m 6 ls []) := by
    intro fuel
    induction fuel with
    | zero => intro _ _ _ _ _ _ _ _ _ _ _ _ _ _ _ _ H locs ls hP hS hl h; cases h
    | succ fuel ih =>
      intro v_aheadUsed v_orderTold v_startTold v_lines v_foundFault v_foundPlace v_next v_token v_tokenPlace v_number v_ahead v_draft_boxes v_draft_startsAt v_draft_facts v_draft_places x1 H locs ls hP hS hl h
      refine lv_iload_n hx hb dX8_takesAll_6 rfl (lv_at hl 1 rfl) ?_
      refine wi_si hx hb dX8_takesAll_7 (by decide) ?_
      obtain ⟨hr3, h⟩ := chk_some h
      refine wi_ic_gt (tgt := 59) hx hb dX8_takesAll_10 (by decide) hr3 (by decide) (fun c5 => ?_) (fun c5 => ?_)
      · have h := ite_t c5 h
        refine lv_aload_n hx hb dX8_takesAll_59 rfl (lv_at hl 0 rfl) ?_
        refine wi_ic hx hb dX8_takesAll_60 ?_
        refine lv_aload_n hx hb dX8_takesAll_61 rfl (lv_at hl 0 rfl) ?_
        refine wi_get (v := .int (zI v_tokenPlace)) hx hb hts iX8 hown hE hP 0 rfl rfl 11 (by decide) q0 rfl dX8_takesAll_62 ?_
        obtain ⟨o6, hc7, h⟩ := bnd_some h
        refine cV_i (rest := []) (w2 := (wd_X8_takesAll cy a_v a_v_ahead a_v_draft a_v_draft_facts a_v_draft_places a_v_tape a_v_tape_bytes v_aheadUsed v_orderTold v_startTold v_lines o6.2.1 o6.2.2 v_next v_token v_tokenPlace v_number v_ahead v_draft_boxes v_draft_startsAt v_draft_facts v_draft_places v_tape_used v_tape_bytes)) ⟨hx, hb, hml, hown, hts⟩ (c_X8_failed l D cy sa a_v a_v_tape a_v_draft a_v_ahead v_aheadUsed v_orderTold v_startTold v_lines v_foundFault v_foundPlace v_next v_token v_tokenPlace v_number 2 v_tokenPlace o6 hc7) (cwV 2 hts gX8_takesAll_X8_failed rfl rfl rfl (by decide +kernel) ⟨Nat.le_of_ble_eq_true rfl, Nat.le_of_ble_eq_true rfl⟩) rfl rfl rfl hE hP hDD rfl hS [0] rfl rfl rfl rfl hl.1 (Nat.le_of_ble_eq_true rfl) ⟨Nat.zero_le _, Nat.zero_le _⟩ rfl dX8_takesAll_65 rfl (fun H locs hP hS => ?_)
        obtain ⟨hk8, h⟩ := chk_some h
        obtain rfl := Option.some.inj h
        exact KR _ _ _ _ (z01 hk8) hP hS dX8_takesAll_68
      · have h := ite_f c5 h
        refine lv_aload_n hx hb dX8_takesAll_13 rfl (lv_at hl 0 rfl) ?_
        obtain ⟨o9, hc10, h⟩ := bnd_some h
        refine cV_i (rest := []) (w2 := (wd_X8_takesAll cy a_v a_v_ahead a_v_draft a_v_draft_facts a_v_draft_places a_v_tape a_v_tape_bytes v_aheadUsed v_orderTold v_startTold v_lines o9.2.1 o9.2.2.1 o9.2.2.2.1 o9.2.2.2.2.1 o9.2.2.2.2.2.1 o9.2.2.2.2.2.2 v_ahead v_draft_boxes v_draft_startsAt v_draft_facts v_draft_places v_tape_used v_tape_bytes)) ⟨hx, hb, hml, hown, hts⟩ (c_X8_takesToken l D cy sa a_v a_v_tape a_v_tape_bytes a_v_draft a_v_ahead v_aheadUsed v_orderTold v_startTold v_lines v_foundFault v_foundPlace v_next v_token v_tokenPlace v_number v_tape_used v_tape_bytes o9 hc10) (cwV 0 hts gX8_takesAll_X8_takesToken rfl rfl rfl (by decide +kernel) ⟨Nat.le_of_ble_eq_true rfl, Nat.le_of_ble_eq_true rfl⟩) rfl rfl rfl hE hP hDD rfl hS [0, 5, 6] rfl rfl rfl rfl hl.1 (Nat.le_of_ble_eq_true rfl) ⟨Nat.zero_le _, Nat.zero_le _⟩ rfl dX8_takesAll_14 rfl (fun H locs hP hS => ?_)
        obtain ⟨hr11, h⟩ := chk_some h
        refine wi_if_ne (tgt := 22) hx hb dX8_takesAll_17 (by decide) hr11 (fun c13 => ?_) (fun c13 => ?_)
        · have h := ite_f c13 h
          refine lv_aload_n hx hb dX8_takesAll_22 rfl (lv_at hl 0 rfl) ?_
          refine wi_get (v := .int (zI o9.2.2.2.2.1)) hx hb hts iX8 hown hE hP 0 rfl rfl 10 (by decide) q1 rfl dX8_takesAll_23 ?_
          obtain ⟨hr14, h⟩ := chk_some h
          refine wi_if_ne (tgt := 34) hx hb dX8_takesAll_26 (by decide) hr14 (fun c16 => ?_) (fun c16 => ?_)
          · have h := ite_f c16 h
            refine lv_aload_n hx hb dX8_takesAll_34 rfl (lv_at hl 0 rfl) ?_
            obtain ⟨o17, hc18, h⟩ := bnd_some h
            refine cV_i (rest := []) (w2 := (wd_X8_takesAll cy a_v a_v_ahead a_v_draft a_v_draft_facts a_v_draft_places a_v_tape a_v_tape_bytes o17.2.1 o17.2.2.1 o17.2.2.2.1 v_lines o17.2.2.2.2.1 o17.2.2.2.2.2.1 o17.2.2.2.2.2.2.1 o17.2.2.2.2.2.2.2.1 o17.2.2.2.2.2.2.2.2.1 o17.2.2.2.2.2.2.2.2.2.1 o17.2.2.2.2.2.2.2.2.2.2.1 o17.2.2.2.2.2.2.2.2.2.2.2.1 o17.2.2.2.2.2.2.2.2.2.2.2.2.1 o17.2.2.2.2.2.2.2.2.2.2.2.2.2.1 o17.2.2.2.2.2.2.2.2.2.2.2.2.2.2 v_tape_used v_tape_bytes)) ⟨hx, hb, hml, hown, hts⟩ (c_X8_takesLine l D cy sa a_v a_v_ahead a_v_draft a_v_draft_facts a_v_draft_places a_v_tape a_v_tape_bytes v_aheadUsed v_orderTold v_startTold v_lines o9.2.1 o9.2.2.1 o9.2.2.2.1 o9.2.2.2.2.1 o9.2.2.2.2.2.1 o9.2.2.2.2.2.2 v_ahead v_draft_boxes v_draft_startsAt v_draft_facts v_draft_places v_tape_used v_tape_bytes o17 hc18) (cwV 0 hts gX8_takesAll_X8_takesLine rfl rfl rfl (by decide +kernel) ⟨Nat.le_of_ble_eq_true rfl, Nat.le_of_ble_eq_true rfl⟩) rfl rfl rfl hE hP hDD rfl hS [0, 1, 2, 3, 4, 5, 6] rfl rfl rfl rfl hl.1 (Nat.le_of_ble_eq_true rfl) ⟨Nat.zero_le _, Nat.zero_le _⟩ rfl dX8_takesAll_35 rfl (fun H locs hP hS => ?_)
            obtain ⟨hr19, h⟩ := chk_some h
            refine wi_if_ne (tgt := 43) hx hb dX8_takesAll_38 (by decide) hr19 (fun c21 => ?_) (fun c21 => ?_)
            · have h := ite_f c21 h
              refine lv_aload_n hx hb dX8_takesAll_43 rfl (lv_at hl 0 rfl) ?_
              refine lv_dup hx hb dX8_takesAll_44 rfl ?_
              refine wi_get (v := .int (zI v_lines)) hx hb hts iX8 hown hE hP 0 rfl rfl 6 (by decide) q2 rfl dX8_takesAll_45 ?_
              refine wi_ic hx hb dX8_takesAll_48 ?_
              refine wi_iadd hx hb dX8_takesAll_49 ?_
              refine wi_put (ty := .int) (v := .int (zI (v_lines + 1))) (w2 := (wd_X8_takesAll cy a_v a_v_ahead a_v_draft a_v_draft_facts a_v_draft_places a_v_tape a_v_tape_bytes o17.2.1 o17.2.2.1 o17.2.2.2.1 (v_lines + 1) o17.2.2.2.2.1 o17.2.2.2.2.2.1 o17.2.2.2.2.2.2.1 o17.2.2.2.2.2.2.2.1 o17.2.2.2.2.2.2.2.2.1 o17.2.2.2.2.2.2.2.2.2.1 o17.2.2.2.2.2.2.2.2.2.2.1 o17.2.2.2.2.2.2.2.2.2.2.2.1 o17.2.2.2.2.2.2.2.2.2.2.2.2.1 o17.2.2.2.2.2.2.2.2.2.2.2.2.2.1 o17.2.2.2.2.2.2.2.2.2.2.2.2.2.2 v_tape_used v_tape_bytes)) hx hb hts iX8 tyX8 tyX8_ok nmX8 hown hE hP hDD rfl hS 0 rfl rfl 6 (by decide) q2 rfl (by decide +kernel) rfl rfl (Nat.le_of_ble_eq_true rfl) dX8_takesAll_50 rfl (fun H locs hP hS => ?_)
              refine wi_iinc (k := 1) (lv' := [(1, .int (zI (x1 + 1))), (0, .ref a_v)]) hx hb dX8_takesAll_53 hl rfl (by decide) rfl (fun ls hl => ?_)
              refine lv_goto (tgt := 6) hx hb dX8_takesAll_56 (by decide) ?_
              exact ih o17.2.1 o17.2.2.1 o17.2.2.2.1 (v_lines + 1) o17.2.2.2.2.1 o17.2.2.2.2.2.1 o17.2.2.2.2.2.2.1 o17.2.2.2.2.2.2.2.1 o17.2.2.2.2.2.2.2.2.1 o17.2.2.2.2.2.2.2.2.2.1 o17.2.2.2.2.2.2.2.2.2.2.1 o17.2.2.2.2.2.2.2.2.2.2.2.1 o17.2.2.2.2.2.2.2.2.2.2.2.2.1 o17.2.2.2.2.2.2.2.2.2.2.2.2.2.1 o17.2.2.2.2.2.2.2.2.2.2.2.2.2.2 (x1 + 1) _ _ _ hP hS (lv_sub hl [1, 0] rfl) h
            · have h := ite_t c21 h
              refine wi_ic hx hb dX8_takesAll_41 ?_
              obtain rfl := Option.some.inj h
              exact KR _ _ _ _ (z01 (Or.inl rfl)) hP hS dX8_takesAll_42
          · have h := ite_t c16 h
            refine lv_aload_n hx hb dX8_takesAll_29 rfl (lv_at hl 0 rfl) ?_
            obtain ⟨o22, hc23, h⟩ := bnd_some h
            refine cV_i (rest := []) (w2 := (wd_X8_takesAll cy a_v a_v_ahead a_v_draft a_v_draft_facts a_v_draft_places a_v_tape a_v_tape_bytes v_aheadUsed v_orderTold v_startTold v_lines o22.2.1 o22.2.2.1 o9.2.2.2.1 o9.2.2.2.2.1 o9.2.2.2.2.2.1 o9.2.2.2.2.2.2 v_ahead v_draft_boxes v_draft_startsAt v_draft_facts o22.2.2.2 v_tape_used v_tape_bytes)) ⟨hx, hb, hml, hown, hts⟩ (c_X8_takesOrder l D cy sa a_v a_v_ahead a_v_draft a_v_draft_places a_v_tape a_v_draft_facts a_v_tape_bytes v_aheadUsed v_orderTold v_startTold v_lines o9.2.1 o9.2.2.1 o9.2.2.2.1 o9.2.2.2.2.1 o9.2.2.2.2.2.1 o9.2.2.2.2.2.2 v_ahead v_draft_boxes v_draft_startsAt v_draft_places v_tape_used o22 hc23) (cwV 0 hts gX8_takesAll_X8_takesOrder rfl rfl rfl (by decide +kernel) ⟨Nat.le_of_ble_eq_true rfl, Nat.le_of_ble_eq_true rfl⟩) rfl rfl rfl hE hP hDD rfl hS [0, 1, 2, 4, 5] rfl rfl rfl rfl hl.1 (Nat.le_of_ble_eq_true rfl) ⟨Nat.zero_le _, Nat.zero_le _⟩ rfl dX8_takesAll_30 rfl (fun H locs hP hS => ?_)
            obtain ⟨hk24, h⟩ := chk_some h
            obtain rfl := Option.some.inj h
            exact KR _ _ _ _ (z01 hk24) hP hS dX8_takesAll_33
        · have h := ite_t c13 h
          refine wi_ic hx hb dX8_takesAll_20 ?_
          obtain rfl := Option.some.inj h
          exact KR _ _ _ _ (z01 (Or.inl rfl)) hP hS dX8_takesAll_21
  refine lv_aload_n hx hb dX8_takesAll_0 rfl (lv_at hl 0 rfl) ?_
  obtain ⟨o1, hc2, h⟩ := bnd_some h
  refine cV_v (rest := []) (w2 := (wd_X8_takesAll cy a_v a_v_ahead a_v_draft a_v_draft_facts a_v_draft_places a_v_tape a_v_tape_bytes o1.1 o1.2.1 o1.2.2.1 o1.2.2.2.1 o1.2.2.2.2.1 o1.2.2.2.2.2.1 o1.2.2.2.2.2.2.1 v_token v_tokenPlace v_number v_ahead o1.2.2.2.2.2.2.2.1 o1.2.2.2.2.2.2.2.2 v_draft_facts v_draft_places v_tape_used v_tape_bytes)) ⟨hx, hb, hml, hown, hts⟩ (c_X8_beginAnew l D cy sa a_v a_v_draft a_v_tape a_v_ahead a_v_draft_facts a_v_draft_places v_aheadUsed v_orderTold v_startTold v_lines v_foundFault v_foundPlace v_next v_token v_tokenPlace v_number v_draft_boxes v_draft_startsAt o1 hc2) (cwV 0 hts gX8_takesAll_X8_beginAnew rfl rfl rfl (by decide +kernel) ⟨Nat.le_of_ble_eq_true rfl, Nat.le_of_ble_eq_true rfl⟩) rfl rfl rfl hE hP hDD rfl hS [0, 2] rfl rfl rfl rfl hl.1 (Nat.le_of_ble_eq_true rfl) ⟨Nat.zero_le _, Nat.zero_le _⟩ rfl dX8_takesAll_1 rfl (fun H locs hP hS => ?_)
  refine wi_ic hx hb dX8_takesAll_4 ?_
  refine lv_istore_n (lv' := [(1, .int (zI 0)), (0, .ref a_v)]) hx hb dX8_takesAll_5 rfl hl (by decide) rfl (fun ls hl => ?_)
  exact L6 5000 o1.1 o1.2.1 o1.2.2.1 o1.2.2.2.1 o1.2.2.2.2.1 o1.2.2.2.2.2.1 o1.2.2.2.2.2.2.1 v_token v_tokenPlace v_number v_ahead o1.2.2.2.2.2.2.2.1 o1.2.2.2.2.2.2.2.2 v_draft_facts v_draft_places 0 _ _ _ hP hS (lv_sub hl [1, 0] rfl) h
