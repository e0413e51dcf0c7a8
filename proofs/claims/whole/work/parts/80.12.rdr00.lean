abbrev wd_X8_beginAnew (cy : Nat → ClassId) (a_v : Nat) (a_v_draft : Nat) (a_v_tape : Nat) (a_v_ahead : Nat) (a_v_draft_facts : Nat) (a_v_draft_places : Nat) (v_aheadUsed : Int) (v_orderTold : Int) (v_startTold : Int) (v_lines : Int) (v_foundFault : Int) (v_foundPlace : Int) (v_next : Int) (v_token : Int) (v_tokenPlace : Int) (v_number : Int) (v_draft_boxes : Int) (v_draft_startsAt : Int) : va_W := [(a_v, .inr (8, [.ref a_v_tape, .ref a_v_draft, .ref a_v_ahead, .int (zI v_aheadUsed), .int (zI v_orderTold), .int (zI v_startTold), .int (zI v_lines), .int (zI v_foundFault), .int (zI v_foundPlace), .int (zI v_next), .int (zI v_token), .int (zI v_tokenPlace), .int (zI v_number)])), (a_v_draft, .inr (5, [.ref a_v_draft_facts, .ref a_v_draft_places, .int (zI v_draft_boxes), .int (zI v_draft_startsAt)]))]
set_option maxHeartbeats 4000000 in
set_option maxRecDepth 100000 in
theorem c_X8_beginAnew (l : Launch) (D : va_G) (cy : Nat → ClassId) (sa : Nat → Nat) (a_v : Nat) (a_v_draft : Nat) (a_v_tape : Nat) (a_v_ahead : Nat) (a_v_draft_facts : Nat) (a_v_draft_places : Nat) (v_aheadUsed : Int) (v_orderTold : Int) (v_startTold : Int) (v_lines : Int) (v_foundFault : Int) (v_foundPlace : Int) (v_next : Int) (v_token : Int) (v_tokenPlace : Int) (v_number : Int) (v_draft_boxes : Int) (v_draft_startsAt : Int) (o : Int × Int × Int × Int × Int × Int × Int × Int × Int) (h : f_TextReader_beginAnew v_aheadUsed v_orderTold v_startTold v_lines v_foundFault v_foundPlace v_next v_draft_boxes v_draft_startsAt = some o) : CtV l yX8_beginAnew wsX8_beginAnew ({ frames := 1, cells := 0, slots := 0, locals := 20 }) D cy sa [.ref a_v] (wd_X8_beginAnew cy a_v a_v_draft a_v_tape a_v_ahead a_v_draft_facts a_v_draft_places v_aheadUsed v_orderTold v_startTold v_lines v_foundFault v_foundPlace v_next v_token v_tokenPlace v_number v_draft_boxes v_draft_startsAt) (wd_X8_beginAnew cy a_v a_v_draft a_v_tape a_v_ahead a_v_draft_facts a_v_draft_places o.1 o.2.1 o.2.2.1 o.2.2.2.1 o.2.2.2.2.1 o.2.2.2.2.2.1 o.2.2.2.2.2.2.1 v_token v_tokenPlace v_number o.2.2.2.2.2.2.2.1 o.2.2.2.2.2.2.2.2)  := by
  refine ct_V (cc := cX8_beginAnew) (maxL := 1) (plainFor_of_name (by decide)) rfl (Nat.le_of_ble_eq_true rfl) ?_
  intro p e s m below meth c A args QQ hx hb hml hown hts hE hDD hP KR ls hl
  have hl : lv_has ls 1 [(0, .ref a_v)] := hl
  have hDD : DD A [a_v, a_v_draft] := hDD
  have hS : va_S A s.heap s.heap [] := va_S.rf
  have q0 := hts (.fieldLink RX8 12 "HatHours$TextReader" "draft" "LHatHours$Shop;") (List.mem_of_getElem? (i := 1) rfl)
  have q1 := hts (.fieldLink RX8 22 "HatHours$TextReader" "aheadUsed" "I") (List.mem_of_getElem? (i := 2) rfl)
  have q2 := hts (.fieldLink RX8 26 "HatHours$TextReader" "orderTold" "Z") (List.mem_of_getElem? (i := 3) rfl)
  have q3 := hts (.fieldLink RX8 30 "HatHours$TextReader" "startTold" "Z") (List.mem_of_getElem? (i := 4) rfl)
  have q4 := hts (.fieldLink RX8 33 "HatHours$TextReader" "lines" "I") (List.mem_of_getElem? (i := 5) rfl)
  have q5 := hts (.fieldLink RX8 36 "HatHours$TextReader" "foundFault" "I") (List.mem_of_getElem? (i := 6) rfl)
  have q6 := hts (.fieldLink RX8 39 "HatHours$TextReader" "foundPlace" "I") (List.mem_of_getElem? (i := 7) rfl)
  have q7 := hts (.fieldLink RX8 42 "HatHours$TextReader" "next" "I") (List.mem_of_getElem? (i := 8) rfl)
  have iX8 : ∀ w ∈ u_ws RX8 TX8 13, w ∈ wsX8_beginAnew := in_slice 16 13 rfl
  refine lv_aload_n hx hb dX8_beginAnew_0 rfl (lv_at hl 0 rfl) ?_
  refine wi_get (v := .ref a_v_draft) hx hb hts iX8 hown hE hP 0 rfl rfl 1 (by decide) q0 rfl dX8_beginAnew_1 ?_
  obtain ⟨o1, hc2, h⟩ := bnd_some h
  refine cV_v (rest := []) (w2 := (wd_X8_beginAnew cy a_v a_v_draft a_v_tape a_v_ahead a_v_draft_facts a_v_draft_places v_aheadUsed v_orderTold v_startTold v_lines v_foundFault v_foundPlace v_next v_token v_tokenPlace v_number o1.1 o1.2)) ⟨hx, hb, hml, hown, hts⟩ (c_X5_clear l D cy sa a_v_draft a_v_draft_facts a_v_draft_places v_draft_boxes v_draft_startsAt o1 hc2) (cwV 0 hts gX8_beginAnew_X5_clear rfl rfl rfl (by decide +kernel) ⟨Nat.le_of_ble_eq_true rfl, Nat.le_of_ble_eq_true rfl⟩) rfl rfl rfl hE hP hDD rfl hS [1] rfl rfl rfl rfl hl.1 (Nat.le_of_ble_eq_true rfl) ⟨Nat.zero_le _, Nat.zero_le _⟩ rfl dX8_beginAnew_4 rfl (fun H locs hP hS => ?_)
  refine lv_aload_n hx hb dX8_beginAnew_7 rfl (lv_at hl 0 rfl) ?_
  refine wi_ic hx hb dX8_beginAnew_8 ?_
  refine wi_put (ty := .int) (v := .int (zI 0)) (w2 := (wd_X8_beginAnew cy a_v a_v_draft a_v_tape a_v_ahead a_v_draft_facts a_v_draft_places 0 v_orderTold v_startTold v_lines v_foundFault v_foundPlace v_next v_token v_tokenPlace v_number o1.1 o1.2)) hx hb hts iX8 tyX8 tyX8_ok nmX8 hown hE hP hDD rfl hS 0 rfl rfl 3 (by decide) q1 rfl (by decide +kernel) rfl rfl (Nat.le_of_ble_eq_true rfl) dX8_beginAnew_9 rfl (fun H locs hP hS => ?_)
  refine lv_aload_n hx hb dX8_beginAnew_12 rfl (lv_at hl 0 rfl) ?_
  refine wi_ic hx hb dX8_beginAnew_13 ?_
  refine wi_put (ty := .boolean) (v := .int (zI 0)) (w2 := (wd_X8_beginAnew cy a_v a_v_draft a_v_tape a_v_ahead a_v_draft_facts a_v_draft_places 0 0 v_startTold v_lines v_foundFault v_foundPlace v_next v_token v_tokenPlace v_number o1.1 o1.2)) hx hb hts iX8 tyX8 tyX8_ok nmX8 hown hE hP hDD rfl hS 0 rfl rfl 4 (by decide) q2 rfl (by decide +kernel) rfl rfl (Nat.le_of_ble_eq_true rfl) dX8_beginAnew_14 rfl (fun H locs hP hS => ?_)
  refine lv_aload_n hx hb dX8_beginAnew_17 rfl (lv_at hl 0 rfl) ?_
  refine wi_ic hx hb dX8_beginAnew_18 ?_
  refine wi_put (ty := .boolean) (v := .int (zI 0)) (w2 := (wd_X8_beginAnew cy a_v a_v_draft a_v_tape a_v_ahead a_v_draft_facts a_v_draft_places 0 0 0 v_lines v_foundFault v_foundPlace v_next v_token v_tokenPlace v_number o1.1 o1.2)) hx hb hts iX8 tyX8 tyX8_ok nmX8 hown hE hP hDD rfl hS 0 rfl rfl 5 (by decide) q3 rfl (by decide +kernel) rfl rfl (Nat.le_of_ble_eq_true rfl) dX8_beginAnew_19 rfl (fun H locs hP hS => ?_)
  refine lv_aload_n hx hb dX8_beginAnew_22 rfl (lv_at hl 0 rfl) ?_
  refine wi_ic hx hb dX8_beginAnew_23 ?_
  refine wi_put (ty := .int) (v := .int (zI 0)) (w2 := (wd_X8_beginAnew cy a_v a_v_draft a_v_tape a_v_ahead a_v_draft_facts a_v_draft_places 0 0 0 0 v_foundFault v_foundPlace v_next v_token v_tokenPlace v_number o1.1 o1.2)) hx hb hts iX8 tyX8 tyX8_ok nmX8 hown hE hP hDD rfl hS 0 rfl rfl 6 (by decide) q4 rfl (by decide +kernel) rfl rfl (Nat.le_of_ble_eq_true rfl) dX8_beginAnew_24 rfl (fun H locs hP hS => ?_)
  refine lv_aload_n hx hb dX8_beginAnew_27 rfl (lv_at hl 0 rfl) ?_
  refine wi_ic hx hb dX8_beginAnew_28 ?_
  refine wi_put (ty := .int) (v := .int (zI 0)) (w2 := (wd_X8_beginAnew cy a_v a_v_draft a_v_tape a_v_ahead a_v_draft_facts a_v_draft_places 0 0 0 0 0 v_foundPlace v_next v_token v_tokenPlace v_number o1.1 o1.2)) hx hb hts iX8 tyX8 tyX8_ok nmX8 hown hE hP hDD rfl hS 0 rfl rfl 7 (by decide) q5 rfl (by decide +kernel) rfl rfl (Nat.le_of_ble_eq_true rfl) dX8_beginAnew_29 rfl (fun H locs hP hS => ?_)
  refine lv_aload_n hx hb dX8_beginAnew_32 rfl (lv_at hl 0 rfl) ?_
  refine wi_ic hx hb dX8_beginAnew_33 ?_
  refine wi_put (ty := .int) (v := .int (zI 0)) (w2 := (wd_X8_beginAnew cy a_v a_v_draft a_v_tape a_v_ahead a_v_draft_facts a_v_draft_places 0 0 0 0 0 0 v_next v_token v_tokenPlace v_number o1.1 o1.2)) hx hb hts iX8 tyX8 tyX8_ok nmX8 hown hE hP hDD rfl hS 0 rfl rfl 8 (by decide) q6 rfl (by decide +kernel) rfl rfl (Nat.le_of_ble_eq_true rfl) dX8_beginAnew_34 rfl (fun H locs hP hS => ?_)
  refine lv_aload_n hx hb dX8_beginAnew_37 rfl (lv_at hl 0 rfl) ?_
  refine wi_ic hx hb dX8_beginAnew_38 ?_
  refine wi_put (ty := .int) (v := .int (zI 0)) (w2 := (wd_X8_beginAnew cy a_v a_v_draft a_v_tape a_v_ahead a_v_draft_facts a_v_draft_places 0 0 0 0 0 0 0 v_token v_tokenPlace v_number o1.1 o1.2)) hx hb hts iX8 tyX8 tyX8_ok nmX8 hown hE hP hDD rfl hS 0 rfl rfl 9 (by decide) q7 rfl (by decide +kernel) rfl rfl (Nat.le_of_ble_eq_true rfl) dX8_beginAnew_39 rfl (fun H locs hP hS => ?_)
  obtain rfl := Option.some.inj h
  exact KR _ _ _ _ hP hS dX8_beginAnew_42
abbrev wd_X8_isLetter (cy : Nat → ClassId) : va_W := []
set_option maxHeartbeats 4000000 in
set_option maxRecDepth 100000 in
theorem c_X8_isLetter (l : Launch) (D : va_G) (cy : Nat → ClassId) (sa : Nat → Nat) (x0 : Int) (o : Int) (h : f_TextReader_isLetter x0 = some o) : CtI l yX8_isLetter wsX8_isLetter ({ frames := 0, cells := 0, slots := 0, locals := 0 }) D cy sa [.int (zI x0)] (wd_X8_isLetter cy ) (wd_X8_isLetter cy ) o := by
  refine ct_Z (cc := cX8_isLetter) (maxL := 1) (plainFor_of_name (by decide)) rfl (Nat.le_of_ble_eq_true rfl) ?_
  intro p e s m below meth c A args QQ hx hb hml hown hts hE hDD hP KR ls hl
  have hl : lv_has ls 1 [(0, .int (zI x0))] := hl
  have hDD : DD A [] := hDD
  have hS : va_S A s.heap s.heap [] := va_S.rf
  refine lv_iload_n hx hb dX8_isLetter_0 rfl (lv_at hl 0 rfl) ?_
  refine wi_bi hx hb dX8_isLetter_1 (by decide) ?_
  obtain ⟨hr1, h⟩ := chk_some h
  refine wi_ic_lt (tgt := 16) hx hb dX8_isLetter_3 (by decide) hr1 (by decide) (fun c3 => ?_) (fun c3 => ?_)
  · have h := ite_t c3 h
    refine wi_ic hx hb dX8_isLetter_16 ?_
    obtain rfl := Option.some.inj h
    exact KR _ _ _ _ (z01 (Or.inl rfl)) hP hS dX8_isLetter_17
  · have h := ite_f c3 h
    refine lv_iload_n hx hb dX8_isLetter_6 rfl (lv_at hl 0 rfl) ?_
    refine wi_bi hx hb dX8_isLetter_7 (by decide) ?_
    refine wi_ic_gt (tgt := 16) hx hb dX8_isLetter_9 (by decide) hr1 (by decide) (fun c5 => ?_) (fun c5 => ?_)
    · have h := ite_t c5 h
      refine wi_ic hx hb dX8_isLetter_16 ?_
      obtain rfl := Option.some.inj h
      exact KR _ _ _ _ (z01 (Or.inl rfl)) hP hS dX8_isLetter_17
    · have h := ite_f c5 h
      refine wi_ic hx hb dX8_isLetter_12 ?_
      refine lv_goto (tgt := 17) hx hb dX8_isLetter_13 (by decide) ?_
      obtain rfl := Option.some.inj h
      exact KR _ _ _ _ (z01 (Or.inr rfl)) hP hS dX8_isLetter_17
abbrev wd_X8_passName (cy : Nat → ClassId) (a_v : Nat) (a_v_tape : Nat) (a_v_tape_bytes : Nat) (a_v_draft : Nat) (a_v_ahead : Nat) (v_aheadUsed : Int) (v_orderTold : Int) (v_startTold : Int) (v_lines : Int) (v_foundFault : Int) (v_foundPlace : Int) (v_next : Int) (v_token : Int) (v_tokenPlace : Int) (v_number : Int) (v_tape_used : Int) (v_tape_bytes : Nat → Int) : va_W := [(a_v, .inr (8, [.ref a_v_tape, .ref a_v_draft, .ref a_v_ahead, .int (zI v_aheadUsed), .int (zI v_orderTold), .int (zI v_startTold), .int (zI v_lines), .int (zI v_foundFault), .int (zI v_foundPlace), .int (zI v_next), .int (zI v_token), .int (zI v_tokenPlace), .int (zI v_number)])), (a_v_tape, .inr (7, [.ref a_v_tape_bytes, .int (zI v_tape_used)])), (a_v_tape_bytes, .inl (cy 1, 160, .inl (fun j => zI (v_tape_bytes j))))]
set_option maxHeartbeats 4000000 in
set_option maxRecDepth 100000 in
theorem c_X8_passName (l : Launch) (D : va_G) (cy : Nat → ClassId) (sa : Nat → Nat) (a_v : Nat) (a_v_tape : Nat) (a_v_tape_bytes : Nat) (a_v_draft : Nat) (a_v_ahead : Nat) (v_aheadUsed : Int) (v_orderTold : Int) (v_startTold : Int) (v_lines : Int) (v_foundFault : Int) (v_foundPlace : Int) (v_next : Int) (v_token : Int) (v_tokenPlace : Int) (v_number : Int) (v_tape_used : Int) (v_tape_bytes : Nat → Int) (o : Int) (h : f_TextReader_passName v_next v_tape_used v_tape_bytes = some o) : CtV l yX8_passName wsX8_passName ({ frames := 1, cells := 0, slots := 0, locals := 21 }) D cy sa [.ref a_v] (wd_X8_passName cy a_v a_v_tape a_v_tape_bytes a_v_draft a_v_ahead v_aheadUsed v_orderTold v_startTold v_lines v_foundFault v_foundPlace v_next v_token v_tokenPlace v_number v_tape_used v_tape_bytes) (wd_X8_passName cy a_v a_v_tape a_v_tape_bytes a_v_draft a_v_ahead v_aheadUsed v_orderTold v_startTold v_lines v_foundFault v_foundPlace o v_token v_tokenPlace v_number v_tape_used v_tape_bytes)  := by
  refine ct_V (cc := cX8_passName) (maxL := 1) (plainFor_of_name (by decide)) rfl (Nat.le_of_ble_eq_true rfl) ?_
  intro p e s m below meth c A args QQ hx hb hml hown hts hE hDD hP KR ls hl
  have hl : lv_has ls 1 [(0, .ref a_v)] := hl
  have hDD : DD A [a_v, a_v_tape, a_v_tape_bytes] := hDD
  have hS : va_S A s.heap s.heap [] := va_S.rf
  have q0 := hts (.fieldLink RX8 42 "HatHours$TextReader" "next" "I") (List.mem_of_getElem? (i := 1) rfl)
  have q1 := hts (.fieldLink RX8 54 "HatHours$TextReader" "tape" "LHatHours$Tape;") (List.mem_of_getElem? (i := 2) rfl)
  have iX8 : ∀ w ∈ u_ws RX8 TX8 13, w ∈ wsX8_passName := in_slice 18 13 rfl
  have L0 : ∀ (fuel : Nat) (v_next : Int) (H : Heap) (locs : List Loc) (ls : Array Slot) (ex : Int), va_P D vwCl (wd_X8_passName cy a_v a_v_tape a_v_tape_bytes a_v_draft a_v_ahead v_aheadUsed v_orderTold v_startTold v_lines v_foundFault v_foundPlace v_next v_token v_tokenPlace v_number v_tape_used v_tape_bytes) H → va_S A s.heap H locs → lv_has ls 1 [(0, .ref a_v)] → f_TextReader_passName_L0 fuel v_next v_tape_used v_tape_bytes = some ex → (∀ (H : Heap) (locs : List Loc) (ls : Array Slot), va_P D vwCl (wd_X8_passName cy a_v a_v_tape a_v_tape_bytes a_v_draft a_v_ahead v_aheadUsed v_orderTold v_startTold v_lines v_foundFault v_foundPlace ex v_token v_tokenPlace v_number v_tape_used v_tape_bytes) H → va_S A s.heap H locs → lv_has ls 1 [] → W p l e { frames := 1, cells := 0, slots := 0, locals := 21 } s m args below meth c H locs 0 0 QQ (F0 m 44 ls [])) → W p l e { frames := 1, cells := 0, slots := 0, locals := 21 } s m args below meth c H locs 0 0 QQ (F0 m 0 ls []) := by
    intro fuel
    induction fuel with
    | zero => intro _ H locs ls ex hP hS hl h K; cases h
    | succ fuel ih =>
      intro v_next H locs ls ex hP hS hl h K
      refine lv_aload_n hx hb dX8_passName_0 rfl (lv_at hl 0 rfl) ?_
      refine wi_get (v := .int (zI v_next)) hx hb hts iX8 hown hE hP 0 rfl rfl 9 (by decide) q0 rfl dX8_passName_1 ?_
      refine lv_aload_n hx hb dX8_passName_4 rfl (lv_at hl 0 rfl) ?_
      refine wi_get (v := .ref a_v_tape) hx hb hts iX8 hown hE hP 0 rfl rfl 0 (by decide) q1 rfl dX8_passName_5 ?_
      obtain ⟨o1, hc2, h⟩ := bnd_some h
      refine cV_i (rest := [.int (zI v_next)]) (w2 := (wd_X8_passName cy a_v a_v_tape a_v_tape_bytes a_v_draft a_v_ahead v_aheadUsed v_orderTold v_startTold v_lines v_foundFault v_foundPlace v_next v_token v_tokenPlace v_number v_tape_used v_tape_bytes)) ⟨hx, hb, hml, hown, hts⟩ (c_X7_size l D cy sa a_v_tape a_v_tape_bytes v_tape_used o1 hc2) (cwV 0 hts gX8_passName_X7_size rfl rfl rfl (by decide +kernel) ⟨Nat.le_of_ble_eq_true rfl, Nat.le_of_ble_eq_true rfl⟩) rfl rfl rfl hE hP hDD rfl hS [1] rfl rfl rfl rfl hl.1 (Nat.le_of_ble_eq_true rfl) ⟨Nat.zero_le _, Nat.zero_le _⟩ rfl dX8_passName_8 rfl (fun H locs hP hS => ?_)
      obtain ⟨hr3, h⟩ := chk_some h
      obtain ⟨hr4, h⟩ := chk_some h
      refine wi_ic_ge (tgt := 44) hx hb dX8_passName_11 (by decide) hr3 hr4 (fun c6 => ?_) (fun c6 => ?_)
      · have h := ite_t c6 h
        obtain rfl := Option.some.inj h
        exact K _ _ _ hP hS (lv_sub hl [] rfl)
      · have h := ite_f c6 h
        refine lv_aload_n hx hb dX8_passName_14 rfl (lv_at hl 0 rfl) ?_
        refine wi_get (v := .ref a_v_tape) hx hb hts iX8 hown hE hP 0 rfl rfl 0 (by decide) q1 rfl dX8_passName_15 ?_
        refine lv_aload_n hx hb dX8_passName_18 rfl (lv_at hl 0 rfl) ?_
        refine wi_get (v := .int (zI v_next)) hx hb hts iX8 hown hE hP 0 rfl rfl 9 (by decide) q0 rfl dX8_passName_19 ?_
        obtain ⟨o7, hc8, h⟩ := bnd_some h
        refine cV_i (rest := []) (w2 := (wd_X8_passName cy a_v a_v_tape a_v_tape_bytes a_v_draft a_v_ahead v_aheadUsed v_orderTold v_startTold v_lines v_foundFault v_foundPlace v_next v_token v_tokenPlace v_number v_tape_used v_tape_bytes)) ⟨hx, hb, hml, hown, hts⟩ (c_X7_at l D cy sa a_v_tape a_v_tape_bytes v_tape_used v_tape_bytes v_next o7 hc8) (cwV 1 hts gX8_passName_X7_at rfl rfl rfl (by decide +kernel) ⟨Nat.le_of_ble_eq_true rfl, Nat.le_of_ble_eq_true rfl⟩) rfl rfl rfl hE hP hDD rfl hS [1, 2] rfl rfl rfl rfl hl.1 (Nat.le_of_ble_eq_true rfl) ⟨Nat.zero_le _, Nat.zero_le _⟩ rfl dX8_passName_22 rfl (fun H locs hP hS => ?_)
        obtain ⟨o9, hc10, h⟩ := bnd_some h
        refine cS_i (rest := []) (w2 := (wd_X8_passName cy a_v a_v_tape a_v_tape_bytes a_v_draft a_v_ahead v_aheadUsed v_orderTold v_startTold v_lines v_foundFault v_foundPlace v_next v_token v_tokenPlace v_number v_tape_used v_tape_bytes)) ⟨hx, hb, hml, hown, hts⟩ (c_X8_isLetter l D cy sa o7 o9 hc10) (va_cwS 1 hts gX8_passName_X8_isLetter rfl rfl rfl (by decide +kernel) ⟨Nat.le_of_ble_eq_true rfl, Nat.le_of_ble_eq_true rfl⟩) hE hP hDD rfl hS [] rfl rfl rfl rfl hl.1 (Nat.le_of_ble_eq_true rfl) ⟨Nat.zero_le _, Nat.zero_le _⟩ rfl dX8_passName_25 rfl (fun H locs hP hS => ?_)
        obtain ⟨hr11, h⟩ := chk_some h
        refine wi_if_eq (tgt := 44) hx hb dX8_passName_28 (by decide) hr11 (fun c13 => ?_) (fun c13 => ?_)
        · have h := ite_t c13 h
          obtain rfl := Option.some.inj h
          exact K _ _ _ hP hS (lv_sub hl [] rfl)
        · have h := ite_f c13 h
          refine lv_aload_n hx hb dX8_passName_31 rfl (lv_at hl 0 rfl) ?_
          refine lv_dup hx hb dX8_passName_32 rfl ?_
          refine wi_get (v := .int (zI v_next)) hx hb hts iX8 hown hE hP 0 rfl rfl 9 (by decide) q0 rfl dX8_passName_33 ?_
          refine wi_ic hx hb dX8_passName_36 ?_
          refine wi_iadd hx hb dX8_passName_37 ?_
          refine wi_put (ty := .int) (v := .int (zI (v_next + 1))) (w2 := (wd_X8_passName cy a_v a_v_tape a_v_tape_bytes a_v_draft a_v_ahead v_aheadUsed v_orderTold v_startTold v_lines v_foundFault v_foundPlace (v_next + 1) v_token v_tokenPlace v_number v_tape_used v_tape_bytes)) hx hb hts iX8 tyX8 tyX8_ok nmX8 hown hE hP hDD rfl hS 0 rfl rfl 9 (by decide) q0 rfl (by decide +kernel) rfl rfl (Nat.le_of_ble_eq_true rfl) dX8_passName_38 rfl (fun H locs hP hS => ?_)
          refine lv_goto (tgt := 0) hx hb dX8_passName_41 (by decide) ?_
          exact ih (v_next + 1) _ _ _ _ hP hS (lv_sub hl [0] rfl) h K
  obtain ⟨o14, hx15, h⟩ := bnd_some h
  refine L0 5000 v_next _ _ _ _ hP hS (lv_sub hl [0] rfl) hx15 ?_
  clear hx15
  intro H locs ls hP hS hl
  obtain rfl := Option.some.inj h
  exact KR _ _ _ _ hP hS dX8_passName_44
abbrev wd_X8_isFigure (cy : Nat → ClassId) : va_W := []
set_option maxHeartbeats 4000000 in
set_option maxRecDepth 100000 in
theorem c_X8_isFigure (l : Launch) (D : va_G) (cy : Nat → ClassId) (sa : Nat → Nat) (x0 : Int) (o : Int) (h : f_TextReader_isFigure x0 = some o) : CtI l yX8_isFigure wsX8_isFigure ({ frames := 0, cells := 0, slots := 0, locals := 0 }) D cy sa [.int (zI x0)] (wd_X8_isFigure cy ) (wd_X8_isFigure cy ) o := by
  refine ct_Z (cc := cX8_isFigure) (maxL := 1) (plainFor_of_name (by decide)) rfl (Nat.le_of_ble_eq_true rfl) ?_
  intro p e s m below meth c A args QQ hx hb hml hown hts hE hDD hP KR ls hl
  have hl : lv_has ls 1 [(0, .int (zI x0))] := hl
  have hDD : DD A [] := hDD
  have hS : va_S A s.heap s.heap [] := va_S.rf
  refine lv_iload_n hx hb dX8_isFigure_0 rfl (lv_at hl 0 rfl) ?_
  refine wi_bi hx hb dX8_isFigure_1 (by decide) ?_
  obtain ⟨hr1, h⟩ := chk_some h
  refine wi_ic_lt (tgt := 16) hx hb dX8_isFigure_3 (by decide) hr1 (by decide) (fun c3 => ?_) (fun c3 => ?_)
  · have h := ite_t c3 h
    refine wi_ic hx hb dX8_isFigure_16 ?_
    obtain rfl := Option.some.inj h
    exact KR _ _ _ _ (z01 (Or.inl rfl)) hP hS dX8_isFigure_17
  · have h := ite_f c3 h
    refine lv_iload_n hx hb dX8_isFigure_6 rfl (lv_at hl 0 rfl) ?_
    refine wi_bi hx hb dX8_isFigure_7 (by decide) ?_
    refine wi_ic_gt (tgt := 16) hx hb dX8_isFigure_9 (by decide) hr1 (by decide) (fun c5 => ?_) (fun c5 => ?_)
    · have h := ite_t c5 h
      refine wi_ic hx hb dX8_isFigure_16 ?_
      obtain rfl := Option.some.inj h
      exact KR _ _ _ _ (z01 (Or.inl rfl)) hP hS dX8_isFigure_17
    · have h := ite_f c5 h
      refine wi_ic hx hb dX8_isFigure_12 ?_
      refine lv_goto (tgt := 17) hx hb dX8_isFigure_13 (by decide) ?_
      obtain rfl := Option.some.inj h
      exact KR _ _ _ _ (z01 (Or.inr rfl)) hP hS dX8_isFigure_17
abbrev wd_X8_passNumber (cy : Nat → ClassId) (a_v : Nat) (a_v_tape : Nat) (a_v_tape_bytes : Nat) (a_v_draft : Nat) (a_v_ahead : Nat) (v_aheadUsed : Int) (v_orderTold : Int) (v_startTold : Int) (v_lines : Int) (v_foundFault : Int) (v_foundPlace : Int) (v_next : Int) (v_token : Int) (v_tokenPlace : Int) (v_number : Int) (v_tape_used : Int) (v_tape_bytes : Nat → Int) : va_W := [(a_v, .inr (8, [.ref a_v_tape, .ref a_v_draft, .ref a_v_ahead, .int (zI v_aheadUsed), .int (zI v_orderTold), .int (zI v_startTold), .int (zI v_lines), .int (zI v_foundFault), .int (zI v_foundPlace), .int (zI v_next), .int (zI v_token), .int (zI v_tokenPlace), .int (zI v_number)])), (a_v_tape, .inr (7, [.ref a_v_tape_bytes, .int (zI v_tape_used)])), (a_v_tape_bytes, .inl (cy 1, 160, .inl (fun j => zI (v_tape_bytes j))))]
set_option maxHeartbeats 4000000 in
set_option maxRecDepth 100000 in
theorem c_X8_passNumber (l : Launch) (D : va_G) (cy : Nat → ClassId) (sa : Nat → Nat) (a_v : Nat) (a_v_tape : Nat) (a_v_tape_bytes : Nat) (a_v_draft : Nat) (a_v_ahead : Nat) (v_aheadUsed : Int) (v_orderTold : Int) (v_startTold : Int) (v_lines : Int) (v_foundFault : Int) (v_foundPlace : Int) (v_next : Int) (v_token : Int) (v_tokenPlace : Int) (v_number : Int) (v_tape_used : Int) (v_tape_bytes : Nat → Int) (o : Int × Int × Int) (h : f_TextReader_passNumber v_next v_tokenPlace v_number v_tape_used v_tape_bytes = some o) : CtI l yX8_passNumber wsX8_passNumber ({ frames := 1, cells := 0, slots := 0, locals := 21 }) D cy sa [.ref a_v] (wd_X8_passNumber cy a_v a_v_tape a_v_tape_bytes a_v_draft a_v_ahead v_aheadUsed v_orderTold v_startTold v_lines v_foundFault v_foundPlace v_next v_token v_tokenPlace v_number v_tape_used v_tape_bytes) (wd_X8_passNumber cy a_v a_v_tape a_v_tape_bytes a_v_draft a_v_ahead v_aheadUsed v_orderTold v_startTold v_lines v_foundFault v_foundPlace o.2.1 v_token v_tokenPlace o.2.2 v_tape_used v_tape_bytes) o.1 := by
  refine ct_Z (cc := cX8_passNumber) (maxL := 1) (plainFor_of_name (by decide)) rfl (Nat.le_of_ble_eq_true rfl) ?_
  intro p e s m below meth c A args QQ hx hb hml hown hts hE hDD hP KR ls hl
  have hl : lv_has ls 1 [(0, .ref a_v)] := hl
  have hDD : DD A [a_v, a_v_tape, a_v_tape_bytes] := hDD
  have hS : va_S A s.heap s.heap [] := va_S.rf
  have q0 := hts (.fieldLink RX8 51 "HatHours$TextReader" "number" "I") (List.mem_of_getElem? (i := 1) rfl)
  have q1 := hts (.fieldLink RX8 42 "HatHours$TextReader" "next" "I") (List.mem_of_getElem? (i := 2) rfl)
  have q2 := hts (.fieldLink RX8 54 "HatHours$TextReader" "tape" "LHatHours$Tape;") (List.mem_of_getElem? (i := 3) rfl)
  have q3 := hts (.fieldLink RX8 48 "HatHours$TextReader" "tokenPlace" "I") (List.mem_of_getElem? (i := 4) rfl)
  have iX8 : ∀ w ∈ u_ws RX8 TX8 13, w ∈ wsX8_passNumber := in_slice 20 13 rfl
  have L5 : ∀ (fuel : Nat) (v_next : Int) (v_number : Int) (H : Heap) (locs : List Loc) (ls : Array Slot), va_P D vwCl (wd_X8_passNumber cy a_v a_v_tape a_v_tape_bytes a_v_draft a_v_ahead v_aheadUsed v_orderTold v_startTold v_lines v_foundFault v_foundPlace v_next v_token v_tokenPlace v_number v_tape_used v_tape_bytes) H → va_S A s.heap H locs → lv_has ls 1 [(0, .ref a_v)] → f_TextReader_passNumber_L5 fuel v_next v_tokenPlace v_number v_tape_used v_tape_bytes = some o → W p l e { frames := 1, cells := 0, slots := 0, locals := 21 } s m args below meth c H locs 0 0 QQ (F0 m 5 ls []) := by
    intro fuel
    induction fuel with
    | zero => intro _ _ H locs ls hP hS hl h; cases h
    | succ fuel ih =>
      intro v_next v_number H locs ls hP hS hl h
      refine lv_aload_n hx hb dX8_passNumber_5 rfl (lv_at hl 0 rfl) ?_
      refine wi_get (v := .int (zI v_next)) hx hb hts iX8 hown hE hP 0 rfl rfl 9 (by decide) q1 rfl dX8_passNumber_6 ?_
      refine lv_aload_n hx hb dX8_passNumber_9 rfl (lv_at hl 0 rfl) ?_
      refine wi_get (v := .ref a_v_tape) hx hb hts iX8 hown hE hP 0 rfl rfl 0 (by decide) q2 rfl dX8_passNumber_10 ?_
      obtain ⟨o1, hc2, h⟩ := bnd_some h
      refine cV_i (rest := [.int (zI v_next)]) (w2 := (wd_X8_passNumber cy a_v a_v_tape a_v_tape_bytes a_v_draft a_v_ahead v_aheadUsed v_orderTold v_startTold v_lines v_foundFault v_foundPlace v_next v_token v_tokenPlace v_number v_tape_used v_tape_bytes)) ⟨hx, hb, hml, hown, hts⟩ (c_X7_size l D cy sa a_v_tape a_v_tape_bytes v_tape_used o1 hc2) (cwV 0 hts gX8_passNumber_X7_size rfl rfl rfl (by decide +kernel) ⟨Nat.le_of_ble_eq_true rfl, Nat.le_of_ble_eq_true rfl⟩) rfl rfl rfl hE hP hDD rfl hS [1] rfl rfl rfl rfl hl.1 (Nat.le_of_ble_eq_true rfl) ⟨Nat.zero_le _, Nat.zero_le _⟩ rfl dX8_passNumber_13 rfl (fun H locs hP hS => ?_)
      obtain ⟨hr3, h⟩ := chk_some h
      obtain ⟨hr4, h⟩ := chk_some h
      refine wi_ic_ge (tgt := 90) hx hb dX8_passNumber_16 (by decide) hr3 hr4 (fun c6 => ?_) (fun c6 => ?_)
      · have h := ite_t c6 h
        refine wi_ic hx hb dX8_passNumber_90 ?_
        obtain rfl := Option.some.inj h
        exact KR _ _ _ _ (z01 (Or.inr rfl)) hP hS dX8_passNumber_91
      · have h := ite_f c6 h
        refine lv_aload_n hx hb dX8_passNumber_19 rfl (lv_at hl 0 rfl) ?_
        refine wi_get (v := .ref a_v_tape) hx hb hts iX8 hown hE hP 0 rfl rfl 0 (by decide) q2 rfl dX8_passNumber_20 ?_
        refine lv_aload_n hx hb dX8_passNumber_23 rfl (lv_at hl 0 rfl) ?_
        refine wi_get (v := .int (zI v_next)) hx hb hts iX8 hown hE hP 0 rfl rfl 9 (by decide) q1 rfl dX8_passNumber_24 ?_
        obtain ⟨o7, hc8, h⟩ := bnd_some h
        refine cV_i (rest := []) (w2 := (wd_X8_passNumber cy a_v a_v_tape a_v_tape_bytes a_v_draft a_v_ahead v_aheadUsed v_orderTold v_startTold v_lines v_foundFault v_foundPlace v_next v_token v_tokenPlace v_number v_tape_used v_tape_bytes)) ⟨hx, hb, hml, hown, hts⟩ (c_X7_at l D cy sa a_v_tape a_v_tape_bytes v_tape_used v_tape_bytes v_next o7 hc8) (cwV 1 hts gX8_passNumber_X7_at rfl rfl rfl (by decide +kernel) ⟨Nat.le_of_ble_eq_true rfl, Nat.le_of_ble_eq_true rfl⟩) rfl rfl rfl hE hP hDD rfl hS [1, 2] rfl rfl rfl rfl hl.1 (Nat.le_of_ble_eq_true rfl) ⟨Nat.zero_le _, Nat.zero_le _⟩ rfl dX8_passNumber_27 rfl (fun H locs hP hS => ?_)
        obtain ⟨o9, hc10, h⟩ := bnd_some h
        refine cS_i (rest := []) (w2 := (wd_X8_passNumber cy a_v a_v_tape a_v_tape_bytes a_v_draft a_v_ahead v_aheadUsed v_orderTold v_startTold v_lines v_foundFault v_foundPlace v_next v_token v_tokenPlace v_number v_tape_used v_tape_bytes)) ⟨hx, hb, hml, hown, hts⟩ (c_X8_isFigure l D cy sa o7 o9 hc10) (va_cwS 1 hts gX8_passNumber_X8_isFigure rfl rfl rfl (by decide +kernel) ⟨Nat.le_of_ble_eq_true rfl, Nat.le_of_ble_eq_true rfl⟩) hE hP hDD rfl hS [] rfl rfl rfl rfl hl.1 (Nat.le_of_ble_eq_true rfl) ⟨Nat.zero_le _, Nat.zero_le _⟩ rfl dX8_passNumber_30 rfl (fun H locs hP hS => ?_)
        obtain ⟨hr11, h⟩ := chk_some h
        refine wi_if_eq (tgt := 90) hx hb dX8_passNumber_33 (by decide) hr11 (fun c13 => ?_) (fun c13 => ?_)
        · have h := ite_t c13 h
          refine wi_ic hx hb dX8_passNumber_90 ?_
          obtain rfl := Option.some.inj h
          exact KR _ _ _ _ (z01 (Or.inr rfl)) hP hS dX8_passNumber_91
        · have h := ite_f c13 h
          refine lv_aload_n hx hb dX8_passNumber_36 rfl (lv_at hl 0 rfl) ?_
          refine wi_get (v := .int (zI v_next)) hx hb hts iX8 hown hE hP 0 rfl rfl 9 (by decide) q1 rfl dX8_passNumber_37 ?_
          refine lv_aload_n hx hb dX8_passNumber_40 rfl (lv_at hl 0 rfl) ?_
          refine wi_get (v := .int (zI v_tokenPlace)) hx hb hts iX8 hown hE hP 0 rfl rfl 11 (by decide) q3 rfl dX8_passNumber_41 ?_
          refine wi_isub hx hb dX8_passNumber_44 ?_
          refine wi_ic hx hb dX8_passNumber_45 ?_
          obtain ⟨hr14, h⟩ := chk_some h
          refine wi_ic_lt (tgt := 51) hx hb dX8_passNumber_46 (by decide) hr14 (by decide) (fun c16 => ?_) (fun c16 => ?_)
          · have h := ite_t c16 h
            refine lv_aload_n hx hb dX8_passNumber_51 rfl (lv_at hl 0 rfl) ?_
            refine lv_aload_n hx hb dX8_passNumber_52 rfl (lv_at hl 0 rfl) ?_
            refine wi_get (v := .int (zI v_number)) hx hb hts iX8 hown hE hP 0 rfl rfl 12 (by decide) q0 rfl dX8_passNumber_53 ?_
            refine wi_bi hx hb dX8_passNumber_56 (by decide) ?_
            refine wi_imul hx hb dX8_passNumber_58 ?_
            refine lv_aload_n hx hb dX8_passNumber_59 rfl (lv_at hl 0 rfl) ?_
            refine wi_get (v := .ref a_v_tape) hx hb hts iX8 hown hE hP 0 rfl rfl 0 (by decide) q2 rfl dX8_passNumber_60 ?_
            refine lv_aload_n hx hb dX8_passNumber_63 rfl (lv_at hl 0 rfl) ?_
            refine wi_get (v := .int (zI v_next)) hx hb hts iX8 hown hE hP 0 rfl rfl 9 (by decide) q1 rfl dX8_passNumber_64 ?_
            obtain ⟨o17, hc18, h⟩ := bnd_some h
            refine cV_i (rest := [.int (zI (v_number * 10)), .ref a_v]) (w2 := (wd_X8_passNumber cy a_v a_v_tape a_v_tape_bytes a_v_draft a_v_ahead v_aheadUsed v_orderTold v_startTold v_lines v_foundFault v_foundPlace v_next v_token v_tokenPlace v_number v_tape_used v_tape_bytes)) ⟨hx, hb, hml, hown, hts⟩ (c_X7_at l D cy sa a_v_tape a_v_tape_bytes v_tape_used v_tape_bytes v_next o17 hc18) (cwV 1 hts gX8_passNumber_X7_at rfl rfl rfl (by decide +kernel) ⟨Nat.le_of_ble_eq_true rfl, Nat.le_of_ble_eq_true rfl⟩) rfl rfl rfl hE hP hDD rfl hS [1, 2] rfl rfl rfl rfl hl.1 (Nat.le_of_ble_eq_true rfl) ⟨Nat.zero_le _, Nat.zero_le _⟩ rfl dX8_passNumber_67 rfl (fun H locs hP hS => ?_)
            refine wi_iadd hx hb dX8_passNumber_70 ?_
            refine wi_bi hx hb dX8_passNumber_71 (by decide) ?_
            refine wi_isub hx hb dX8_passNumber_73 ?_
            refine wi_put (ty := .int) (v := .int (zI (((v_number * 10) + o17) - 48))) (w2 := (wd_X8_passNumber cy a_v a_v_tape a_v_tape_bytes a_v_draft a_v_ahead v_aheadUsed v_orderTold v_startTold v_lines v_foundFault v_foundPlace v_next v_token v_tokenPlace (((v_number * 10) + o17) - 48) v_tape_used v_tape_bytes)) hx hb hts iX8 tyX8 tyX8_ok nmX8 hown hE hP hDD rfl hS 0 rfl rfl 12 (by decide) q0 rfl (by decide +kernel) rfl rfl (Nat.le_of_ble_eq_true rfl) dX8_passNumber_74 rfl (fun H locs hP hS => ?_)
            refine lv_aload_n hx hb dX8_passNumber_77 rfl (lv_at hl 0 rfl) ?_
            refine lv_dup hx hb dX8_passNumber_78 rfl ?_
            refine wi_get (v := .int (zI v_next)) hx hb hts iX8 hown hE hP 0 rfl rfl 9 (by decide) q1 rfl dX8_passNumber_79 ?_
            refine wi_ic hx hb dX8_passNumber_82 ?_
            refine wi_iadd hx hb dX8_passNumber_83 ?_
            refine wi_put (ty := .int) (v := .int (zI (v_next + 1))) (w2 := (wd_X8_passNumber cy a_v a_v_tape a_v_tape_bytes a_v_draft a_v_ahead v_aheadUsed v_orderTold v_startTold v_lines v_foundFault v_foundPlace (v_next + 1) v_token v_tokenPlace (((v_number * 10) + o17) - 48) v_tape_used v_tape_bytes)) hx hb hts iX8 tyX8 tyX8_ok nmX8 hown hE hP hDD rfl hS 0 rfl rfl 9 (by decide) q1 rfl (by decide +kernel) rfl rfl (Nat.le_of_ble_eq_true rfl) dX8_passNumber_84 rfl (fun H locs hP hS => ?_)
            refine lv_goto (tgt := 5) hx hb dX8_passNumber_87 (by decide) ?_
            exact ih (v_next + 1) (((v_number * 10) + o17) - 48) _ _ _ hP hS (lv_sub hl [0] rfl) h
          · have h := ite_f c16 h
            refine wi_ic hx hb dX8_passNumber_49 ?_
            obtain rfl := Option.some.inj h
            exact KR _ _ _ _ (z01 (Or.inl rfl)) hP hS dX8_passNumber_50
  refine lv_aload_n hx hb dX8_passNumber_0 rfl (lv_at hl 0 rfl) ?_
  refine wi_ic hx hb dX8_passNumber_1 ?_
  refine wi_put (ty := .int) (v := .int (zI 0)) (w2 := (wd_X8_passNumber cy a_v a_v_tape a_v_tape_bytes a_v_draft a_v_ahead v_aheadUsed v_orderTold v_startTold v_lines v_foundFault v_foundPlace v_next v_token v_tokenPlace 0 v_tape_used v_tape_bytes)) hx hb hts iX8 tyX8 tyX8_ok nmX8 hown hE hP hDD rfl hS 0 rfl rfl 12 (by decide) q0 rfl (by decide +kernel) rfl rfl (Nat.le_of_ble_eq_true rfl) dX8_passNumber_2 rfl (fun H locs hP hS => ?_)
  exact L5 5000 v_next 0 _ _ _ hP hS (lv_sub hl [0] rfl) h
abbrev wd_X8_failed (cy : Nat → ClassId) (a_v : Nat) (a_v_tape : Nat) (a_v_draft : Nat) (a_v_ahead : Nat) (v_aheadUsed : Int) (v_orderTold : Int) (v_startTold : Int) (v_lines : Int) (v_foundFault : Int) (v_foundPlace : Int) (v_next : Int) (v_token : Int) (v_tokenPlace : Int) (v_number : Int) : va_W := [(a_v, .inr (8, [.ref a_v_tape, .ref a_v_draft, .ref a_v_ahead, .int (zI v_aheadUsed), .int (zI v_orderTold), .int (zI v_startTold), .int (zI v_lines), .int (zI v_foundFault), .int (zI v_foundPlace), .int (zI v_next), .int (zI v_token), .int (zI v_tokenPlace), .int (zI v_number)]))]
set_option maxHeartbeats 4000000 in
set_option maxRecDepth 100000 in
theorem c_X8_failed (l : Launch) (D : va_G) (cy : Nat → ClassId) (sa : Nat → Nat) (a_v : Nat) (a_v_tape : Nat) (a_v_draft : Nat) (a_v_ahead : Nat) (v_aheadUsed : Int) (v_orderTold : Int) (v_startTold : Int) (v_lines : Int) (v_foundFault : Int) (v_foundPlace : Int) (v_next : Int) (v_token : Int) (v_tokenPlace : Int) (v_number : Int) (x1 : Int) (x2 : Int) (o : Int × Int × Int) (h : f_TextReader_failed v_foundFault v_foundPlace x1 x2 = some o) : CtI l yX8_failed wsX8_failed ({ frames := 0, cells := 0, slots := 0, locals := 0 }) D cy sa [.ref a_v, .int (zI x1), .int (zI x2)] (wd_X8_failed cy a_v a_v_tape a_v_draft a_v_ahead v_aheadUsed v_orderTold v_startTold v_lines v_foundFault v_foundPlace v_next v_token v_tokenPlace v_number) (wd_X8_failed cy a_v a_v_tape a_v_draft a_v_ahead v_aheadUsed v_orderTold v_startTold v_lines o.2.1 o.2.2 v_next v_token v_tokenPlace v_number) o.1 := by
  refine ct_Z (cc := cX8_failed) (maxL := 3) (plainFor_of_name (by decide)) rfl (Nat.le_of_ble_eq_true rfl) ?_
  intro p e s m below meth c A args QQ hx hb hml hown hts hE hDD hP KR ls hl
  have hl : lv_has ls 3 [(0, .ref a_v), (1, .int (zI x1)), (2, .int (zI x2))] := hl
  have hDD : DD A [a_v] := hDD
  have hS : va_S A s.heap s.heap [] := va_S.rf
  have q0 := hts (.fieldLink RX8 36 "HatHours$TextReader" "foundFault" "I") (List.mem_of_getElem? (i := 1) rfl)
  have q1 := hts (.fieldLink RX8 39 "HatHours$TextReader" "foundPlace" "I") (List.mem_of_getElem? (i := 2) rfl)
  have iX8 : ∀ w ∈ u_ws RX8 TX8 13, w ∈ wsX8_failed := in_slice 3 13 rfl
  refine lv_aload_n hx hb dX8_failed_0 rfl (lv_at hl 0 rfl) ?_
  refine lv_iload_n hx hb dX8_failed_1 rfl (lv_at hl 1 rfl) ?_
  refine wi_put (ty := .int) (v := .int (zI x1)) (w2 := (wd_X8_failed cy a_v a_v_tape a_v_draft a_v_ahead v_aheadUsed v_orderTold v_startTold v_lines x1 v_foundPlace v_next v_token v_tokenPlace v_number)) hx hb hts iX8 tyX8 tyX8_ok nmX8 hown hE hP hDD rfl hS 0 rfl rfl 7 (by decide) q0 rfl (by decide +kernel) rfl rfl (Nat.le_of_ble_eq_true rfl) dX8_failed_2 rfl (fun H locs hP hS => ?_)
  refine lv_aload_n hx hb dX8_failed_5 rfl (lv_at hl 0 rfl) ?_
  refine lv_iload_n hx hb dX8_failed_6 rfl (lv_at hl 2 rfl) ?_
  refine wi_put (ty := .int) (v := .int (zI x2)) (w2 := (wd_X8_failed cy a_v a_v_tape a_v_draft a_v_ahead v_aheadUsed v_orderTold v_startTold v_lines x1 x2 v_next v_token v_tokenPlace v_number)) hx hb hts iX8 tyX8 tyX8_ok nmX8 hown hE hP hDD rfl hS 0 rfl rfl 8 (by decide) q1 rfl (by decide +kernel) rfl rfl (Nat.le_of_ble_eq_true rfl) dX8_failed_7 rfl (fun H locs hP hS => ?_)
  refine wi_ic hx hb dX8_failed_10 ?_
  obtain rfl := Option.some.inj h
  exact KR _ _ _ _ (z01 (Or.inl rfl)) hP hS dX8_failed_11
abbrev wd_X8_takesToken (cy : Nat → ClassId) (a_v : Nat) (a_v_tape : Nat) (a_v_tape_bytes : Nat) (a_v_draft : Nat) (a_v_ahead : Nat) (v_aheadUsed : Int) (v_orderTold : Int) (v_startTold : Int) (v_lines : Int) (v_foundFault : Int) (v_foundPlace : Int) (v_next : Int) (v_token : Int) (v_tokenPlace : Int) (v_number : Int) (v_tape_used : Int) (v_tape_bytes : Nat → Int) : va_W := [(a_v, .inr (8, [.ref a_v_tape, .ref a_v_draft, .ref a_v_ahead, .int (zI v_aheadUsed), .int (zI v_orderTold), .int (zI v_startTold), .int (zI v_lines), .int (zI v_foundFault), .int (zI v_foundPlace), .int (zI v_next), .int (zI v_token), .int (zI v_tokenPlace), .int (zI v_number)])), (a_v_tape, .inr (7, [.ref a_v_tape_bytes, .int (zI v_tape_used)])), (a_v_tape_bytes, .inl (cy 1, 160, .inl (fun j => zI (v_tape_bytes j))))]
set_option maxHeartbeats 4000000 in
set_option maxRecDepth 100000 in
theorem c_X8_takesToken (l : Launch) (D : va_G) (cy : Nat → ClassId) (sa : Nat → Nat) (a_v : Nat) (a_v_tape : Nat) (a_v_tape_bytes : Nat) (a_v_draft : Nat) (a_v_ahead : Nat) (v_aheadUsed : Int) (v_orderTold : Int) (v_startTold : Int) (v_lines : Int) (v_foundFault : Int) (v_foundPlace : Int) (v_next : Int) (v_token : Int) (v_tokenPlace : Int) (v_number : Int) (v_tape_used : Int) (v_tape_bytes : Nat → Int) (o : Int × Int × Int × Int × Int × Int × Int) (h : f_TextReader_takesToken v_foundFault v_foundPlace v_next v_token v_tokenPlace v_number v_tape_used v_tape_bytes = some o) : CtI l yX8_takesToken wsX8_takesToken ({ frames := 2, cells := 0, slots := 0, locals := 41 }) D cy sa [.ref a_v] (wd_X8_takesToken cy a_v a_v_tape a_v_tape_bytes a_v_draft a_v_ahead v_aheadUsed v_orderTold v_startTold v_lines v_foundFault v_foundPlace v_next v_token v_tokenPlace v_number v_tape_used v_tape_bytes) (wd_X8_takesToken cy a_v a_v_tape a_v_tape_bytes a_v_draft a_v_ahead v_aheadUsed v_orderTold v_startTold v_lines o.2.1 o.2.2.1 o.2.2.2.1 o.2.2.2.2.1 o.2.2.2.2.2.1 o.2.2.2.2.2.2 v_tape_used v_tape_bytes) o.1 := by
  refine ct_Z (cc := cX8_takesToken) (maxL := 2) (plainFor_of_name (by decide)) rfl (Nat.le_of_ble_eq_true rfl) ?_
  intro p e s m below meth c A args QQ hx hb hml hown hts hE hDD hP KR ls hl
  have hl : lv_has ls 2 [(0, .ref a_v)] := hl
  have hDD : DD A [a_v, a_v_tape, a_v_tape_bytes] := hDD
  have hS : va_S A s.heap s.heap [] := va_S.rf
  have q0 := hts (.fieldLink RX8 42 "HatHours$TextReader" "next" "I") (List.mem_of_getElem? (i := 1) rfl)
  have q1 := hts (.fieldLink RX8 54 "HatHours$TextReader" "tape" "LHatHours$Tape;") (List.mem_of_getElem? (i := 2) rfl)
  have q2 := hts (.fieldLink RX8 48 "HatHours$TextReader" "tokenPlace" "I") (List.mem_of_getElem? (i := 3) rfl)
  have q3 := hts (.fieldLink RX8 45 "HatHours$TextReader" "token" "I") (List.mem_of_getElem? (i := 4) rfl)
  have iX8 : ∀ w ∈ u_ws RX8 TX8 13, w ∈ wsX8_takesToken := in_slice 38 13 rfl
  have L0 : ∀ (fuel : Nat) (v_foundFault : Int) (v_foundPlace : Int) (v_next : Int) (v_token : Int) (v_tokenPlace : Int) (v_number : Int) (H : Heap) (locs : List Loc) (ls : Array Slot) (ex : Int), va_P D vwCl (wd_X8_takesToken cy a_v a_v_tape a_v_tape_bytes a_v_draft a_v_ahead v_aheadUsed v_orderTold v_startTold v_lines v_foundFault v_foundPlace v_next v_token v_tokenPlace v_number v_tape_used v_tape_bytes) H → va_S A s.heap H locs → lv_has ls 2 [(0, .ref a_v)] → f_TextReader_takesToken_L0 fuel v_next v_tape_used v_tape_bytes = some ex → (∀ (H : Heap) (locs : List Loc) (ls : Array Slot), va_P D vwCl (wd_X8_takesToken cy a_v a_v_tape a_v_tape_bytes a_v_draft a_v_ahead v_aheadUsed v_orderTold v_startTold v_lines v_foundFault v_foundPlace ex v_token v_tokenPlace v_number v_tape_used v_tape_bytes) H → va_S A s.heap H locs → lv_has ls 2 [(0, .ref a_v)] → W p l e { frames := 2, cells := 0, slots := 0, locals := 41 } s m args below meth c H locs 0 0 QQ (F0 m 43 ls [])) → W p l e { frames := 2, cells := 0, slots := 0, locals := 41 } s m args below meth c H locs 0 0 QQ (F0 m 0 ls []) := by
    intro fuel
    induction fuel with
    | zero => intro _ _ _ _ _ _ H locs ls ex hP hS hl h K; cases h
    | succ fuel ih =>
      intro v_foundFault v_foundPlace v_next v_token v_tokenPlace v_number H locs ls ex hP hS hl h K
      refine lv_aload_n hx hb dX8_takesToken_0 rfl (lv_at hl 0 rfl) ?_
      refine wi_get (v := .int (zI v_next)) hx hb hts iX8 hown hE hP 0 rfl rfl 9 (by decide) q0 rfl dX8_takesToken_1 ?_
      refine lv_aload_n hx hb dX8_takesToken_4 rfl (lv_at hl 0 rfl) ?_
      refine wi_get (v := .ref a_v_tape) hx hb hts iX8 hown hE hP 0 rfl rfl 0 (by decide) q1 rfl dX8_takesToken_5 ?_
      obtain ⟨o1, hc2, h⟩ := bnd_some h
      refine cV_i (rest := [.int (zI v_next)]) (w2 := (wd_X8_takesToken cy a_v a_v_tape a_v_tape_bytes a_v_draft a_v_ahead v_aheadUsed v_orderTold v_startTold v_lines v_foundFault v_foundPlace v_next v_token v_tokenPlace v_number v_tape_used v_tape_bytes)) ⟨hx, hb, hml, hown, hts⟩ (c_X7_size l D cy sa a_v_tape a_v_tape_bytes v_tape_used o1 hc2) (cwV 0 hts gX8_takesToken_X7_size rfl rfl rfl (by decide +kernel) ⟨Nat.le_of_ble_eq_true rfl, Nat.le_of_ble_eq_true rfl⟩) rfl rfl rfl hE hP hDD rfl hS [1] rfl rfl rfl rfl hl.1 (Nat.le_of_ble_eq_true rfl) ⟨Nat.zero_le _, Nat.zero_le _⟩ rfl dX8_takesToken_8 rfl (fun H locs hP hS => ?_)
      obtain ⟨hr3, h⟩ := chk_some h
      obtain ⟨hr4, h⟩ := chk_some h
      refine wi_ic_ge (tgt := 43) hx hb dX8_takesToken_11 (by decide) hr3 hr4 (fun c6 => ?_) (fun c6 => ?_)
      · have h := ite_t c6 h
        obtain rfl := Option.some.inj h
        exact K _ _ _ hP hS (lv_sub hl [0] rfl)
      · have h := ite_f c6 h
        refine lv_aload_n hx hb dX8_takesToken_14 rfl (lv_at hl 0 rfl) ?_
        refine wi_get (v := .ref a_v_tape) hx hb hts iX8 hown hE hP 0 rfl rfl 0 (by decide) q1 rfl dX8_takesToken_15 ?_
        refine lv_aload_n hx hb dX8_takesToken_18 rfl (lv_at hl 0 rfl) ?_
        refine wi_get (v := .int (zI v_next)) hx hb hts iX8 hown hE hP 0 rfl rfl 9 (by decide) q0 rfl dX8_takesToken_19 ?_
        obtain ⟨o7, hc8, h⟩ := bnd_some h
        refine cV_i (rest := []) (w2 := (wd_X8_takesToken cy a_v a_v_tape a_v_tape_bytes a_v_draft a_v_ahead v_aheadUsed v_orderTold v_startTold v_lines v_foundFault v_foundPlace v_next v_token v_tokenPlace v_number v_tape_used v_tape_bytes)) ⟨hx, hb, hml, hown, hts⟩ (c_X7_at l D cy sa a_v_tape a_v_tape_bytes v_tape_used v_tape_bytes v_next o7 hc8) (cwV 1 hts gX8_takesToken_X7_at rfl rfl rfl (by decide +kernel) ⟨Nat.le_of_ble_eq_true rfl, Nat.le_of_ble_eq_true rfl⟩) rfl rfl rfl hE hP hDD rfl hS [1, 2] rfl rfl rfl rfl hl.1 (Nat.le_of_ble_eq_true rfl) ⟨Nat.zero_le _, Nat.zero_le _⟩ rfl dX8_takesToken_22 rfl (fun H locs hP hS => ?_)
        refine wi_bi hx hb dX8_takesToken_25 (by decide) ?_
        obtain ⟨hr9, h⟩ := chk_some h
        refine wi_ic_ne (tgt := 43) hx hb dX8_takesToken_27 (by decide) hr9 (by decide) (fun c11 => ?_) (fun c11 => ?_)
        · have h := ite_f c11 h
          obtain rfl := Option.some.inj h
          exact K _ _ _ hP hS (lv_sub hl [0] rfl)
        · have h := ite_t c11 h
          refine lv_aload_n hx hb dX8_takesToken_30 rfl (lv_at hl 0 rfl) ?_
          refine lv_dup hx hb dX8_takesToken_31 rfl ?_
          refine wi_get (v := .int (zI v_next)) hx hb hts iX8 hown hE hP 0 rfl rfl 9 (by decide) q0 rfl dX8_takesToken_32 ?_
          refine wi_ic hx hb dX8_takesToken_35 ?_
          refine wi_iadd hx hb dX8_takesToken_36 ?_
          refine wi_put (ty := .int) (v := .int (zI (v_next + 1))) (w2 := (wd_X8_takesToken cy a_v a_v_tape a_v_tape_bytes a_v_draft a_v_ahead v_aheadUsed v_orderTold v_startTold v_lines v_foundFault v_foundPlace (v_next + 1) v_token v_tokenPlace v_number v_tape_used v_tape_bytes)) hx hb hts iX8 tyX8 tyX8_ok nmX8 hown hE hP hDD rfl hS 0 rfl rfl 9 (by decide) q0 rfl (by decide +kernel) rfl rfl (Nat.le_of_ble_eq_true rfl) dX8_takesToken_37 rfl (fun H locs hP hS => ?_)
          refine lv_goto (tgt := 0) hx hb dX8_takesToken_40 (by decide) ?_
          exact ih v_foundFault v_foundPlace (v_next + 1) v_token v_tokenPlace v_number _ _ _ _ hP hS (lv_sub hl [0] rfl) h K
  have B144 : ∀ (v_foundFault : Int) (v_foundPlace : Int) (v_next : Int) (v_token : Int) (v_tokenPlace : Int) (v_number : Int) (H : Heap) (locs : List Loc) (ls : Array Slot), va_P D vwCl (wd_X8_takesToken cy a_v a_v_tape a_v_tape_bytes a_v_draft a_v_ahead v_aheadUsed v_orderTold v_startTold v_lines v_foundFault v_foundPlace v_next v_token v_tokenPlace v_number v_tape_used v_tape_bytes) H → va_S A s.heap H locs → lv_has ls 2 [(0, .ref a_v)] → f_TextReader_takesToken_b144 v_foundFault v_foundPlace v_next v_token v_tokenPlace v_number v_tape_used v_tape_bytes = some o → W p l e { frames := 2, cells := 0, slots := 0, locals := 41 } s m args below meth c H locs 0 0 QQ (F0 m 144 ls []) := by
    intro v_foundFault v_foundPlace v_next v_token v_tokenPlace v_number H locs ls hP hS hl h
    refine lv_aload_n hx hb dX8_takesToken_144 rfl (lv_at hl 0 rfl) ?_
    refine wi_ic hx hb dX8_takesToken_145 ?_
    refine lv_aload_n hx hb dX8_takesToken_146 rfl (lv_at hl 0 rfl) ?_
    refine wi_get (v := .int (zI v_tokenPlace)) hx hb hts iX8 hown hE hP 0 rfl rfl 11 (by decide) q2 rfl dX8_takesToken_147 ?_
    obtain ⟨o35, hc36, h⟩ := bnd_some h
    refine cV_i (rest := []) (w2 := (wd_X8_takesToken cy a_v a_v_tape a_v_tape_bytes a_v_draft a_v_ahead v_aheadUsed v_orderTold v_startTold v_lines o35.2.1 o35.2.2 v_next v_token v_tokenPlace v_number v_tape_used v_tape_bytes)) ⟨hx, hb, hml, hown, hts⟩ (c_X8_failed l D cy sa a_v a_v_tape a_v_draft a_v_ahead v_aheadUsed v_orderTold v_startTold v_lines v_foundFault v_foundPlace v_next v_token v_tokenPlace v_number 1 v_tokenPlace o35 hc36) (cwV 2 hts gX8_takesToken_X8_failed rfl rfl rfl (by decide +kernel) ⟨Nat.le_of_ble_eq_true rfl, Nat.le_of_ble_eq_true rfl⟩) rfl rfl rfl hE hP hDD rfl hS [0] rfl rfl rfl rfl hl.1 (Nat.le_of_ble_eq_true rfl) ⟨Nat.zero_le _, Nat.zero_le _⟩ rfl dX8_takesToken_150 rfl (fun H locs hP hS => ?_)
    obtain ⟨hr37, h⟩ := chk_some h
    refine wi_if_eq (tgt := 160) hx hb dX8_takesToken_153 (by decide) hr37 (fun c39 => ?_) (fun c39 => ?_)
    · have h := ite_t c39 h
      refine wi_ic hx hb dX8_takesToken_160 ?_
      obtain rfl := Option.some.inj h
      exact KR _ _ _ _ (z01 (Or.inl rfl)) hP hS dX8_takesToken_161
    · have h := ite_f c39 h
      refine wi_ic hx hb dX8_takesToken_156 ?_
      refine lv_goto (tgt := 161) hx hb dX8_takesToken_157 (by decide) ?_
      obtain rfl := Option.some.inj h
      exact KR _ _ _ _ (z01 (Or.inr rfl)) hP hS dX8_takesToken_161
  obtain ⟨o12, hx13, h⟩ := bnd_some h
  refine L0 5000 v_foundFault v_foundPlace v_next v_token v_tokenPlace v_number _ _ _ _ hP hS (lv_sub hl [0] rfl) hx13 ?_
  clear hx13
  intro H locs ls hP hS hl
  refine lv_aload_n hx hb dX8_takesToken_43 rfl (lv_at hl 0 rfl) ?_
  refine lv_aload_n hx hb dX8_takesToken_44 rfl (lv_at hl 0 rfl) ?_
  refine wi_get (v := .int (zI o12)) hx hb hts iX8 hown hE hP 0 rfl rfl 9 (by decide) q0 rfl dX8_takesToken_45 ?_
  refine wi_put (ty := .int) (v := .int (zI o12)) (w2 := (wd_X8_takesToken cy a_v a_v_tape a_v_tape_bytes a_v_draft a_v_ahead v_aheadUsed v_orderTold v_startTold v_lines v_foundFault v_foundPlace o12 v_token o12 v_number v_tape_used v_tape_bytes)) hx hb hts iX8 tyX8 tyX8_ok nmX8 hown hE hP hDD rfl hS 0 rfl rfl 11 (by decide) q2 rfl (by decide +kernel) rfl rfl (Nat.le_of_ble_eq_true rfl) dX8_takesToken_48 rfl (fun H locs hP hS => ?_)
  refine lv_aload_n hx hb dX8_takesToken_51 rfl (lv_at hl 0 rfl) ?_
  refine wi_get (v := .int (zI o12)) hx hb hts iX8 hown hE hP 0 rfl rfl 9 (by decide) q0 rfl dX8_takesToken_52 ?_
  refine lv_aload_n hx hb dX8_takesToken_55 rfl (lv_at hl 0 rfl) ?_
  refine wi_get (v := .ref a_v_tape) hx hb hts iX8 hown hE hP 0 rfl rfl 0 (by decide) q1 rfl dX8_takesToken_56 ?_
  obtain ⟨o14, hc15, h⟩ := bnd_some h
  refine cV_i (rest := [.int (zI o12)]) (w2 := (wd_X8_takesToken cy a_v a_v_tape a_v_tape_bytes a_v_draft a_v_ahead v_aheadUsed v_orderTold v_startTold v_lines v_foundFault v_foundPlace o12 v_token o12 v_number v_tape_used v_tape_bytes)) ⟨hx, hb, hml, hown, hts⟩ (c_X7_size l D cy sa a_v_tape a_v_tape_bytes v_tape_used o14 hc15) (cwV 0 hts gX8_takesToken_X7_size rfl rfl rfl (by decide +kernel) ⟨Nat.le_of_ble_eq_true rfl, Nat.le_of_ble_eq_true rfl⟩) rfl rfl rfl hE hP hDD rfl hS [1] rfl rfl rfl rfl hl.1 (Nat.le_of_ble_eq_true rfl) ⟨Nat.zero_le _, Nat.zero_le _⟩ rfl dX8_takesToken_59 rfl (fun H locs hP hS => ?_)
  obtain ⟨hr16, h⟩ := chk_some h
  obtain ⟨hr17, h⟩ := chk_some h
  refine wi_ic_lt (tgt := 72) hx hb dX8_takesToken_62 (by decide) hr16 hr17 (fun c19 => ?_) (fun c19 => ?_)
  · have h := ite_t c19 h
    refine lv_aload_n hx hb dX8_takesToken_72 rfl (lv_at hl 0 rfl) ?_
    refine wi_get (v := .ref a_v_tape) hx hb hts iX8 hown hE hP 0 rfl rfl 0 (by decide) q1 rfl dX8_takesToken_73 ?_
    refine lv_aload_n hx hb dX8_takesToken_76 rfl (lv_at hl 0 rfl) ?_
    refine wi_get (v := .int (zI o12)) hx hb hts iX8 hown hE hP 0 rfl rfl 9 (by decide) q0 rfl dX8_takesToken_77 ?_
    obtain ⟨o20, hc21, h⟩ := bnd_some h
    refine cV_i (rest := []) (w2 := (wd_X8_takesToken cy a_v a_v_tape a_v_tape_bytes a_v_draft a_v_ahead v_aheadUsed v_orderTold v_startTold v_lines v_foundFault v_foundPlace o12 v_token o12 v_number v_tape_used v_tape_bytes)) ⟨hx, hb, hml, hown, hts⟩ (c_X7_at l D cy sa a_v_tape a_v_tape_bytes v_tape_used v_tape_bytes o12 o20 hc21) (cwV 1 hts gX8_takesToken_X7_at rfl rfl rfl (by decide +kernel) ⟨Nat.le_of_ble_eq_true rfl, Nat.le_of_ble_eq_true rfl⟩) rfl rfl rfl hE hP hDD rfl hS [1, 2] rfl rfl rfl rfl hl.1 (Nat.le_of_ble_eq_true rfl) ⟨Nat.zero_le _, Nat.zero_le _⟩ rfl dX8_takesToken_80 rfl (fun H locs hP hS => ?_)
    refine lv_istore_n (lv' := [(1, .int (zI o20)), (0, .ref a_v)]) hx hb dX8_takesToken_83 rfl hl (by decide) rfl (fun ls hl => ?_)
    refine lv_iload_n hx hb dX8_takesToken_84 rfl (lv_at hl 0 rfl) ?_
    refine wi_bi hx hb dX8_takesToken_85 (by decide) ?_
    obtain ⟨hr22, h⟩ := chk_some h
    refine wi_ic_ne (tgt := 107) hx hb dX8_takesToken_87 (by decide) hr22 (by decide) (fun c24 => ?_) (fun c24 => ?_)
    · have h := ite_f c24 h
      refine lv_iload_n hx hb dX8_takesToken_107 rfl (lv_at hl 0 rfl) ?_
      obtain ⟨o25, hc26, h⟩ := bnd_some h
      refine cS_i (rest := []) (w2 := (wd_X8_takesToken cy a_v a_v_tape a_v_tape_bytes a_v_draft a_v_ahead v_aheadUsed v_orderTold v_startTold v_lines v_foundFault v_foundPlace o12 v_token o12 v_number v_tape_used v_tape_bytes)) ⟨hx, hb, hml, hown, hts⟩ (c_X8_isLetter l D cy sa o20 o25 hc26) (va_cwS 1 hts gX8_takesToken_X8_isLetter rfl rfl rfl (by decide +kernel) ⟨Nat.le_of_ble_eq_true rfl, Nat.le_of_ble_eq_true rfl⟩) hE hP hDD rfl hS [] rfl rfl rfl rfl hl.1 (Nat.le_of_ble_eq_true rfl) ⟨Nat.zero_le _, Nat.zero_le _⟩ rfl dX8_takesToken_108 rfl (fun H locs hP hS => ?_)
      obtain ⟨hr27, h⟩ := chk_some h
      refine wi_if_eq (tgt := 125) hx hb dX8_takesToken_111 (by decide) hr27 (fun c29 => ?_) (fun c29 => ?_)
      · have h := ite_t c29 h
        refine lv_aload_n hx hb dX8_takesToken_125 rfl (lv_at hl 1 rfl) ?_
        refine wi_ic hx hb dX8_takesToken_126 ?_
        refine wi_put (ty := .int) (v := .int (zI 2)) (w2 := (wd_X8_takesToken cy a_v a_v_tape a_v_tape_bytes a_v_draft a_v_ahead v_aheadUsed v_orderTold v_startTold v_lines v_foundFault v_foundPlace o12 2 o12 v_number v_tape_used v_tape_bytes)) hx hb hts iX8 tyX8 tyX8_ok nmX8 hown hE hP hDD rfl hS 0 rfl rfl 10 (by decide) q3 rfl (by decide +kernel) rfl rfl (Nat.le_of_ble_eq_true rfl) dX8_takesToken_127 rfl (fun H locs hP hS => ?_)
        refine lv_iload_n hx hb dX8_takesToken_130 rfl (lv_at hl 0 rfl) ?_
        obtain ⟨o30, hc31, h⟩ := bnd_some h
        refine cS_i (rest := []) (w2 := (wd_X8_takesToken cy a_v a_v_tape a_v_tape_bytes a_v_draft a_v_ahead v_aheadUsed v_orderTold v_startTold v_lines v_foundFault v_foundPlace o12 2 o12 v_number v_tape_used v_tape_bytes)) ⟨hx, hb, hml, hown, hts⟩ (c_X8_isFigure l D cy sa o20 o30 hc31) (va_cwS 1 hts gX8_takesToken_X8_isFigure rfl rfl rfl (by decide +kernel) ⟨Nat.le_of_ble_eq_true rfl, Nat.le_of_ble_eq_true rfl⟩) hE hP hDD rfl hS [] rfl rfl rfl rfl hl.1 (Nat.le_of_ble_eq_true rfl) ⟨Nat.zero_le _, Nat.zero_le _⟩ rfl dX8_takesToken_131 rfl (fun H locs hP hS => ?_)
        obtain ⟨hr32, h⟩ := chk_some h
        refine wi_if_eq (tgt := 144) hx hb dX8_takesToken_134 (by decide) hr32 (fun c34 => ?_) (fun c34 => ?_)
        · have h := ite_t c34 h
          exact B144 v_foundFault v_foundPlace o12 2 o12 v_number _ _ _ hP hS (lv_sub hl [1] rfl) h
        · have h := ite_f c34 h
          refine lv_aload_n hx hb dX8_takesToken_137 rfl (lv_at hl 1 rfl) ?_
          obtain ⟨o40, hc41, h⟩ := bnd_some h
          refine cV_i (rest := []) (w2 := (wd_X8_takesToken cy a_v a_v_tape a_v_tape_bytes a_v_draft a_v_ahead v_aheadUsed v_orderTold v_startTold v_lines v_foundFault v_foundPlace o40.2.1 2 o12 o40.2.2 v_tape_used v_tape_bytes)) ⟨hx, hb, hml, hown, hts⟩ (c_X8_passNumber l D cy sa a_v a_v_tape a_v_tape_bytes a_v_draft a_v_ahead v_aheadUsed v_orderTold v_startTold v_lines v_foundFault v_foundPlace o12 2 o12 v_number v_tape_used v_tape_bytes o40 hc41) (cwV 0 hts gX8_takesToken_X8_passNumber rfl rfl rfl (by decide +kernel) ⟨Nat.le_of_ble_eq_true rfl, Nat.le_of_ble_eq_true rfl⟩) rfl rfl rfl hE hP hDD rfl hS [0, 1, 2] rfl rfl rfl rfl hl.1 (Nat.le_of_ble_eq_true rfl) ⟨Nat.zero_le _, Nat.zero_le _⟩ rfl dX8_takesToken_138 rfl (fun H locs hP hS => ?_)
          obtain ⟨hr42, h⟩ := chk_some h
          refine wi_if_ne (tgt := 156) hx hb dX8_takesToken_141 (by decide) hr42 (fun c44 => ?_) (fun c44 => ?_)
          · have h := ite_f c44 h
            refine wi_ic hx hb dX8_takesToken_156 ?_
            refine lv_goto (tgt := 161) hx hb dX8_takesToken_157 (by decide) ?_
            obtain rfl := Option.some.inj h
            exact KR _ _ _ _ (z01 (Or.inr rfl)) hP hS dX8_takesToken_161
          · have h := ite_t c44 h
            exact B144 v_foundFault v_foundPlace o40.2.1 2 o12 o40.2.2 _ _ _ hP hS (lv_sub hl [1] rfl) h
      · have h := ite_f c29 h
        refine lv_aload_n hx hb dX8_takesToken_114 rfl (lv_at hl 1 rfl) ?_
        refine wi_ic hx hb dX8_takesToken_115 ?_
        refine wi_put (ty := .int) (v := .int (zI 1)) (w2 := (wd_X8_takesToken cy a_v a_v_tape a_v_tape_bytes a_v_draft a_v_ahead v_aheadUsed v_orderTold v_startTold v_lines v_foundFault v_foundPlace o12 1 o12 v_number v_tape_used v_tape_bytes)) hx hb hts iX8 tyX8 tyX8_ok nmX8 hown hE hP hDD rfl hS 0 rfl rfl 10 (by decide) q3 rfl (by decide +kernel) rfl rfl (Nat.le_of_ble_eq_true rfl) dX8_takesToken_116 rfl (fun H locs hP hS => ?_)
        refine lv_aload_n hx hb dX8_takesToken_119 rfl (lv_at hl 1 rfl) ?_
        obtain ⟨o45, hc46, h⟩ := bnd_some h
        refine cV_v (rest := []) (w2 := (wd_X8_takesToken cy a_v a_v_tape a_v_tape_bytes a_v_draft a_v_ahead v_aheadUsed v_orderTold v_startTold v_lines v_foundFault v_foundPlace o45 1 o12 v_number v_tape_used v_tape_bytes)) ⟨hx, hb, hml, hown, hts⟩ (c_X8_passName l D cy sa a_v a_v_tape a_v_tape_bytes a_v_draft a_v_ahead v_aheadUsed v_orderTold v_startTold v_lines v_foundFault v_foundPlace o12 1 o12 v_number v_tape_used v_tape_bytes o45 hc46) (cwV 0 hts gX8_takesToken_X8_passName rfl rfl rfl (by decide +kernel) ⟨Nat.le_of_ble_eq_true rfl, Nat.le_of_ble_eq_true rfl⟩) rfl rfl rfl hE hP hDD rfl hS [0, 1, 2] rfl rfl rfl rfl hl.1 (Nat.le_of_ble_eq_true rfl) ⟨Nat.zero_le _, Nat.zero_le _⟩ rfl dX8_takesToken_120 rfl (fun H locs hP hS => ?_)
        refine wi_ic hx hb dX8_takesToken_123 ?_
        obtain rfl := Option.some.inj h
        exact KR _ _ _ _ (z01 (Or.inr rfl)) hP hS dX8_takesToken_124
    · have h := ite_t c24 h
      refine lv_aload_n hx hb dX8_takesToken_90 rfl (lv_at hl 1 rfl) ?_
      refine wi_ic hx hb dX8_takesToken_91 ?_
      refine wi_put (ty := .int) (v := .int (zI 3)) (w2 := (wd_X8_takesToken cy a_v a_v_tape a_v_tape_bytes a_v_draft a_v_ahead v_aheadUsed v_orderTold v_startTold v_lines v_foundFault v_foundPlace o12 3 o12 v_number v_tape_used v_tape_bytes)) hx hb hts iX8 tyX8 tyX8_ok nmX8 hown hE hP hDD rfl hS 0 rfl rfl 10 (by decide) q3 rfl (by decide +kernel) rfl rfl (Nat.le_of_ble_eq_true rfl) dX8_takesToken_92 rfl (fun H locs hP hS => ?_)
      refine lv_aload_n hx hb dX8_takesToken_95 rfl (lv_at hl 1 rfl) ?_
      refine lv_dup hx hb dX8_takesToken_96 rfl ?_
      refine wi_get (v := .int (zI o12)) hx hb hts iX8 hown hE hP 0 rfl rfl 9 (by decide) q0 rfl dX8_takesToken_97 ?_
      refine wi_ic hx hb dX8_takesToken_100 ?_
      refine wi_iadd hx hb dX8_takesToken_101 ?_
      refine wi_put (ty := .int) (v := .int (zI (o12 + 1))) (w2 := (wd_X8_takesToken cy a_v a_v_tape a_v_tape_bytes a_v_draft a_v_ahead v_aheadUsed v_orderTold v_startTold v_lines v_foundFault v_foundPlace (o12 + 1) 3 o12 v_number v_tape_used v_tape_bytes)) hx hb hts iX8 tyX8 tyX8_ok nmX8 hown hE hP hDD rfl hS 0 rfl rfl 9 (by decide) q0 rfl (by decide +kernel) rfl rfl (Nat.le_of_ble_eq_true rfl) dX8_takesToken_102 rfl (fun H locs hP hS => ?_)
      refine wi_ic hx hb dX8_takesToken_105 ?_
      obtain rfl := Option.some.inj h
      exact KR _ _ _ _ (z01 (Or.inr rfl)) hP hS dX8_takesToken_106
  · have h := ite_f c19 h
    refine lv_aload_n hx hb dX8_takesToken_65 rfl (lv_at hl 0 rfl) ?_
    refine wi_ic hx hb dX8_takesToken_66 ?_
    refine wi_put (ty := .int) (v := .int (zI 0)) (w2 := (wd_X8_takesToken cy a_v a_v_tape a_v_tape_bytes a_v_draft a_v_ahead v_aheadUsed v_orderTold v_startTold v_lines v_foundFault v_foundPlace o12 0 o12 v_number v_tape_used v_tape_bytes)) hx hb hts iX8 tyX8 tyX8_ok nmX8 hown hE hP hDD rfl hS 0 rfl rfl 10 (by decide) q3 rfl (by decide +kernel) rfl rfl (Nat.le_of_ble_eq_true rfl) dX8_takesToken_67 rfl (fun H locs hP hS => ?_)
    refine wi_ic hx hb dX8_takesToken_70 ?_
    obtain rfl := Option.some.inj h
    exact KR _ _ _ _ (z01 (Or.inr rfl)) hP hS dX8_takesToken_71
abbrev wd_X8_takesOrder (cy : Nat → ClassId) (a_v : Nat) (a_v_ahead : Nat) (a_v_draft : Nat) (a_v_draft_places : Nat) (a_v_tape : Nat) (a_v_draft_facts : Nat) (a_v_tape_bytes : Nat) (v_aheadUsed : Int) (v_orderTold : Int) (v_startTold : Int) (v_lines : Int) (v_foundFault : Int) (v_foundPlace : Int) (v_next : Int) (v_token : Int) (v_tokenPlace : Int) (v_number : Int) (v_ahead : Nat → Int) (v_draft_boxes : Int) (v_draft_startsAt : Int) (v_draft_places : Nat → Int) (v_tape_used : Int) : va_W := [(a_v, .inr (8, [.ref a_v_tape, .ref a_v_draft, .ref a_v_ahead, .int (zI v_aheadUsed), .int (zI v_orderTold), .int (zI v_startTold), .int (zI v_lines), .int (zI v_foundFault), .int (zI v_foundPlace), .int (zI v_next), .int (zI v_token), .int (zI v_tokenPlace), .int (zI v_number)])), (a_v_ahead, .inl (cy 0, 5, .inl (fun j => zI (v_ahead j)))), (a_v_draft, .inr (5, [.ref a_v_draft_facts, .ref a_v_draft_places, .int (zI v_draft_boxes), .int (zI v_draft_startsAt)])), (a_v_draft_places, .inl (cy 0, 5, .inl (fun j => zI (v_draft_places j)))), (a_v_tape, .inr (7, [.ref a_v_tape_bytes, .int (zI v_tape_used)]))]
set_option maxHeartbeats 4000000 in
set_option maxRecDepth 100000 in
theorem c_X8_takesOrder (l : Launch) (D : va_G) (cy : Nat → ClassId) (sa : Nat → Nat) (a_v : Nat) (a_v_ahead : Nat) (a_v_draft : Nat) (a_v_draft_places : Nat) (a_v_tape : Nat) (a_v_draft_facts : Nat) (a_v_tape_bytes : Nat) (v_aheadUsed : Int) (v_orderTold : Int) (v_startTold : Int) (v_lines : Int) (v_foundFault : Int) (v_foundPlace : Int) (v_next : Int) (v_token : Int) (v_tokenPlace : Int) (v_number : Int) (v_ahead : Nat → Int) (v_draft_boxes : Int) (v_draft_startsAt : Int) (v_draft_places : Nat → Int) (v_tape_used : Int) (o : Int × Int × Int × (Nat → Int)) (h : f_TextReader_takesOrder v_aheadUsed v_foundFault v_foundPlace v_ahead v_draft_boxes v_draft_places v_tape_used = some o) : CtI l yX8_takesOrder wsX8_takesOrder ({ frames := 3, cells := 0, slots := 0, locals := 68 }) D cy sa [.ref a_v] (wd_X8_takesOrder cy a_v a_v_ahead a_v_draft a_v_draft_places a_v_tape a_v_draft_facts a_v_tape_bytes v_aheadUsed v_orderTold v_startTold v_lines v_foundFault v_foundPlace v_next v_token v_tokenPlace v_number v_ahead v_draft_boxes v_draft_startsAt v_draft_places v_tape_used) (wd_X8_takesOrder cy a_v a_v_ahead a_v_draft a_v_draft_places a_v_tape a_v_draft_facts a_v_tape_bytes v_aheadUsed v_orderTold v_startTold v_lines o.2.1 o.2.2.1 v_next v_token v_tokenPlace v_number v_ahead v_draft_boxes v_draft_startsAt o.2.2.2 v_tape_used) o.1 := by
  refine ct_Z (cc := cX8_takesOrder) (maxL := 2) (plainFor_of_name (by decide)) rfl (Nat.le_of_ble_eq_true rfl) ?_
  intro p e s m below meth c A args QQ hx hb hml hown hts hE hDD hP KR ls hl
  have hl : lv_has ls 2 [(0, .ref a_v)] := hl
  have hDD : DD A [a_v, a_v_ahead, a_v_draft, a_v_draft_places, a_v_tape] := hDD
  have hS : va_S A s.heap s.heap [] := va_S.rf
  have q0 := hts (.fieldLink RX8 22 "HatHours$TextReader" "aheadUsed" "I") (List.mem_of_getElem? (i := 1) rfl)
  have q1 := hts (.fieldLink RX8 12 "HatHours$TextReader" "draft" "LHatHours$Shop;") (List.mem_of_getElem? (i := 2) rfl)
  have q2 := hts (.fieldLink RX8 18 "HatHours$TextReader" "ahead" "[I") (List.mem_of_getElem? (i := 3) rfl)
  have q3 := hts (.fieldLink RX8 54 "HatHours$TextReader" "tape" "LHatHours$Tape;") (List.mem_of_getElem? (i := 4) rfl)
  have iX8 : ∀ w ∈ u_ws RX8 TX8 13, w ∈ wsX8_takesOrder := in_slice 38 13 rfl
  have L2 : ∀ (fuel : Nat) (v_foundFault : Int) (v_foundPlace : Int) (v_draft_places : Nat → Int) (x1 : Int) (H : Heap) (locs : List Loc) (ls : Array Slot), va_P D vwCl (wd_X8_takesOrder cy a_v a_v_ahead a_v_draft a_v_draft_places a_v_tape a_v_draft_facts a_v_tape_bytes v_aheadUsed v_orderTold v_startTold v_lines v_foundFault v_foundPlace v_next v_token v_tokenPlace v_number v_ahead v_draft_boxes v_draft_startsAt v_draft_places v_tape_used) H → va_S A s.heap H locs → lv_has ls 2 [(0, .ref a_v), (1, .int (zI x1))] → f_TextReader_takesOrder_L2 fuel v_aheadUsed v_foundFault v_foundPlace v_ahead v_draft_boxes v_draft_places v_tape_used x1 = some o → W p l e { frames := 3, cells := 0, slots := 0, locals := 68 } s m args below meth c H locs 0 0 QQ (F0 m 2 ls []) := by
    intro fuel
    induction fuel with
    | zero => intro _ _ _ _ H locs ls hP hS hl h; cases h
    | succ fuel ih =>
      intro v_foundFault v_foundPlace v_draft_places x1 H locs ls hP hS hl h
      refine lv_iload_n hx hb dX8_takesOrder_2 rfl (lv_at hl 1 rfl) ?_
      refine lv_aload_n hx hb dX8_takesOrder_3 rfl (lv_at hl 0 rfl) ?_
      refine wi_get (v := .int (zI v_aheadUsed)) hx hb hts iX8 hown hE hP 0 rfl rfl 3 (by decide) q0 rfl dX8_takesOrder_4 ?_
      obtain ⟨hr1, h⟩ := chk_some h
      obtain ⟨hr2, h⟩ := chk_some h
      refine wi_ic_ge (tgt := 60) hx hb dX8_takesOrder_7 (by decide) hr1 hr2 (fun c4 => ?_) (fun c4 => ?_)
      · have h := ite_t c4 h
        refine wi_ic hx hb dX8_takesOrder_60 ?_
        obtain rfl := Option.some.inj h
        exact KR _ _ _ _ (z01 (Or.inr rfl)) hP hS dX8_takesOrder_61
      · have h := ite_f c4 h
        refine lv_aload_n hx hb dX8_takesOrder_10 rfl (lv_at hl 0 rfl) ?_
        refine wi_get (v := .ref a_v_draft) hx hb hts iX8 hown hE hP 0 rfl rfl 1 (by decide) q1 rfl dX8_takesOrder_11 ?_
        refine lv_aload_n hx hb dX8_takesOrder_14 rfl (lv_at hl 0 rfl) ?_
        refine wi_get (v := .ref a_v_ahead) hx hb hts iX8 hown hE hP 0 rfl rfl 2 (by decide) q2 rfl dX8_takesOrder_15 ?_
        refine lv_iload_n hx hb dX8_takesOrder_18 rfl (lv_at hl 1 rfl) ?_
        obtain ⟨hk5, h⟩ := chk_some h
        refine wi_iald hx hb hE hP 1 rfl (by decide) hk5 dX8_takesOrder_19 ?_
        obtain ⟨o6, hc7, h⟩ := bnd_some h
        refine cV_i (rest := []) (w2 := (wd_X8_takesOrder cy a_v a_v_ahead a_v_draft a_v_draft_places a_v_tape a_v_draft_facts a_v_tape_bytes v_aheadUsed v_orderTold v_startTold v_lines v_foundFault v_foundPlace v_next v_token v_tokenPlace v_number v_ahead v_draft_boxes v_draft_startsAt v_draft_places v_tape_used)) ⟨hx, hb, hml, hown, hts⟩ (c_X5_has l D cy sa a_v_draft a_v_draft_facts a_v_draft_places v_draft_boxes v_draft_startsAt (v_ahead (x1).toNat) o6 hc7) (cwV 1 hts gX8_takesOrder_X5_has rfl rfl rfl (by decide +kernel) ⟨Nat.le_of_ble_eq_true rfl, Nat.le_of_ble_eq_true rfl⟩) rfl rfl rfl hE hP hDD rfl hS [2] rfl rfl rfl rfl hl.1 (Nat.le_of_ble_eq_true rfl) ⟨Nat.zero_le _, Nat.zero_le _⟩ rfl dX8_takesOrder_20 rfl (fun H locs hP hS => ?_)
        obtain ⟨hr8, h⟩ := chk_some h
        refine wi_if_ne (tgt := 40) hx hb dX8_takesOrder_23 (by decide) hr8 (fun c10 => ?_) (fun c10 => ?_)
        · have h := ite_f c10 h
          refine lv_aload_n hx hb dX8_takesOrder_40 rfl (lv_at hl 0 rfl) ?_
          refine wi_get (v := .ref a_v_draft) hx hb hts iX8 hown hE hP 0 rfl rfl 1 (by decide) q1 rfl dX8_takesOrder_41 ?_
          refine lv_iload_n hx hb dX8_takesOrder_44 rfl (lv_at hl 1 rfl) ?_
          refine lv_aload_n hx hb dX8_takesOrder_45 rfl (lv_at hl 0 rfl) ?_
          refine wi_get (v := .ref a_v_ahead) hx hb hts iX8 hown hE hP 0 rfl rfl 2 (by decide) q2 rfl dX8_takesOrder_46 ?_
          refine lv_iload_n hx hb dX8_takesOrder_49 rfl (lv_at hl 1 rfl) ?_
          refine wi_iald hx hb hE hP 1 rfl (by decide) hk5 dX8_takesOrder_50 ?_
          obtain ⟨o11, hc12, h⟩ := bnd_some h
          refine cV_v (rest := []) (w2 := (wd_X8_takesOrder cy a_v a_v_ahead a_v_draft a_v_draft_places a_v_tape a_v_draft_facts a_v_tape_bytes v_aheadUsed v_orderTold v_startTold v_lines v_foundFault v_foundPlace v_next v_token v_tokenPlace v_number v_ahead v_draft_boxes v_draft_startsAt o11 v_tape_used)) ⟨hx, hb, hml, hown, hts⟩ (c_X5_bringTo l D cy sa a_v_draft a_v_draft_places a_v_draft_facts v_draft_boxes v_draft_startsAt v_draft_places x1 (v_ahead (x1).toNat) o11 hc12) (cwV 2 hts gX8_takesOrder_X5_bringTo rfl rfl rfl (by decide +kernel) ⟨Nat.le_of_ble_eq_true rfl, Nat.le_of_ble_eq_true rfl⟩) rfl rfl rfl hE hP hDD rfl hS [2, 3] rfl rfl rfl rfl hl.1 (Nat.le_of_ble_eq_true rfl) ⟨Nat.zero_le _, Nat.zero_le _⟩ rfl dX8_takesOrder_51 rfl (fun H locs hP hS => ?_)
          refine wi_iinc (k := 1) (lv' := [(1, .int (zI (x1 + 1))), (0, .ref a_v)]) hx hb dX8_takesOrder_54 hl rfl (by decide) rfl (fun ls hl => ?_)
          refine lv_goto (tgt := 2) hx hb dX8_takesOrder_57 (by decide) ?_
          exact ih v_foundFault v_foundPlace o11 (x1 + 1) _ _ _ hP hS (lv_sub hl [1, 0] rfl) h
        · have h := ite_t c10 h
          refine lv_aload_n hx hb dX8_takesOrder_26 rfl (lv_at hl 0 rfl) ?_
          refine wi_bi hx hb dX8_takesOrder_27 (by decide) ?_
          refine lv_aload_n hx hb dX8_takesOrder_29 rfl (lv_at hl 0 rfl) ?_
          refine wi_get (v := .ref a_v_tape) hx hb hts iX8 hown hE hP 0 rfl rfl 0 (by decide) q3 rfl dX8_takesOrder_30 ?_
          obtain ⟨o13, hc14, h⟩ := bnd_some h
          refine cV_i (rest := [.int (zI 6), .ref a_v]) (w2 := (wd_X8_takesOrder cy a_v a_v_ahead a_v_draft a_v_draft_places a_v_tape a_v_draft_facts a_v_tape_bytes v_aheadUsed v_orderTold v_startTold v_lines v_foundFault v_foundPlace v_next v_token v_tokenPlace v_number v_ahead v_draft_boxes v_draft_startsAt v_draft_places v_tape_used)) ⟨hx, hb, hml, hown, hts⟩ (c_X7_size l D cy sa a_v_tape a_v_tape_bytes v_tape_used o13 hc14) (cwV 0 hts gX8_takesOrder_X7_size rfl rfl rfl (by decide +kernel) ⟨Nat.le_of_ble_eq_true rfl, Nat.le_of_ble_eq_true rfl⟩) rfl rfl rfl hE hP hDD rfl hS [4] rfl rfl rfl rfl hl.1 (Nat.le_of_ble_eq_true rfl) ⟨Nat.zero_le _, Nat.zero_le _⟩ rfl dX8_takesOrder_33 rfl (fun H locs hP hS => ?_)
          obtain ⟨o15, hc16, h⟩ := bnd_some h
          refine cV_i (rest := []) (w2 := (wd_X8_takesOrder cy a_v a_v_ahead a_v_draft a_v_draft_places a_v_tape a_v_draft_facts a_v_tape_bytes v_aheadUsed v_orderTold v_startTold v_lines o15.2.1 o15.2.2 v_next v_token v_tokenPlace v_number v_ahead v_draft_boxes v_draft_startsAt v_draft_places v_tape_used)) ⟨hx, hb, hml, hown, hts⟩ (c_X8_failed l D cy sa a_v a_v_tape a_v_draft a_v_ahead v_aheadUsed v_orderTold v_startTold v_lines v_foundFault v_foundPlace v_next v_token v_tokenPlace v_number 6 o13 o15 hc16) (cwV 2 hts gX8_takesOrder_X8_failed rfl rfl rfl (by decide +kernel) ⟨Nat.le_of_ble_eq_true rfl, Nat.le_of_ble_eq_true rfl⟩) rfl rfl rfl hE hP hDD rfl hS [0] rfl rfl rfl rfl hl.1 (Nat.le_of_ble_eq_true rfl) ⟨Nat.zero_le _, Nat.zero_le _⟩ rfl dX8_takesOrder_36 rfl (fun H locs hP hS => ?_)
          obtain ⟨hk17, h⟩ := chk_some h
          obtain rfl := Option.some.inj h
          exact KR _ _ _ _ (z01 hk17) hP hS dX8_takesOrder_39
  refine wi_ic hx hb dX8_takesOrder_0 ?_
  refine lv_istore_n (lv' := [(1, .int (zI 0)), (0, .ref a_v)]) hx hb dX8_takesOrder_1 rfl hl (by decide) rfl (fun ls hl => ?_)
  exact L2 5000 v_foundFault v_foundPlace v_draft_places 0 _ _ _ hP hS (lv_sub hl [1, 0] rfl) h
abbrev wd_X8_isNumberWithin (cy : Nat → ClassId) (a_v : Nat) (a_v_tape : Nat) (a_v_draft : Nat) (a_v_ahead : Nat) (v_aheadUsed : Int) (v_orderTold : Int) (v_startTold : Int) (v_lines : Int) (v_foundFault : Int) (v_foundPlace : Int) (v_next : Int) (v_token : Int) (v_tokenPlace : Int) (v_number : Int) : va_W := [(a_v, .inr (8, [.ref a_v_tape, .ref a_v_draft, .ref a_v_ahead, .int (zI v_aheadUsed), .int (zI v_orderTold), .int (zI v_startTold), .int (zI v_lines), .int (zI v_foundFault), .int (zI v_foundPlace), .int (zI v_next), .int (zI v_token), .int (zI v_tokenPlace), .int (zI v_number)]))]
set_option maxHeartbeats 4000000 in
set_option maxRecDepth 100000 in
theorem c_X8_isNumberWithin (l : Launch) (D : va_G) (cy : Nat → ClassId) (sa : Nat → Nat) (a_v : Nat) (a_v_tape : Nat) (a_v_draft : Nat) (a_v_ahead : Nat) (v_aheadUsed : Int) (v_orderTold : Int) (v_startTold : Int) (v_lines : Int) (v_foundFault : Int) (v_foundPlace : Int) (v_next : Int) (v_token : Int) (v_tokenPlace : Int) (v_number : Int) (x1 : Int) (x2 : Int) (o : Int × Int × Int) (h : f_TextReader_isNumberWithin v_foundFault v_foundPlace v_token v_tokenPlace v_number x1 x2 = some o) : CtI l yX8_isNumberWithin wsX8_isNumberWithin ({ frames := 1, cells := 0, slots := 0, locals := 22 }) D cy sa [.ref a_v, .int (zI x1), .int (zI x2)] (wd_X8_isNumberWithin cy a_v a_v_tape a_v_draft a_v_ahead v_aheadUsed v_orderTold v_startTold v_lines v_foundFault v_foundPlace v_next v_token v_tokenPlace v_number) (wd_X8_isNumberWithin cy a_v a_v_tape a_v_draft a_v_ahead v_aheadUsed v_orderTold v_startTold v_lines o.2.1 o.2.2 v_next v_token v_tokenPlace v_number) o.1 := by
  refine ct_Z (cc := cX8_isNumberWithin) (maxL := 3) (plainFor_of_name (by decide)) rfl (Nat.le_of_ble_eq_true rfl) ?_
  intro p e s m below meth c A args QQ hx hb hml hown hts hE hDD hP KR ls hl
  have hl : lv_has ls 3 [(0, .ref a_v), (1, .int (zI x1)), (2, .int (zI x2))] := hl
  have hDD : DD A [a_v] := hDD
  have hS : va_S A s.heap s.heap [] := va_S.rf
  have q0 := hts (.fieldLink RX8 45 "HatHours$TextReader" "token" "I") (List.mem_of_getElem? (i := 1) rfl)
  have q1 := hts (.fieldLink RX8 51 "HatHours$TextReader" "number" "I") (List.mem_of_getElem? (i := 3) rfl)
  have q2 := hts (.initialized RX9) (List.mem_of_getElem? (i := 12) rfl)
  have q3 := hts (.static yX9_within) (List.mem_of_getElem? (i := 11) rfl)
  have q4 := hts (.fieldLink RX8 48 "HatHours$TextReader" "tokenPlace" "I") (List.mem_of_getElem? (i := 2) rfl)
  have iX8 : ∀ w ∈ u_ws RX8 TX8 13, w ∈ wsX8_isNumberWithin := in_slice 14 13 rfl
  refine lv_aload_n hx hb dX8_isNumberWithin_0 rfl (lv_at hl 0 rfl) ?_
  refine wi_get (v := .int (zI v_token)) hx hb hts iX8 hown hE hP 0 rfl rfl 10 (by decide) q0 rfl dX8_isNumberWithin_1 ?_
  refine wi_ic hx hb dX8_isNumberWithin_4 ?_
  obtain ⟨hr1, h⟩ := chk_some h
  refine wi_ic_eq (tgt := 18) hx hb dX8_isNumberWithin_5 (by decide) hr1 (by decide) (fun c3 => ?_) (fun c3 => ?_)
  · have h := ite_t c3 h
    refine lv_aload_n hx hb dX8_isNumberWithin_18 rfl (lv_at hl 0 rfl) ?_
    refine wi_get (v := .int (zI v_number)) hx hb hts iX8 hown hE hP 0 rfl rfl 12 (by decide) q1 rfl dX8_isNumberWithin_19 ?_
    refine lv_iload_n hx hb dX8_isNumberWithin_22 rfl (lv_at hl 1 rfl) ?_
    refine lv_iload_n hx hb dX8_isNumberWithin_23 rfl (lv_at hl 2 rfl) ?_
    obtain ⟨o4, hc5, h⟩ := bnd_some h
    refine cN_i (rest := []) (w2 := (wd_X8_isNumberWithin cy a_v a_v_tape a_v_draft a_v_ahead v_aheadUsed v_orderTold v_startTold v_lines v_foundFault v_foundPlace v_next v_token v_tokenPlace v_number)) ⟨hx, hb, hml, hown, hts⟩ (c_X9_within l D cy sa v_number x1 x2 o4 hc5) ⟨va_cnB 3 hts gX8_isNumberWithin_X9_within_n163 rfl rfl rfl (hE.2.1.1 ("HatHours$TextReader", 163, ⟨"HatHours", "within", "(III)Z"⟩, "HatHours") (List.mem_of_getElem? (i := 13) rfl)) q2 (by decide +kernel) ⟨Nat.le_of_ble_eq_true rfl, Nat.le_of_ble_eq_true rfl⟩, q3, trivial⟩ hE hP hDD rfl hS [] rfl rfl rfl rfl hl.1 (Nat.le_of_ble_eq_true rfl) ⟨Nat.zero_le _, Nat.zero_le _⟩ rfl dX8_isNumberWithin_24 rfl (fun H locs hP hS => ?_)
    obtain ⟨hr6, h⟩ := chk_some h
    refine wi_if_ne (tgt := 42) hx hb dX8_isNumberWithin_27 (by decide) hr6 (fun c8 => ?_) (fun c8 => ?_)
    · have h := ite_f c8 h
      refine wi_ic hx hb dX8_isNumberWithin_42 ?_
      refine lv_goto (tgt := 47) hx hb dX8_isNumberWithin_43 (by decide) ?_
      obtain rfl := Option.some.inj h
      exact KR _ _ _ _ (z01 (Or.inr rfl)) hP hS dX8_isNumberWithin_47
    · have h := ite_t c8 h
      refine lv_aload_n hx hb dX8_isNumberWithin_30 rfl (lv_at hl 0 rfl) ?_
      refine wi_ic hx hb dX8_isNumberWithin_31 ?_
      refine lv_aload_n hx hb dX8_isNumberWithin_32 rfl (lv_at hl 0 rfl) ?_
      refine wi_get (v := .int (zI v_tokenPlace)) hx hb hts iX8 hown hE hP 0 rfl rfl 11 (by decide) q4 rfl dX8_isNumberWithin_33 ?_
      obtain ⟨o9, hc10, h⟩ := bnd_some h
      refine cV_i (rest := []) (w2 := (wd_X8_isNumberWithin cy a_v a_v_tape a_v_draft a_v_ahead v_aheadUsed v_orderTold v_startTold v_lines o9.2.1 o9.2.2 v_next v_token v_tokenPlace v_number)) ⟨hx, hb, hml, hown, hts⟩ (c_X8_failed l D cy sa a_v a_v_tape a_v_draft a_v_ahead v_aheadUsed v_orderTold v_startTold v_lines v_foundFault v_foundPlace v_next v_token v_tokenPlace v_number 3 v_tokenPlace o9 hc10) (cwV 2 hts gX8_isNumberWithin_X8_failed rfl rfl rfl (by decide +kernel) ⟨Nat.le_of_ble_eq_true rfl, Nat.le_of_ble_eq_true rfl⟩) rfl rfl rfl hE hP hDD rfl hS [0] rfl rfl rfl rfl hl.1 (Nat.le_of_ble_eq_true rfl) ⟨Nat.zero_le _, Nat.zero_le _⟩ rfl dX8_isNumberWithin_36 rfl (fun H locs hP hS => ?_)
      obtain ⟨hr11, h⟩ := chk_some h
      refine wi_if_eq (tgt := 46) hx hb dX8_isNumberWithin_39 (by decide) hr11 (fun c13 => ?_) (fun c13 => ?_)
      · have h := ite_t c13 h
        refine wi_ic hx hb dX8_isNumberWithin_46 ?_
        obtain rfl := Option.some.inj h
        exact KR _ _ _ _ (z01 (Or.inl rfl)) hP hS dX8_isNumberWithin_47
      · have h := ite_f c13 h
        refine wi_ic hx hb dX8_isNumberWithin_42 ?_
        refine lv_goto (tgt := 47) hx hb dX8_isNumberWithin_43 (by decide) ?_
        obtain rfl := Option.some.inj h
        exact KR _ _ _ _ (z01 (Or.inr rfl)) hP hS dX8_isNumberWithin_47
  · have h := ite_f c3 h
    refine lv_aload_n hx hb dX8_isNumberWithin_8 rfl (lv_at hl 0 rfl) ?_
    refine wi_ic hx hb dX8_isNumberWithin_9 ?_
    refine lv_aload_n hx hb dX8_isNumberWithin_10 rfl (lv_at hl 0 rfl) ?_
    refine wi_get (v := .int (zI v_tokenPlace)) hx hb hts iX8 hown hE hP 0 rfl rfl 11 (by decide) q4 rfl dX8_isNumberWithin_11 ?_
    obtain ⟨o14, hc15, h⟩ := bnd_some h
    refine cV_i (rest := []) (w2 := (wd_X8_isNumberWithin cy a_v a_v_tape a_v_draft a_v_ahead v_aheadUsed v_orderTold v_startTold v_lines o14.2.1 o14.2.2 v_next v_token v_tokenPlace v_number)) ⟨hx, hb, hml, hown, hts⟩ (c_X8_failed l D cy sa a_v a_v_tape a_v_draft a_v_ahead v_aheadUsed v_orderTold v_startTold v_lines v_foundFault v_foundPlace v_next v_token v_tokenPlace v_number 2 v_tokenPlace o14 hc15) (cwV 2 hts gX8_isNumberWithin_X8_failed rfl rfl rfl (by decide +kernel) ⟨Nat.le_of_ble_eq_true rfl, Nat.le_of_ble_eq_true rfl⟩) rfl rfl rfl hE hP hDD rfl hS [0] rfl rfl rfl rfl hl.1 (Nat.le_of_ble_eq_true rfl) ⟨Nat.zero_le _, Nat.zero_le _⟩ rfl dX8_isNumberWithin_14 rfl (fun H locs hP hS => ?_)
    obtain ⟨hk16, h⟩ := chk_some h
    obtain rfl := Option.some.inj h
    exact KR _ _ _ _ (z01 hk16) hP hS dX8_isNumberWithin_17
abbrev wd_X8_isAhead (cy : Nat → ClassId) (a_v : Nat) (a_v_ahead : Nat) (a_v_tape : Nat) (a_v_draft : Nat) (v_aheadUsed : Int) (v_orderTold : Int) (v_startTold : Int) (v_lines : Int) (v_foundFault : Int) (v_foundPlace : Int) (v_next : Int) (v_token : Int) (v_tokenPlace : Int) (v_number : Int) (v_ahead : Nat → Int) : va_W := [(a_v, .inr (8, [.ref a_v_tape, .ref a_v_draft, .ref a_v_ahead, .int (zI v_aheadUsed), .int (zI v_orderTold), .int (zI v_startTold), .int (zI v_lines), .int (zI v_foundFault), .int (zI v_foundPlace), .int (zI v_next), .int (zI v_token), .int (zI v_tokenPlace), .int (zI v_number)])), (a_v_ahead, .inl (cy 0, 5, .inl (fun j => zI (v_ahead j))))]
set_option maxHeartbeats 4000000 in
set_option maxRecDepth 100000 in
theorem c_X8_isAhead (l : Launch) (D : va_G) (cy : Nat → ClassId) (sa : Nat → Nat) (a_v : Nat) (a_v_ahead : Nat) (a_v_tape : Nat) (a_v_draft : Nat) (v_aheadUsed : Int) (v_orderTold : Int) (v_startTold : Int) (v_lines : Int) (v_foundFault : Int) (v_foundPlace : Int) (v_next : Int) (v_token : Int) (v_tokenPlace : Int) (v_number : Int) (v_ahead : Nat → Int) (x1 : Int) (o : Int) (h : f_TextReader_isAhead v_aheadUsed v_ahead x1 = some o) : CtI l yX8_isAhead wsX8_isAhead ({ frames := 0, cells := 0, slots := 0, locals := 0 }) D cy sa [.ref a_v, .int (zI x1)] (wd_X8_isAhead cy a_v a_v_ahead a_v_tape a_v_draft v_aheadUsed v_orderTold v_startTold v_lines v_foundFault v_foundPlace v_next v_token v_tokenPlace v_number v_ahead) (wd_X8_isAhead cy a_v a_v_ahead a_v_tape a_v_draft v_aheadUsed v_orderTold v_startTold v_lines v_foundFault v_foundPlace v_next v_token v_tokenPlace v_number v_ahead) o := by
  refine ct_Z (cc := cX8_isAhead) (maxL := 3) (plainFor_of_name (by decide)) rfl (Nat.le_of_ble_eq_true rfl) ?_
  intro p e s m below meth c A args QQ hx hb hml hown hts hE hDD hP KR ls hl
  have hl : lv_has ls 3 [(0, .ref a_v), (1, .int (zI x1))] := hl
  have hDD : DD A [a_v, a_v_ahead] := hDD
  have hS : va_S A s.heap s.heap [] := va_S.rf
  have q0 := hts (.fieldLink RX8 22 "HatHours$TextReader" "aheadUsed" "I") (List.mem_of_getElem? (i := 1) rfl)
  have q1 := hts (.fieldLink RX8 18 "HatHours$TextReader" "ahead" "[I") (List.mem_of_getElem? (i := 2) rfl)
  have iX8 : ∀ w ∈ u_ws RX8 TX8 13, w ∈ wsX8_isAhead := in_slice 3 13 rfl
  have L2 : ∀ (fuel : Nat) (x1 : Int) (x2 : Int) (H : Heap) (locs : List Loc) (ls : Array Slot), va_P D vwCl (wd_X8_isAhead cy a_v a_v_ahead a_v_tape a_v_draft v_aheadUsed v_orderTold v_startTold v_lines v_foundFault v_foundPlace v_next v_token v_tokenPlace v_number v_ahead) H → va_S A s.heap H locs → lv_has ls 3 [(0, .ref a_v), (1, .int (zI x1)), (2, .int (zI x2))] → f_TextReader_isAhead_L2 fuel v_aheadUsed v_ahead x1 x2 = some o → W p l e { frames := 0, cells := 0, slots := 0, locals := 0 } s m args below meth c H locs 0 0 QQ (F0 m 2 ls []) := by
    intro fuel
    induction fuel with
    | zero => intro _ _ H locs ls hP hS hl h; cases h
    | succ fuel ih =>
      intro x1 x2 H locs ls hP hS hl h
      refine lv_iload_n hx hb dX8_isAhead_2 rfl (lv_at hl 2 rfl) ?_
      refine lv_aload_n hx hb dX8_isAhead_3 rfl (lv_at hl 0 rfl) ?_
      refine wi_get (v := .int (zI v_aheadUsed)) hx hb hts iX8 hown hE hP 0 rfl rfl 3 (by decide) q0 rfl dX8_isAhead_4 ?_
      obtain ⟨hr1, h⟩ := chk_some h
      obtain ⟨hr2, h⟩ := chk_some h
      refine wi_ic_ge (tgt := 28) hx hb dX8_isAhead_7 (by decide) hr1 hr2 (fun c4 => ?_) (fun c4 => ?_)
      · have h := ite_t c4 h
        refine wi_ic hx hb dX8_isAhead_28 ?_
        obtain rfl := Option.some.inj h
        exact KR _ _ _ _ (z01 (Or.inl rfl)) hP hS dX8_isAhead_29
      · have h := ite_f c4 h
        refine lv_aload_n hx hb dX8_isAhead_10 rfl (lv_at hl 0 rfl) ?_
        refine wi_get (v := .ref a_v_ahead) hx hb hts iX8 hown hE hP 0 rfl rfl 2 (by decide) q1 rfl dX8_isAhead_11 ?_
        refine lv_iload_n hx hb dX8_isAhead_14 rfl (lv_at hl 2 rfl) ?_
        obtain ⟨hk5, h⟩ := chk_some h
        refine wi_iald hx hb hE hP 1 rfl (by decide) hk5 dX8_isAhead_15 ?_
        refine lv_iload_n hx hb dX8_isAhead_16 rfl (lv_at hl 1 rfl) ?_
        obtain ⟨hr6, h⟩ := chk_some h
        obtain ⟨hr7, h⟩ := chk_some h
        refine wi_ic_ne (tgt := 22) hx hb dX8_isAhead_17 (by decide) hr6 hr7 (fun c9 => ?_) (fun c9 => ?_)
        · have h := ite_f c9 h
          refine wi_iinc (k := 2) (lv' := [(2, .int (zI (x2 + 1))), (0, .ref a_v), (1, .int (zI x1))]) hx hb dX8_isAhead_22 hl rfl (by decide) rfl (fun ls hl => ?_)
          refine lv_goto (tgt := 2) hx hb dX8_isAhead_25 (by decide) ?_
          exact ih x1 (x2 + 1) _ _ _ hP hS (lv_sub hl [1, 2, 0] rfl) h
        · have h := ite_t c9 h
          refine wi_ic hx hb dX8_isAhead_20 ?_
          obtain rfl := Option.some.inj h
          exact KR _ _ _ _ (z01 (Or.inr rfl)) hP hS dX8_isAhead_21
  refine wi_ic hx hb dX8_isAhead_0 ?_
  refine lv_istore_n (lv' := [(2, .int (zI 0)), (0, .ref a_v), (1, .int (zI x1))]) hx hb dX8_isAhead_1 rfl hl (by decide) rfl (fun ls hl => ?_)
  exact L2 5000 x1 0 _ _ _ hP hS (lv_sub hl [1, 2, 0] rfl) h
