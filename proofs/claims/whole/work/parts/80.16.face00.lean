abbrev wd_X9_feed (cy : Nat → ClassId) (a_v : Nat) (a_v_tape : Nat) (a_v_tape_bytes : Nat) (a_v_reader : Nat) (a_v_shop : Nat) (a_v_seen : Nat) (a_v_images : Nat) (a_v_sheets : Nat) (a_v_search : Nat) (a_v_odds : Nat) (v_lastFault : Int) (v_lastTorn : Int) (v_tape_used : Int) (v_tape_bytes : Nat → Int) : va_W := [(a_v, .inr (9, [.ref a_v_tape, .ref a_v_reader, .ref a_v_shop, .ref a_v_seen, .ref a_v_images, .ref a_v_sheets, .ref a_v_search, .ref a_v_odds, .int (zI v_lastFault), .int (zI v_lastTorn)])), (a_v_tape, .inr (7, [.ref a_v_tape_bytes, .int (zI v_tape_used)])), (a_v_tape_bytes, .inl (cy 1, 160, .inl (fun j => zI (v_tape_bytes j))))]
set_option maxHeartbeats 4000000 in
set_option maxRecDepth 100000 in
theorem c_X9_feed (l : Launch) (D : va_G) (cy : Nat → ClassId) (sa : Nat → Nat) (a_v : Nat) (a_v_tape : Nat) (a_v_tape_bytes : Nat) (a_v_reader : Nat) (a_v_shop : Nat) (a_v_seen : Nat) (a_v_images : Nat) (a_v_sheets : Nat) (a_v_search : Nat) (a_v_odds : Nat) (v_lastFault : Int) (v_lastTorn : Int) (v_tape_used : Int) (v_tape_bytes : Nat → Int) (x1 : Int) (o : Int × Int × (Nat → Int)) (h : f_HH_feed v_tape_used v_tape_bytes x1 = some o) : CtI l yX9_feed wsX9_feed ({ frames := 2, cells := 0, slots := 0, locals := 41 }) D cy sa [.ref a_v, .int (zI x1)] (wd_X9_feed cy a_v a_v_tape a_v_tape_bytes a_v_reader a_v_shop a_v_seen a_v_images a_v_sheets a_v_search a_v_odds v_lastFault v_lastTorn v_tape_used v_tape_bytes) (wd_X9_feed cy a_v a_v_tape a_v_tape_bytes a_v_reader a_v_shop a_v_seen a_v_images a_v_sheets a_v_search a_v_odds v_lastFault v_lastTorn o.2.1 o.2.2) o.1 := by
  refine ct_I (cc := cX9_feed) (maxL := 2) (plainFor_of_name (by decide)) rfl (Nat.le_of_ble_eq_true rfl) ?_
  intro p e s m below meth c A args QQ hx hb hml hown hts hE hDD hP KR ls hl
  have hl : lv_has ls 2 [(0, .ref a_v), (1, .int (zI x1))] := hl
  have hDD : DD A [a_v, a_v_tape, a_v_tape_bytes] := hDD
  have hS : va_S A s.heap s.heap [] := va_S.rf
  have q0 := hts (.fieldLink RX9 10 "HatHours" "tape" "LHatHours$Tape;") (List.mem_of_getElem? (i := 1) rfl)
  have iX9 : ∀ w ∈ u_ws RX9 TX9 10, w ∈ wsX9_feed := in_slice 22 10 rfl
  refine lv_iload_n hx hb dX9_feed_0 rfl (lv_at hl 1 rfl) ?_
  refine wi_ic hx hb dX9_feed_1 ?_
  refine wi_bi hx hb dX9_feed_2 (by decide) ?_
  obtain ⟨o1, hc2, h⟩ := bnd_some h
  refine cS_i (rest := []) (w2 := (wd_X9_feed cy a_v a_v_tape a_v_tape_bytes a_v_reader a_v_shop a_v_seen a_v_images a_v_sheets a_v_search a_v_odds v_lastFault v_lastTorn v_tape_used v_tape_bytes)) ⟨hx, hb, hml, hown, hts⟩ (c_X9_within l D cy sa x1 0 127 o1 hc2) (va_cwS 3 hts gX9_feed_X9_within rfl rfl rfl (by decide +kernel) ⟨Nat.le_of_ble_eq_true rfl, Nat.le_of_ble_eq_true rfl⟩) hE hP hDD rfl hS [] rfl rfl rfl rfl hl.1 (Nat.le_of_ble_eq_true rfl) ⟨Nat.zero_le _, Nat.zero_le _⟩ rfl dX9_feed_4 rfl (fun H locs hP hS => ?_)
  obtain ⟨hr3, h⟩ := chk_some h
  refine wi_if_ne (tgt := 12) hx hb dX9_feed_7 (by decide) hr3 (fun c5 => ?_) (fun c5 => ?_)
  · have h := ite_f c5 h
    refine lv_aload_n hx hb dX9_feed_12 rfl (lv_at hl 0 rfl) ?_
    refine wi_get (v := .ref a_v_tape) hx hb hts iX9 hown hE hP 0 rfl rfl 0 (by decide) q0 rfl dX9_feed_13 ?_
    obtain ⟨o6, hc7, h⟩ := bnd_some h
    refine cV_i (rest := []) (w2 := (wd_X9_feed cy a_v a_v_tape a_v_tape_bytes a_v_reader a_v_shop a_v_seen a_v_images a_v_sheets a_v_search a_v_odds v_lastFault v_lastTorn v_tape_used v_tape_bytes)) ⟨hx, hb, hml, hown, hts⟩ (c_X7_isFull l D cy sa a_v_tape a_v_tape_bytes v_tape_used o6 hc7) (cwV 0 hts gX9_feed_X7_isFull rfl rfl rfl (by decide +kernel) ⟨Nat.le_of_ble_eq_true rfl, Nat.le_of_ble_eq_true rfl⟩) rfl rfl rfl hE hP hDD rfl hS [1] rfl rfl rfl rfl hl.1 (Nat.le_of_ble_eq_true rfl) ⟨Nat.zero_le _, Nat.zero_le _⟩ rfl dX9_feed_16 rfl (fun H locs hP hS => ?_)
    obtain ⟨hr8, h⟩ := chk_some h
    refine wi_if_eq (tgt := 25) hx hb dX9_feed_19 (by decide) hr8 (fun c10 => ?_) (fun c10 => ?_)
    · have h := ite_t c10 h
      refine lv_aload_n hx hb dX9_feed_25 rfl (lv_at hl 0 rfl) ?_
      refine wi_get (v := .ref a_v_tape) hx hb hts iX9 hown hE hP 0 rfl rfl 0 (by decide) q0 rfl dX9_feed_26 ?_
      refine lv_iload_n hx hb dX9_feed_29 rfl (lv_at hl 1 rfl) ?_
      obtain ⟨o11, hc12, h⟩ := bnd_some h
      refine cV_v (rest := []) (w2 := (wd_X9_feed cy a_v a_v_tape a_v_tape_bytes a_v_reader a_v_shop a_v_seen a_v_images a_v_sheets a_v_search a_v_odds v_lastFault v_lastTorn o11.1 o11.2)) ⟨hx, hb, hml, hown, hts⟩ (c_X7_append l D cy sa a_v_tape a_v_tape_bytes v_tape_used v_tape_bytes x1 o11 hc12) (cwV 1 hts gX9_feed_X7_append rfl rfl rfl (by decide +kernel) ⟨Nat.le_of_ble_eq_true rfl, Nat.le_of_ble_eq_true rfl⟩) rfl rfl rfl hE hP hDD rfl hS [1, 2] rfl rfl rfl rfl hl.1 (Nat.le_of_ble_eq_true rfl) ⟨Nat.zero_le _, Nat.zero_le _⟩ rfl dX9_feed_30 rfl (fun H locs hP hS => ?_)
      refine lv_aload_n hx hb dX9_feed_33 rfl (lv_at hl 0 rfl) ?_
      refine wi_get (v := .ref a_v_tape) hx hb hts iX9 hown hE hP 0 rfl rfl 0 (by decide) q0 rfl dX9_feed_34 ?_
      obtain ⟨o13, hc14, h⟩ := bnd_some h
      refine cV_i (rest := []) (w2 := (wd_X9_feed cy a_v a_v_tape a_v_tape_bytes a_v_reader a_v_shop a_v_seen a_v_images a_v_sheets a_v_search a_v_odds v_lastFault v_lastTorn o11.1 o11.2)) ⟨hx, hb, hml, hown, hts⟩ (c_X7_size l D cy sa a_v_tape a_v_tape_bytes o11.1 o13 hc14) (cwV 0 hts gX9_feed_X7_size rfl rfl rfl (by decide +kernel) ⟨Nat.le_of_ble_eq_true rfl, Nat.le_of_ble_eq_true rfl⟩) rfl rfl rfl hE hP hDD rfl hS [1] rfl rfl rfl rfl hl.1 (Nat.le_of_ble_eq_true rfl) ⟨Nat.zero_le _, Nat.zero_le _⟩ rfl dX9_feed_37 rfl (fun H locs hP hS => ?_)
      obtain rfl := Option.some.inj h
      exact KR _ _ _ _ hP hS dX9_feed_40
    · have h := ite_f c10 h
      refine wi_bi hx hb dX9_feed_22 (by decide) ?_
      obtain rfl := Option.some.inj h
      exact KR _ _ _ _ hP hS dX9_feed_24
  · have h := ite_t c5 h
    refine wi_ic hx hb dX9_feed_10 ?_
    obtain rfl := Option.some.inj h
    exact KR _ _ _ _ hP hS dX9_feed_11
abbrev wd_X9_end (cy : Nat → ClassId) (a_v : Nat) (a_v_tape : Nat) (a_v_reader : Nat) (a_v_shop : Nat) (a_v_seen : Nat) (a_v_images : Nat) (a_v_sheets : Nat) (a_v_search : Nat) (a_v_odds : Nat) (a_v_tape_bytes : Nat) (v_lastFault : Int) (v_lastTorn : Int) (v_tape_used : Int) : va_W := [(a_v, .inr (9, [.ref a_v_tape, .ref a_v_reader, .ref a_v_shop, .ref a_v_seen, .ref a_v_images, .ref a_v_sheets, .ref a_v_search, .ref a_v_odds, .int (zI v_lastFault), .int (zI v_lastTorn)])), (a_v_tape, .inr (7, [.ref a_v_tape_bytes, .int (zI v_tape_used)]))]
set_option maxHeartbeats 4000000 in
set_option maxRecDepth 100000 in
theorem c_X9_end (l : Launch) (D : va_G) (cy : Nat → ClassId) (sa : Nat → Nat) (a_v : Nat) (a_v_tape : Nat) (a_v_reader : Nat) (a_v_shop : Nat) (a_v_seen : Nat) (a_v_images : Nat) (a_v_sheets : Nat) (a_v_search : Nat) (a_v_odds : Nat) (a_v_tape_bytes : Nat) (v_lastFault : Int) (v_lastTorn : Int) (v_tape_used : Int) (x1 : Int) (o : Int × Int) (h : f_HH_end v_tape_used x1 = some o) : CtI l yX9_end wsX9_end ({ frames := 2, cells := 0, slots := 0, locals := 43 }) D cy sa [.ref a_v, .int (zI x1)] (wd_X9_end cy a_v a_v_tape a_v_reader a_v_shop a_v_seen a_v_images a_v_sheets a_v_search a_v_odds a_v_tape_bytes v_lastFault v_lastTorn v_tape_used) (wd_X9_end cy a_v a_v_tape a_v_reader a_v_shop a_v_seen a_v_images a_v_sheets a_v_search a_v_odds a_v_tape_bytes v_lastFault v_lastTorn o.2) o.1 := by
  refine ct_I (cc := cX9_end) (maxL := 3) (plainFor_of_name (by decide)) rfl (Nat.le_of_ble_eq_true rfl) ?_
  intro p e s m below meth c A args QQ hx hb hml hown hts hE hDD hP KR ls hl
  have hl : lv_has ls 3 [(0, .ref a_v), (1, .int (zI x1))] := hl
  have hDD : DD A [a_v, a_v_tape] := hDD
  have hS : va_S A s.heap s.heap [] := va_S.rf
  have q0 := hts (.fieldLink RX9 10 "HatHours" "tape" "LHatHours$Tape;") (List.mem_of_getElem? (i := 1) rfl)
  have iX9 : ∀ w ∈ u_ws RX9 TX9 10, w ∈ wsX9_end := in_slice 16 10 rfl
  refine lv_aload_n hx hb dX9_end_0 rfl (lv_at hl 0 rfl) ?_
  refine wi_get (v := .ref a_v_tape) hx hb hts iX9 hown hE hP 0 rfl rfl 0 (by decide) q0 rfl dX9_end_1 ?_
  obtain ⟨o1, hc2, h⟩ := bnd_some h
  refine cV_i (rest := []) (w2 := (wd_X9_end cy a_v a_v_tape a_v_reader a_v_shop a_v_seen a_v_images a_v_sheets a_v_search a_v_odds a_v_tape_bytes v_lastFault v_lastTorn v_tape_used)) ⟨hx, hb, hml, hown, hts⟩ (c_X7_size l D cy sa a_v_tape a_v_tape_bytes v_tape_used o1 hc2) (cwV 0 hts gX9_end_X7_size rfl rfl rfl (by decide +kernel) ⟨Nat.le_of_ble_eq_true rfl, Nat.le_of_ble_eq_true rfl⟩) rfl rfl rfl hE hP hDD rfl hS [1] rfl rfl rfl rfl hl.1 (Nat.le_of_ble_eq_true rfl) ⟨Nat.zero_le _, Nat.zero_le _⟩ rfl dX9_end_4 rfl (fun H locs hP hS => ?_)
  refine lv_istore_n (lv' := [(2, .int (zI o1)), (0, .ref a_v), (1, .int (zI x1))]) hx hb dX9_end_7 rfl hl (by decide) rfl (fun ls hl => ?_)
  refine lv_iload_n hx hb dX9_end_8 rfl (lv_at hl 2 rfl) ?_
  refine wi_ic hx hb dX9_end_9 ?_
  refine lv_iload_n hx hb dX9_end_10 rfl (lv_at hl 0 rfl) ?_
  obtain ⟨o3, hc4, h⟩ := bnd_some h
  refine cS_i (rest := []) (w2 := (wd_X9_end cy a_v a_v_tape a_v_reader a_v_shop a_v_seen a_v_images a_v_sheets a_v_search a_v_odds a_v_tape_bytes v_lastFault v_lastTorn v_tape_used)) ⟨hx, hb, hml, hown, hts⟩ (c_X9_within l D cy sa x1 0 o1 o3 hc4) (va_cwS 3 hts gX9_end_X9_within rfl rfl rfl (by decide +kernel) ⟨Nat.le_of_ble_eq_true rfl, Nat.le_of_ble_eq_true rfl⟩) hE hP hDD rfl hS [] rfl rfl rfl rfl hl.1 (Nat.le_of_ble_eq_true rfl) ⟨Nat.zero_le _, Nat.zero_le _⟩ rfl dX9_end_11 rfl (fun H locs hP hS => ?_)
  obtain ⟨hr5, h⟩ := chk_some h
  refine wi_if_ne (tgt := 19) hx hb dX9_end_14 (by decide) hr5 (fun c7 => ?_) (fun c7 => ?_)
  · have h := ite_f c7 h
    refine lv_aload_n hx hb dX9_end_19 rfl (lv_at hl 1 rfl) ?_
    refine wi_get (v := .ref a_v_tape) hx hb hts iX9 hown hE hP 0 rfl rfl 0 (by decide) q0 rfl dX9_end_20 ?_
    refine lv_iload_n hx hb dX9_end_23 rfl (lv_at hl 2 rfl) ?_
    obtain ⟨o8, hc9, h⟩ := bnd_some h
    refine cV_v (rest := []) (w2 := (wd_X9_end cy a_v a_v_tape a_v_reader a_v_shop a_v_seen a_v_images a_v_sheets a_v_search a_v_odds a_v_tape_bytes v_lastFault v_lastTorn o8)) ⟨hx, hb, hml, hown, hts⟩ (c_X7_cut l D cy sa a_v_tape a_v_tape_bytes v_tape_used x1 o8 hc9) (cwV 1 hts gX9_end_X7_cut rfl rfl rfl (by decide +kernel) ⟨Nat.le_of_ble_eq_true rfl, Nat.le_of_ble_eq_true rfl⟩) rfl rfl rfl hE hP hDD rfl hS [1] rfl rfl rfl rfl hl.1 (Nat.le_of_ble_eq_true rfl) ⟨Nat.zero_le _, Nat.zero_le _⟩ rfl dX9_end_24 rfl (fun H locs hP hS => ?_)
    refine lv_iload_n hx hb dX9_end_27 rfl (lv_at hl 0 rfl) ?_
    obtain rfl := Option.some.inj h
    exact KR _ _ _ _ hP hS dX9_end_28
  · have h := ite_t c7 h
    refine wi_ic hx hb dX9_end_17 ?_
    obtain rfl := Option.some.inj h
    exact KR _ _ _ _ hP hS dX9_end_18
abbrev wd_X9_text (cy : Nat → ClassId) (a_v : Nat) (a_v_images : Nat) (a_v_images0 : Nat) (a_v_images1 : Nat) (a_v_reader : Nat) (a_v_reader_ahead : Nat) (a_v_reader_draft : Nat) (a_v_reader_draft_facts : Nat) (a_v_reader_draft_places : Nat) (a_v_seen : Nat) (a_v_shop : Nat) (a_v_shop_facts : Nat) (a_v_shop_places : Nat) (a_v_tape : Nat) (a_v_tape_bytes : Nat) (a_v_sheets : Nat) (a_v_search : Nat) (a_v_odds : Nat) (a_v_images0_shop : Nat) (a_v_images0_seen : Nat) (a_v_images1_shop : Nat) (a_v_images1_seen : Nat) (a_v_seen_rooms : Nat) (a_v_seen_hours : Nat) (a_v_seen_oclocks : Nat) (v_lastFault : Int) (v_lastTorn : Int) (v_images0_there : Int) (v_images1_there : Int) (v_reader_aheadUsed : Int) (v_reader_orderTold : Int) (v_reader_startTold : Int) (v_reader_lines : Int) (v_reader_foundFault : Int) (v_reader_foundPlace : Int) (v_reader_next : Int) (v_reader_token : Int) (v_reader_tokenPlace : Int) (v_reader_number : Int) (v_reader_ahead : Nat → Int) (v_reader_draft_boxes : Int) (v_reader_draft_startsAt : Int) (v_reader_draft_facts : Nat → Int) (v_reader_draft_places : Nat → Int) (v_seen_used : Int) (v_shop_boxes : Int) (v_shop_startsAt : Int) (v_shop_facts : Nat → Int) (v_shop_places : Nat → Int) (v_tape_used : Int) (v_tape_bytes : Nat → Int) : va_W := [(a_v, .inr (9, [.ref a_v_tape, .ref a_v_reader, .ref a_v_shop, .ref a_v_seen, .ref a_v_images, .ref a_v_sheets, .ref a_v_search, .ref a_v_odds, .int (zI v_lastFault), .int (zI v_lastTorn)])), (a_v_images, .inl (cy 4, 2, .inr (.inr (.inr (.inr (imF a_v_images0 a_v_images1)))))), (a_v_images0, .inr (0, [.ref a_v_images0_shop, .ref a_v_images0_seen, .int (zI v_images0_there)])), (a_v_images1, .inr (0, [.ref a_v_images1_shop, .ref a_v_images1_seen, .int (zI v_images1_there)])), (a_v_reader, .inr (8, [.ref a_v_tape, .ref a_v_reader_draft, .ref a_v_reader_ahead, .int (zI v_reader_aheadUsed), .int (zI v_reader_orderTold), .int (zI v_reader_startTold), .int (zI v_reader_lines), .int (zI v_reader_foundFault), .int (zI v_reader_foundPlace), .int (zI v_reader_next), .int (zI v_reader_token), .int (zI v_reader_tokenPlace), .int (zI v_reader_number)])), (a_v_reader_ahead, .inl (cy 0, 5, .inl (fun j => zI (v_reader_ahead j)))), (a_v_reader_draft, .inr (5, [.ref a_v_reader_draft_facts, .ref a_v_reader_draft_places, .int (zI v_reader_draft_boxes), .int (zI v_reader_draft_startsAt)])), (a_v_reader_draft_facts, .inl (cy 0, 30, .inl (fun j => zI (v_reader_draft_facts j)))), (a_v_reader_draft_places, .inl (cy 0, 5, .inl (fun j => zI (v_reader_draft_places j)))), (a_v_seen, .inr (6, [.ref a_v_seen_rooms, .ref a_v_seen_hours, .ref a_v_seen_oclocks, .int (zI v_seen_used)])), (a_v_shop, .inr (5, [.ref a_v_shop_facts, .ref a_v_shop_places, .int (zI v_shop_boxes), .int (zI v_shop_startsAt)])), (a_v_shop_facts, .inl (cy 0, 30, .inl (fun j => zI (v_shop_facts j)))), (a_v_shop_places, .inl (cy 0, 5, .inl (fun j => zI (v_shop_places j)))), (a_v_tape, .inr (7, [.ref a_v_tape_bytes, .int (zI v_tape_used)])), (a_v_tape_bytes, .inl (cy 1, 160, .inl (fun j => zI (v_tape_bytes j))))]
set_option maxHeartbeats 4000000 in
set_option maxRecDepth 100000 in
theorem c_X9_text (l : Launch) (D : va_G) (cy : Nat → ClassId) (sa : Nat → Nat) (a_v : Nat) (a_v_images : Nat) (a_v_images0 : Nat) (a_v_images1 : Nat) (a_v_reader : Nat) (a_v_reader_ahead : Nat) (a_v_reader_draft : Nat) (a_v_reader_draft_facts : Nat) (a_v_reader_draft_places : Nat) (a_v_seen : Nat) (a_v_shop : Nat) (a_v_shop_facts : Nat) (a_v_shop_places : Nat) (a_v_tape : Nat) (a_v_tape_bytes : Nat) (a_v_sheets : Nat) (a_v_search : Nat) (a_v_odds : Nat) (a_v_images0_shop : Nat) (a_v_images0_seen : Nat) (a_v_images1_shop : Nat) (a_v_images1_seen : Nat) (a_v_seen_rooms : Nat) (a_v_seen_hours : Nat) (a_v_seen_oclocks : Nat) (v_lastFault : Int) (v_lastTorn : Int) (v_images0_there : Int) (v_images1_there : Int) (v_reader_aheadUsed : Int) (v_reader_orderTold : Int) (v_reader_startTold : Int) (v_reader_lines : Int) (v_reader_foundFault : Int) (v_reader_foundPlace : Int) (v_reader_next : Int) (v_reader_token : Int) (v_reader_tokenPlace : Int) (v_reader_number : Int) (v_reader_ahead : Nat → Int) (v_reader_draft_boxes : Int) (v_reader_draft_startsAt : Int) (v_reader_draft_facts : Nat → Int) (v_reader_draft_places : Nat → Int) (v_seen_used : Int) (v_shop_boxes : Int) (v_shop_startsAt : Int) (v_shop_facts : Nat → Int) (v_shop_places : Nat → Int) (v_tape_used : Int) (v_tape_bytes : Nat → Int) (o : Int × Int × Int × Int × Int × Int × Int × Int × Int × Int × Int × Int × Int × Int × (Nat → Int) × Int × Int × (Nat → Int) × (Nat → Int) × Int × Int × Int × (Nat → Int) × (Nat → Int) × Int) (h : f_HH_text v_lastFault v_images0_there v_images1_there v_reader_aheadUsed v_reader_orderTold v_reader_startTold v_reader_lines v_reader_foundFault v_reader_foundPlace v_reader_next v_reader_token v_reader_tokenPlace v_reader_number v_reader_ahead v_reader_draft_boxes v_reader_draft_startsAt v_reader_draft_facts v_reader_draft_places v_seen_used v_shop_boxes v_shop_startsAt v_shop_facts v_shop_places v_tape_used v_tape_bytes = some o) : CtI l yX9_text wsX9_text ({ frames := 9, cells := 0, slots := 0, locals := 194 }) D cy sa [.ref a_v] (wd_X9_text cy a_v a_v_images a_v_images0 a_v_images1 a_v_reader a_v_reader_ahead a_v_reader_draft a_v_reader_draft_facts a_v_reader_draft_places a_v_seen a_v_shop a_v_shop_facts a_v_shop_places a_v_tape a_v_tape_bytes a_v_sheets a_v_search a_v_odds a_v_images0_shop a_v_images0_seen a_v_images1_shop a_v_images1_seen a_v_seen_rooms a_v_seen_hours a_v_seen_oclocks v_lastFault v_lastTorn v_images0_there v_images1_there v_reader_aheadUsed v_reader_orderTold v_reader_startTold v_reader_lines v_reader_foundFault v_reader_foundPlace v_reader_next v_reader_token v_reader_tokenPlace v_reader_number v_reader_ahead v_reader_draft_boxes v_reader_draft_startsAt v_reader_draft_facts v_reader_draft_places v_seen_used v_shop_boxes v_shop_startsAt v_shop_facts v_shop_places v_tape_used v_tape_bytes) (wd_X9_text cy a_v a_v_images a_v_images0 a_v_images1 a_v_reader a_v_reader_ahead a_v_reader_draft a_v_reader_draft_facts a_v_reader_draft_places a_v_seen a_v_shop a_v_shop_facts a_v_shop_places a_v_tape a_v_tape_bytes a_v_sheets a_v_search a_v_odds a_v_images0_shop a_v_images0_seen a_v_images1_shop a_v_images1_seen a_v_seen_rooms a_v_seen_hours a_v_seen_oclocks o.2.1 v_lastTorn o.2.2.1 o.2.2.2.1 o.2.2.2.2.1 o.2.2.2.2.2.1 o.2.2.2.2.2.2.1 o.2.2.2.2.2.2.2.1 o.2.2.2.2.2.2.2.2.1 o.2.2.2.2.2.2.2.2.2.1 o.2.2.2.2.2.2.2.2.2.2.1 o.2.2.2.2.2.2.2.2.2.2.2.1 o.2.2.2.2.2.2.2.2.2.2.2.2.1 o.2.2.2.2.2.2.2.2.2.2.2.2.2.1 o.2.2.2.2.2.2.2.2.2.2.2.2.2.2.1 o.2.2.2.2.2.2.2.2.2.2.2.2.2.2.2.1 o.2.2.2.2.2.2.2.2.2.2.2.2.2.2.2.2.1 o.2.2.2.2.2.2.2.2.2.2.2.2.2.2.2.2.2.1 o.2.2.2.2.2.2.2.2.2.2.2.2.2.2.2.2.2.2.1 o.2.2.2.2.2.2.2.2.2.2.2.2.2.2.2.2.2.2.2.1 o.2.2.2.2.2.2.2.2.2.2.2.2.2.2.2.2.2.2.2.2.1 o.2.2.2.2.2.2.2.2.2.2.2.2.2.2.2.2.2.2.2.2.2.1 o.2.2.2.2.2.2.2.2.2.2.2.2.2.2.2.2.2.2.2.2.2.2.1 o.2.2.2.2.2.2.2.2.2.2.2.2.2.2.2.2.2.2.2.2.2.2.2.1 o.2.2.2.2.2.2.2.2.2.2.2.2.2.2.2.2.2.2.2.2.2.2.2.2 v_tape_bytes) o.1 := by
  refine ct_I (cc := cX9_text) (maxL := 6) (plainFor_of_name (by decide)) rfl (Nat.le_of_ble_eq_true rfl) ?_
  intro p e s m below meth c A args QQ hx hb hml hown hts hE hDD hP KR ls hl
  have hl : lv_has ls 6 [(0, .ref a_v)] := hl
  have hDD : DD A [a_v, a_v_images, a_v_images0, a_v_images1, a_v_reader, a_v_reader_ahead, a_v_reader_draft, a_v_reader_draft_facts, a_v_reader_draft_places, a_v_seen, a_v_shop, a_v_shop_facts, a_v_shop_places, a_v_tape, a_v_tape_bytes] := hDD
  have hS : va_S A s.heap s.heap [] := va_S.rf
  have q0 := hts (.fieldLink RX9 21 "HatHours" "reader" "LHatHours$TextReader;") (List.mem_of_getElem? (i := 1) rfl)
  have q1 := hts (.fieldLink RX9 10 "HatHours" "tape" "LHatHours$Tape;") (List.mem_of_getElem? (i := 2) rfl)
  have q2 := hts (.fieldLink RX9 92 "HatHours" "lastFault" "I") (List.mem_of_getElem? (i := 3) rfl)
  have q3 := hts (.fieldLink RX9 28 "HatHours" "shop" "LHatHours$Shop;") (List.mem_of_getElem? (i := 4) rfl)
  have q4 := hts (.fieldLink RX9 35 "HatHours" "seen" "LHatHours$Sightings;") (List.mem_of_getElem? (i := 5) rfl)
  have q5 := hts (.fieldLink RX9 42 "HatHours" "images" "[LHatHours$Image;") (List.mem_of_getElem? (i := 6) rfl)
  have iX9 : ∀ w ∈ u_ws RX9 TX9 10, w ∈ wsX9_text := in_slice 249 10 rfl
  have L75 : ∀ (fuel : Nat) (v_lastFault : Int) (v_images0_there : Int) (v_images1_there : Int) (v_reader_aheadUsed : Int) (v_reader_orderTold : Int) (v_reader_startTold : Int) (v_reader_lines : Int) (v_reader_foundFault : Int) (v_reader_foundPlace : Int) (v_reader_next : Int) (v_reader_token : Int) (v_reader_tokenPlace : Int) (v_reader_number : Int) (v_reader_ahead : Nat → Int) (v_reader_draft_boxes : Int) (v_reader_draft_startsAt : Int) (v_reader_draft_facts : Nat → Int) (v_reader_draft_places : Nat → Int) (v_seen_used : Int) (v_shop_boxes : Int) (v_shop_startsAt : Int) (v_shop_facts : Nat → Int) (v_shop_places : Nat → Int) (v_tape_used : Int) (x3 : Int) (x4 : Int) (H : Heap) (locs : List Loc) (ls : Array Slot) (ex : Int × Int), va_P D vwCl (wd_X9_text cy a_v a_v_images a_v_images0 a_v_images1 a_v_reader a_v_reader_ahead a_v_reader_draft a_v_reader_draft_facts a_v_reader_draft_places a_v_seen a_v_shop a_v_shop_facts a_v_shop_places a_v_tape a_v_tape_bytes a_v_sheets a_v_search a_v_odds a_v_images0_shop a_v_images0_seen a_v_images1_shop a_v_images1_seen a_v_seen_rooms a_v_seen_hours a_v_seen_oclocks v_lastFault v_lastTorn v_images0_there v_images1_there v_reader_aheadUsed v_reader_orderTold v_reader_startTold v_reader_lines v_reader_foundFault v_reader_foundPlace v_reader_next v_reader_token v_reader_tokenPlace v_reader_number v_reader_ahead v_reader_draft_boxes v_reader_draft_startsAt v_reader_draft_facts v_reader_draft_places v_seen_used v_shop_boxes v_shop_startsAt v_shop_facts v_shop_places v_tape_used v_tape_bytes) H → va_S A s.heap H locs → lv_has ls 6 [(0, .ref a_v), (2, .ref a_v_images), (3, .int (zI x3)), (4, .int (zI x4))] → f_HH_text_L75 fuel v_images0_there v_images1_there x3 x4 = some ex → (∀ (H : Heap) (locs : List Loc) (ls : Array Slot), va_P D vwCl (wd_X9_text cy a_v a_v_images a_v_images0 a_v_images1 a_v_reader a_v_reader_ahead a_v_reader_draft a_v_reader_draft_facts a_v_reader_draft_places a_v_seen a_v_shop a_v_shop_facts a_v_shop_places a_v_tape a_v_tape_bytes a_v_sheets a_v_search a_v_odds a_v_images0_shop a_v_images0_seen a_v_images1_shop a_v_images1_seen a_v_seen_rooms a_v_seen_hours a_v_seen_oclocks v_lastFault v_lastTorn ex.1 ex.2 v_reader_aheadUsed v_reader_orderTold v_reader_startTold v_reader_lines v_reader_foundFault v_reader_foundPlace v_reader_next v_reader_token v_reader_tokenPlace v_reader_number v_reader_ahead v_reader_draft_boxes v_reader_draft_startsAt v_reader_draft_facts v_reader_draft_places v_seen_used v_shop_boxes v_shop_startsAt v_shop_facts v_shop_places v_tape_used v_tape_bytes) H → va_S A s.heap H locs → lv_has ls 6 [(0, .ref a_v)] → W p l e { frames := 9, cells := 0, slots := 0, locals := 194 } s m args below meth c H locs 0 0 QQ (F0 m 98 ls [])) → W p l e { frames := 9, cells := 0, slots := 0, locals := 194 } s m args below meth c H locs 0 0 QQ (F0 m 75 ls []) := by
    intro fuel
    induction fuel with
    | zero => intro _ _ _ _ _ _ _ _ _ _ _ _ _ _ _ _ _ _ _ _ _ _ _ _ _ _ H locs ls ex hP hS hl h K; cases h
    | succ fuel ih =>
      intro v_lastFault v_images0_there v_images1_there v_reader_aheadUsed v_reader_orderTold v_reader_startTold v_reader_lines v_reader_foundFault v_reader_foundPlace v_reader_next v_reader_token v_reader_tokenPlace v_reader_number v_reader_ahead v_reader_draft_boxes v_reader_draft_startsAt v_reader_draft_facts v_reader_draft_places v_seen_used v_shop_boxes v_shop_startsAt v_shop_facts v_shop_places v_tape_used x3 x4 H locs ls ex hP hS hl h K
      refine lv_iload hx hb dX9_text_75 (lv_at hl 3 rfl) ?_
      refine lv_iload_n hx hb dX9_text_77 rfl (lv_at hl 2 rfl) ?_
      obtain ⟨hr16, h⟩ := chk_some h
      obtain ⟨hr17, h⟩ := chk_some h
      refine wi_ic_ge (tgt := 98) hx hb dX9_text_78 (by decide) hr16 hr17 (fun c19 => ?_) (fun c19 => ?_)
      · have h := ite_t c19 h
        obtain rfl := Option.some.inj h
        exact K _ _ _ hP hS (lv_sub hl [0] rfl)
      · have h := ite_f c19 h
        refine lv_aload_n hx hb dX9_text_81 rfl (lv_at hl 1 rfl) ?_
        refine lv_iload hx hb dX9_text_82 (lv_at hl 3 rfl) ?_
        obtain ⟨hk20, h⟩ := chk_some h
        refine wi_ald hx hb hE hP 1 rfl hk20 dX9_text_84 (fun c1 => ?_) (fun c1 => ?_)
        · have h := ite_t c1 h
          refine lv_astore (lv' := [(5, .ref a_v_images0), (0, .ref a_v), (2, .ref a_v_images), (3, .int (zI x3)), (4, .int (zI x4))]) hx hb dX9_text_85 hl (by decide) rfl (fun ls hl => ?_)
          refine lv_aload hx hb dX9_text_87 (lv_at hl 0 rfl) ?_
          obtain ⟨o21, hc22, h⟩ := bnd_some h
          refine cV_v (rest := []) (w2 := (wd_X9_text cy a_v a_v_images a_v_images0 a_v_images1 a_v_reader a_v_reader_ahead a_v_reader_draft a_v_reader_draft_facts a_v_reader_draft_places a_v_seen a_v_shop a_v_shop_facts a_v_shop_places a_v_tape a_v_tape_bytes a_v_sheets a_v_search a_v_odds a_v_images0_shop a_v_images0_seen a_v_images1_shop a_v_images1_seen a_v_seen_rooms a_v_seen_hours a_v_seen_oclocks v_lastFault v_lastTorn o21 v_images1_there v_reader_aheadUsed v_reader_orderTold v_reader_startTold v_reader_lines v_reader_foundFault v_reader_foundPlace v_reader_next v_reader_token v_reader_tokenPlace v_reader_number v_reader_ahead v_reader_draft_boxes v_reader_draft_startsAt v_reader_draft_facts v_reader_draft_places v_seen_used v_shop_boxes v_shop_startsAt v_shop_facts v_shop_places v_tape_used v_tape_bytes)) ⟨hx, hb, hml, hown, hts⟩ (c_X0_drop l D cy sa a_v_images0 a_v_images0_shop a_v_images0_seen v_images0_there o21 hc22) (cwV 0 hts gX9_text_X0_drop rfl rfl rfl (by decide +kernel) ⟨Nat.le_of_ble_eq_true rfl, Nat.le_of_ble_eq_true rfl⟩) rfl rfl rfl hE hP hDD rfl hS [2] rfl rfl rfl rfl hl.1 (Nat.le_of_ble_eq_true rfl) ⟨Nat.zero_le _, Nat.zero_le _⟩ rfl dX9_text_89 rfl (fun H locs hP hS => ?_)
          refine wi_iinc (k := 4) (lv' := [(4, .int (zI (x4 + 1))), (5, .ref a_v_images0), (0, .ref a_v), (2, .ref a_v_images), (3, .int (zI x3))]) hx hb dX9_text_92 hl rfl (by decide) rfl (fun ls hl => ?_)
          refine lv_goto (tgt := 75) hx hb dX9_text_95 (by decide) ?_
          exact ih v_lastFault o21 v_images1_there v_reader_aheadUsed v_reader_orderTold v_reader_startTold v_reader_lines v_reader_foundFault v_reader_foundPlace v_reader_next v_reader_token v_reader_tokenPlace v_reader_number v_reader_ahead v_reader_draft_boxes v_reader_draft_startsAt v_reader_draft_facts v_reader_draft_places v_seen_used v_shop_boxes v_shop_startsAt v_shop_facts v_shop_places v_tape_used x3 (x4 + 1) _ _ _ _ hP hS (lv_sub hl [2, 3, 4, 0] rfl) h K
        · have h := ite_f c1 h
          refine lv_astore (lv' := [(5, .ref a_v_images1), (0, .ref a_v), (2, .ref a_v_images), (3, .int (zI x3)), (4, .int (zI x4))]) hx hb dX9_text_85 hl (by decide) rfl (fun ls hl => ?_)
          refine lv_aload hx hb dX9_text_87 (lv_at hl 0 rfl) ?_
          obtain ⟨o23, hc24, h⟩ := bnd_some h
          refine cV_v (rest := []) (w2 := (wd_X9_text cy a_v a_v_images a_v_images0 a_v_images1 a_v_reader a_v_reader_ahead a_v_reader_draft a_v_reader_draft_facts a_v_reader_draft_places a_v_seen a_v_shop a_v_shop_facts a_v_shop_places a_v_tape a_v_tape_bytes a_v_sheets a_v_search a_v_odds a_v_images0_shop a_v_images0_seen a_v_images1_shop a_v_images1_seen a_v_seen_rooms a_v_seen_hours a_v_seen_oclocks v_lastFault v_lastTorn v_images0_there o23 v_reader_aheadUsed v_reader_orderTold v_reader_startTold v_reader_lines v_reader_foundFault v_reader_foundPlace v_reader_next v_reader_token v_reader_tokenPlace v_reader_number v_reader_ahead v_reader_draft_boxes v_reader_draft_startsAt v_reader_draft_facts v_reader_draft_places v_seen_used v_shop_boxes v_shop_startsAt v_shop_facts v_shop_places v_tape_used v_tape_bytes)) ⟨hx, hb, hml, hown, hts⟩ (c_X0_drop l D cy sa a_v_images1 a_v_images1_shop a_v_images1_seen v_images1_there o23 hc24) (cwV 0 hts gX9_text_X0_drop rfl rfl rfl (by decide +kernel) ⟨Nat.le_of_ble_eq_true rfl, Nat.le_of_ble_eq_true rfl⟩) rfl rfl rfl hE hP hDD rfl hS [3] rfl rfl rfl rfl hl.1 (Nat.le_of_ble_eq_true rfl) ⟨Nat.zero_le _, Nat.zero_le _⟩ rfl dX9_text_89 rfl (fun H locs hP hS => ?_)
          refine wi_iinc (k := 4) (lv' := [(4, .int (zI (x4 + 1))), (5, .ref a_v_images1), (0, .ref a_v), (2, .ref a_v_images), (3, .int (zI x3))]) hx hb dX9_text_92 hl rfl (by decide) rfl (fun ls hl => ?_)
          refine lv_goto (tgt := 75) hx hb dX9_text_95 (by decide) ?_
          exact ih v_lastFault v_images0_there o23 v_reader_aheadUsed v_reader_orderTold v_reader_startTold v_reader_lines v_reader_foundFault v_reader_foundPlace v_reader_next v_reader_token v_reader_tokenPlace v_reader_number v_reader_ahead v_reader_draft_boxes v_reader_draft_startsAt v_reader_draft_facts v_reader_draft_places v_seen_used v_shop_boxes v_shop_startsAt v_shop_facts v_shop_places v_tape_used x3 (x4 + 1) _ _ _ _ hP hS (lv_sub hl [2, 3, 4, 0] rfl) h K
  refine lv_aload_n hx hb dX9_text_0 rfl (lv_at hl 0 rfl) ?_
  refine wi_get (v := .ref a_v_reader) hx hb hts iX9 hown hE hP 0 rfl rfl 1 (by decide) q0 rfl dX9_text_1 ?_
  obtain ⟨o1, hc2, h⟩ := bnd_some h
  refine cV_i (rest := []) (w2 := (wd_X9_text cy a_v a_v_images a_v_images0 a_v_images1 a_v_reader a_v_reader_ahead a_v_reader_draft a_v_reader_draft_facts a_v_reader_draft_places a_v_seen a_v_shop a_v_shop_facts a_v_shop_places a_v_tape a_v_tape_bytes a_v_sheets a_v_search a_v_odds a_v_images0_shop a_v_images0_seen a_v_images1_shop a_v_images1_seen a_v_seen_rooms a_v_seen_hours a_v_seen_oclocks v_lastFault v_lastTorn v_images0_there v_images1_there o1.2.1 o1.2.2.1 o1.2.2.2.1 o1.2.2.2.2.1 o1.2.2.2.2.2.1 o1.2.2.2.2.2.2.1 o1.2.2.2.2.2.2.2.1 o1.2.2.2.2.2.2.2.2.1 o1.2.2.2.2.2.2.2.2.2.1 o1.2.2.2.2.2.2.2.2.2.2.1 o1.2.2.2.2.2.2.2.2.2.2.2.1 o1.2.2.2.2.2.2.2.2.2.2.2.2.1 o1.2.2.2.2.2.2.2.2.2.2.2.2.2.1 o1.2.2.2.2.2.2.2.2.2.2.2.2.2.2.1 o1.2.2.2.2.2.2.2.2.2.2.2.2.2.2.2 v_seen_used v_shop_boxes v_shop_startsAt v_shop_facts v_shop_places v_tape_used v_tape_bytes)) ⟨hx, hb, hml, hown, hts⟩ (c_X8_takesAll l D cy sa a_v_reader a_v_reader_ahead a_v_reader_draft a_v_reader_draft_facts a_v_reader_draft_places a_v_tape a_v_tape_bytes v_reader_aheadUsed v_reader_orderTold v_reader_startTold v_reader_lines v_reader_foundFault v_reader_foundPlace v_reader_next v_reader_token v_reader_tokenPlace v_reader_number v_reader_ahead v_reader_draft_boxes v_reader_draft_startsAt v_reader_draft_facts v_reader_draft_places v_tape_used v_tape_bytes o1 hc2) (cwV 0 hts gX9_text_X8_takesAll rfl rfl rfl (by decide +kernel) ⟨Nat.le_of_ble_eq_true rfl, Nat.le_of_ble_eq_true rfl⟩) rfl rfl rfl hE hP hDD rfl hS [4, 5, 6, 7, 8, 13, 14] rfl rfl rfl rfl hl.1 (Nat.le_of_ble_eq_true rfl) ⟨Nat.zero_le _, Nat.zero_le _⟩ rfl dX9_text_4 rfl (fun H locs hP hS => ?_)
  refine lv_istore_n (lv' := [(1, .int (zI o1.1)), (0, .ref a_v)]) hx hb dX9_text_7 rfl hl (by decide) rfl (fun ls hl => ?_)
  refine lv_aload_n hx hb dX9_text_8 rfl (lv_at hl 1 rfl) ?_
  refine wi_get (v := .ref a_v_tape) hx hb hts iX9 hown hE hP 0 rfl rfl 0 (by decide) q1 rfl dX9_text_9 ?_
  refine wi_ic hx hb dX9_text_12 ?_
  obtain ⟨o3, hc4, h⟩ := bnd_some h
  refine cV_v (rest := []) (w2 := (wd_X9_text cy a_v a_v_images a_v_images0 a_v_images1 a_v_reader a_v_reader_ahead a_v_reader_draft a_v_reader_draft_facts a_v_reader_draft_places a_v_seen a_v_shop a_v_shop_facts a_v_shop_places a_v_tape a_v_tape_bytes a_v_sheets a_v_search a_v_odds a_v_images0_shop a_v_images0_seen a_v_images1_shop a_v_images1_seen a_v_seen_rooms a_v_seen_hours a_v_seen_oclocks v_lastFault v_lastTorn v_images0_there v_images1_there o1.2.1 o1.2.2.1 o1.2.2.2.1 o1.2.2.2.2.1 o1.2.2.2.2.2.1 o1.2.2.2.2.2.2.1 o1.2.2.2.2.2.2.2.1 o1.2.2.2.2.2.2.2.2.1 o1.2.2.2.2.2.2.2.2.2.1 o1.2.2.2.2.2.2.2.2.2.2.1 o1.2.2.2.2.2.2.2.2.2.2.2.1 o1.2.2.2.2.2.2.2.2.2.2.2.2.1 o1.2.2.2.2.2.2.2.2.2.2.2.2.2.1 o1.2.2.2.2.2.2.2.2.2.2.2.2.2.2.1 o1.2.2.2.2.2.2.2.2.2.2.2.2.2.2.2 v_seen_used v_shop_boxes v_shop_startsAt v_shop_facts v_shop_places o3 v_tape_bytes)) ⟨hx, hb, hml, hown, hts⟩ (c_X7_cut l D cy sa a_v_tape a_v_tape_bytes v_tape_used 0 o3 hc4) (cwV 1 hts gX9_text_X7_cut rfl rfl rfl (by decide +kernel) ⟨Nat.le_of_ble_eq_true rfl, Nat.le_of_ble_eq_true rfl⟩) rfl rfl rfl hE hP hDD rfl hS [13] rfl rfl rfl rfl hl.1 (Nat.le_of_ble_eq_true rfl) ⟨Nat.zero_le _, Nat.zero_le _⟩ rfl dX9_text_13 rfl (fun H locs hP hS => ?_)
  refine lv_aload_n hx hb dX9_text_16 rfl (lv_at hl 1 rfl) ?_
  refine lv_aload_n hx hb dX9_text_17 rfl (lv_at hl 1 rfl) ?_
  refine wi_get (v := .ref a_v_reader) hx hb hts iX9 hown hE hP 0 rfl rfl 1 (by decide) q0 rfl dX9_text_18 ?_
  obtain ⟨o5, hc6, h⟩ := bnd_some h
  refine cV_i (rest := [.ref a_v]) (w2 := (wd_X9_text cy a_v a_v_images a_v_images0 a_v_images1 a_v_reader a_v_reader_ahead a_v_reader_draft a_v_reader_draft_facts a_v_reader_draft_places a_v_seen a_v_shop a_v_shop_facts a_v_shop_places a_v_tape a_v_tape_bytes a_v_sheets a_v_search a_v_odds a_v_images0_shop a_v_images0_seen a_v_images1_shop a_v_images1_seen a_v_seen_rooms a_v_seen_hours a_v_seen_oclocks v_lastFault v_lastTorn v_images0_there v_images1_there o1.2.1 o1.2.2.1 o1.2.2.2.1 o1.2.2.2.2.1 o1.2.2.2.2.2.1 o1.2.2.2.2.2.2.1 o1.2.2.2.2.2.2.2.1 o1.2.2.2.2.2.2.2.2.1 o1.2.2.2.2.2.2.2.2.2.1 o1.2.2.2.2.2.2.2.2.2.2.1 o1.2.2.2.2.2.2.2.2.2.2.2.1 o1.2.2.2.2.2.2.2.2.2.2.2.2.1 o1.2.2.2.2.2.2.2.2.2.2.2.2.2.1 o1.2.2.2.2.2.2.2.2.2.2.2.2.2.2.1 o1.2.2.2.2.2.2.2.2.2.2.2.2.2.2.2 v_seen_used v_shop_boxes v_shop_startsAt v_shop_facts v_shop_places o3 v_tape_bytes)) ⟨hx, hb, hml, hown, hts⟩ (c_X8_faultFound l D cy sa a_v_reader a_v_tape a_v_reader_draft a_v_reader_ahead o1.2.1 o1.2.2.1 o1.2.2.2.1 o1.2.2.2.2.1 o1.2.2.2.2.2.1 o1.2.2.2.2.2.2.1 o1.2.2.2.2.2.2.2.1 o1.2.2.2.2.2.2.2.2.1 o1.2.2.2.2.2.2.2.2.2.1 o1.2.2.2.2.2.2.2.2.2.2.1 o5 hc6) (cwV 0 hts gX9_text_X8_faultFound rfl rfl rfl (by decide +kernel) ⟨Nat.le_of_ble_eq_true rfl, Nat.le_of_ble_eq_true rfl⟩) rfl rfl rfl hE hP hDD rfl hS [4] rfl rfl rfl rfl hl.1 (Nat.le_of_ble_eq_true rfl) ⟨Nat.zero_le _, Nat.zero_le _⟩ rfl dX9_text_21 rfl (fun H locs hP hS => ?_)
  refine wi_put (ty := .int) (v := .int (zI o5)) (w2 := (wd_X9_text cy a_v a_v_images a_v_images0 a_v_images1 a_v_reader a_v_reader_ahead a_v_reader_draft a_v_reader_draft_facts a_v_reader_draft_places a_v_seen a_v_shop a_v_shop_facts a_v_shop_places a_v_tape a_v_tape_bytes a_v_sheets a_v_search a_v_odds a_v_images0_shop a_v_images0_seen a_v_images1_shop a_v_images1_seen a_v_seen_rooms a_v_seen_hours a_v_seen_oclocks o5 v_lastTorn v_images0_there v_images1_there o1.2.1 o1.2.2.1 o1.2.2.2.1 o1.2.2.2.2.1 o1.2.2.2.2.2.1 o1.2.2.2.2.2.2.1 o1.2.2.2.2.2.2.2.1 o1.2.2.2.2.2.2.2.2.1 o1.2.2.2.2.2.2.2.2.2.1 o1.2.2.2.2.2.2.2.2.2.2.1 o1.2.2.2.2.2.2.2.2.2.2.2.1 o1.2.2.2.2.2.2.2.2.2.2.2.2.1 o1.2.2.2.2.2.2.2.2.2.2.2.2.2.1 o1.2.2.2.2.2.2.2.2.2.2.2.2.2.2.1 o1.2.2.2.2.2.2.2.2.2.2.2.2.2.2.2 v_seen_used v_shop_boxes v_shop_startsAt v_shop_facts v_shop_places o3 v_tape_bytes)) hx hb hts iX9 tyX9 tyX9_ok nmX9 hown hE hP hDD rfl hS 0 rfl rfl 8 (by decide) q2 rfl (by decide +kernel) rfl rfl (Nat.le_of_ble_eq_true rfl) dX9_text_24 rfl (fun H locs hP hS => ?_)
  refine lv_iload_n hx hb dX9_text_27 rfl (lv_at hl 0 rfl) ?_
  obtain ⟨hr7, h⟩ := chk_some h
  refine wi_if_ne (tgt := 42) hx hb dX9_text_28 (by decide) hr7 (fun c9 => ?_) (fun c9 => ?_)
  · have h := ite_f c9 h
    refine lv_aload_n hx hb dX9_text_42 rfl (lv_at hl 1 rfl) ?_
    refine wi_get (v := .ref a_v_shop) hx hb hts iX9 hown hE hP 0 rfl rfl 2 (by decide) q3 rfl dX9_text_43 ?_
    refine lv_aload_n hx hb dX9_text_46 rfl (lv_at hl 1 rfl) ?_
    refine wi_get (v := .ref a_v_reader) hx hb hts iX9 hown hE hP 0 rfl rfl 1 (by decide) q0 rfl dX9_text_47 ?_
    obtain ⟨o10, hc11, h⟩ := bnd_some h
    refine cV_r (rest := [.ref a_v_shop]) (w2 := (wd_X9_text cy a_v a_v_images a_v_images0 a_v_images1 a_v_reader a_v_reader_ahead a_v_reader_draft a_v_reader_draft_facts a_v_reader_draft_places a_v_seen a_v_shop a_v_shop_facts a_v_shop_places a_v_tape a_v_tape_bytes a_v_sheets a_v_search a_v_odds a_v_images0_shop a_v_images0_seen a_v_images1_shop a_v_images1_seen a_v_seen_rooms a_v_seen_hours a_v_seen_oclocks o5 v_lastTorn v_images0_there v_images1_there o1.2.1 o1.2.2.1 o1.2.2.2.1 o1.2.2.2.2.1 o1.2.2.2.2.2.1 o1.2.2.2.2.2.2.1 o1.2.2.2.2.2.2.2.1 o1.2.2.2.2.2.2.2.2.1 o1.2.2.2.2.2.2.2.2.2.1 o1.2.2.2.2.2.2.2.2.2.2.1 o1.2.2.2.2.2.2.2.2.2.2.2.1 o1.2.2.2.2.2.2.2.2.2.2.2.2.1 o1.2.2.2.2.2.2.2.2.2.2.2.2.2.1 o1.2.2.2.2.2.2.2.2.2.2.2.2.2.2.1 o1.2.2.2.2.2.2.2.2.2.2.2.2.2.2.2 v_seen_used v_shop_boxes v_shop_startsAt v_shop_facts v_shop_places o3 v_tape_bytes)) ⟨hx, hb, hml, hown, hts⟩ (c_X8_draft l D cy sa a_v_reader a_v_tape a_v_reader_draft a_v_reader_ahead o1.2.1 o1.2.2.1 o1.2.2.2.1 o1.2.2.2.2.1 o1.2.2.2.2.2.1 o1.2.2.2.2.2.2.1 o1.2.2.2.2.2.2.2.1 o1.2.2.2.2.2.2.2.2.1 o1.2.2.2.2.2.2.2.2.2.1 o1.2.2.2.2.2.2.2.2.2.2.1 o10 hc11) (cwV 0 hts gX9_text_X8_draft rfl rfl rfl (by decide +kernel) ⟨Nat.le_of_ble_eq_true rfl, Nat.le_of_ble_eq_true rfl⟩) rfl rfl rfl hE hP hDD rfl hS [4] rfl rfl rfl rfl hl.1 (Nat.le_of_ble_eq_true rfl) ⟨Nat.zero_le _, Nat.zero_le _⟩ rfl dX9_text_50 rfl (fun H locs hP hS => ?_)
    obtain ⟨o12, hc13, h⟩ := bnd_some h
    refine cV_v (rest := []) (w2 := (wd_X9_text cy a_v a_v_images a_v_images0 a_v_images1 a_v_reader a_v_reader_ahead a_v_reader_draft a_v_reader_draft_facts a_v_reader_draft_places a_v_seen a_v_shop a_v_shop_facts a_v_shop_places a_v_tape a_v_tape_bytes a_v_sheets a_v_search a_v_odds a_v_images0_shop a_v_images0_seen a_v_images1_shop a_v_images1_seen a_v_seen_rooms a_v_seen_hours a_v_seen_oclocks o5 v_lastTorn v_images0_there v_images1_there o1.2.1 o1.2.2.1 o1.2.2.2.1 o1.2.2.2.2.1 o1.2.2.2.2.2.1 o1.2.2.2.2.2.2.1 o1.2.2.2.2.2.2.2.1 o1.2.2.2.2.2.2.2.2.1 o1.2.2.2.2.2.2.2.2.2.1 o1.2.2.2.2.2.2.2.2.2.2.1 o1.2.2.2.2.2.2.2.2.2.2.2.1 o1.2.2.2.2.2.2.2.2.2.2.2.2.1 o1.2.2.2.2.2.2.2.2.2.2.2.2.2.1 o1.2.2.2.2.2.2.2.2.2.2.2.2.2.2.1 o1.2.2.2.2.2.2.2.2.2.2.2.2.2.2.2 v_seen_used o12.1 o12.2.1 o12.2.2.1 o12.2.2.2 o3 v_tape_bytes)) ⟨hx, hb, hml, hown, hts⟩ (c_X5_copyFrom l D cy sa a_v_shop a_v_shop_facts a_v_shop_places a_v_reader_draft a_v_reader_draft_facts a_v_reader_draft_places v_shop_boxes v_shop_startsAt v_shop_facts v_shop_places o1.2.2.2.2.2.2.2.2.2.2.2.2.1 o1.2.2.2.2.2.2.2.2.2.2.2.2.2.1 o1.2.2.2.2.2.2.2.2.2.2.2.2.2.2.1 o1.2.2.2.2.2.2.2.2.2.2.2.2.2.2.2 o12 hc13) (cwV 1 hts gX9_text_X5_copyFrom rfl rfl rfl (by decide +kernel) ⟨Nat.le_of_ble_eq_true rfl, Nat.le_of_ble_eq_true rfl⟩) rfl rfl rfl hE hP hDD rfl hS [10, 11, 12, 6, 7, 8] rfl rfl rfl rfl hl.1 (Nat.le_of_ble_eq_true rfl) ⟨Nat.zero_le _, Nat.zero_le _⟩ rfl dX9_text_53 rfl (fun H locs hP hS => ?_)
    refine lv_aload_n hx hb dX9_text_56 rfl (lv_at hl 1 rfl) ?_
    refine wi_get (v := .ref a_v_seen) hx hb hts iX9 hown hE hP 0 rfl rfl 3 (by decide) q4 rfl dX9_text_57 ?_
    refine wi_ic hx hb dX9_text_60 ?_
    obtain ⟨o14, hc15, h⟩ := bnd_some h
    refine cV_v (rest := []) (w2 := (wd_X9_text cy a_v a_v_images a_v_images0 a_v_images1 a_v_reader a_v_reader_ahead a_v_reader_draft a_v_reader_draft_facts a_v_reader_draft_places a_v_seen a_v_shop a_v_shop_facts a_v_shop_places a_v_tape a_v_tape_bytes a_v_sheets a_v_search a_v_odds a_v_images0_shop a_v_images0_seen a_v_images1_shop a_v_images1_seen a_v_seen_rooms a_v_seen_hours a_v_seen_oclocks o5 v_lastTorn v_images0_there v_images1_there o1.2.1 o1.2.2.1 o1.2.2.2.1 o1.2.2.2.2.1 o1.2.2.2.2.2.1 o1.2.2.2.2.2.2.1 o1.2.2.2.2.2.2.2.1 o1.2.2.2.2.2.2.2.2.1 o1.2.2.2.2.2.2.2.2.2.1 o1.2.2.2.2.2.2.2.2.2.2.1 o1.2.2.2.2.2.2.2.2.2.2.2.1 o1.2.2.2.2.2.2.2.2.2.2.2.2.1 o1.2.2.2.2.2.2.2.2.2.2.2.2.2.1 o1.2.2.2.2.2.2.2.2.2.2.2.2.2.2.1 o1.2.2.2.2.2.2.2.2.2.2.2.2.2.2.2 o14 o12.1 o12.2.1 o12.2.2.1 o12.2.2.2 o3 v_tape_bytes)) ⟨hx, hb, hml, hown, hts⟩ (c_X6_cut l D cy sa a_v_seen a_v_seen_rooms a_v_seen_hours a_v_seen_oclocks v_seen_used 0 o14 hc15) (cwV 1 hts gX9_text_X6_cut rfl rfl rfl (by decide +kernel) ⟨Nat.le_of_ble_eq_true rfl, Nat.le_of_ble_eq_true rfl⟩) rfl rfl rfl hE hP hDD rfl hS [9] rfl rfl rfl rfl hl.1 (Nat.le_of_ble_eq_true rfl) ⟨Nat.zero_le _, Nat.zero_le _⟩ rfl dX9_text_61 rfl (fun H locs hP hS => ?_)
    refine lv_aload_n hx hb dX9_text_64 rfl (lv_at hl 1 rfl) ?_
    refine wi_get (v := .ref a_v_images) hx hb hts iX9 hown hE hP 0 rfl rfl 4 (by decide) q5 rfl dX9_text_65 ?_
    refine lv_astore_n (lv' := [(2, .ref a_v_images), (1, .int (zI o1.1)), (0, .ref a_v)]) hx hb dX9_text_68 rfl hl (by decide) rfl (fun ls hl => ?_)
    refine lv_aload_n hx hb dX9_text_69 rfl (lv_at hl 0 rfl) ?_
    refine wi_alen (n := 2) hx hb hE hP 1 4 rfl rfl rfl dX9_text_70 ?_
    refine lv_istore_n (lv' := [(3, .int (zI 2)), (2, .ref a_v_images), (1, .int (zI o1.1)), (0, .ref a_v)]) hx hb dX9_text_71 rfl hl (by decide) rfl (fun ls hl => ?_)
    refine wi_ic hx hb dX9_text_72 ?_
    refine lv_istore (lv' := [(4, .int (zI 0)), (3, .int (zI 2)), (2, .ref a_v_images), (1, .int (zI o1.1)), (0, .ref a_v)]) hx hb dX9_text_73 hl (by decide) rfl (fun ls hl => ?_)
    obtain ⟨o25, hx26, h⟩ := bnd_some h
    refine L75 5000 o5 v_images0_there v_images1_there o1.2.1 o1.2.2.1 o1.2.2.2.1 o1.2.2.2.2.1 o1.2.2.2.2.2.1 o1.2.2.2.2.2.2.1 o1.2.2.2.2.2.2.2.1 o1.2.2.2.2.2.2.2.2.1 o1.2.2.2.2.2.2.2.2.2.1 o1.2.2.2.2.2.2.2.2.2.2.1 o1.2.2.2.2.2.2.2.2.2.2.2.1 o1.2.2.2.2.2.2.2.2.2.2.2.2.1 o1.2.2.2.2.2.2.2.2.2.2.2.2.2.1 o1.2.2.2.2.2.2.2.2.2.2.2.2.2.2.1 o1.2.2.2.2.2.2.2.2.2.2.2.2.2.2.2 o14 o12.1 o12.2.1 o12.2.2.1 o12.2.2.2 o3 2 0 _ _ _ _ hP hS (lv_sub hl [4, 2, 1, 0] rfl) hx26 ?_
    clear hx26
    intro H locs ls hP hS hl
    refine lv_aload_n hx hb dX9_text_98 rfl (lv_at hl 0 rfl) ?_
    refine wi_get (v := .ref a_v_reader) hx hb hts iX9 hown hE hP 0 rfl rfl 1 (by decide) q0 rfl dX9_text_99 ?_
    obtain ⟨o27, hc28, h⟩ := bnd_some h
    refine cV_i (rest := []) (w2 := (wd_X9_text cy a_v a_v_images a_v_images0 a_v_images1 a_v_reader a_v_reader_ahead a_v_reader_draft a_v_reader_draft_facts a_v_reader_draft_places a_v_seen a_v_shop a_v_shop_facts a_v_shop_places a_v_tape a_v_tape_bytes a_v_sheets a_v_search a_v_odds a_v_images0_shop a_v_images0_seen a_v_images1_shop a_v_images1_seen a_v_seen_rooms a_v_seen_hours a_v_seen_oclocks o5 v_lastTorn o25.1 o25.2 o1.2.1 o1.2.2.1 o1.2.2.2.1 o1.2.2.2.2.1 o1.2.2.2.2.2.1 o1.2.2.2.2.2.2.1 o1.2.2.2.2.2.2.2.1 o1.2.2.2.2.2.2.2.2.1 o1.2.2.2.2.2.2.2.2.2.1 o1.2.2.2.2.2.2.2.2.2.2.1 o1.2.2.2.2.2.2.2.2.2.2.2.1 o1.2.2.2.2.2.2.2.2.2.2.2.2.1 o1.2.2.2.2.2.2.2.2.2.2.2.2.2.1 o1.2.2.2.2.2.2.2.2.2.2.2.2.2.2.1 o1.2.2.2.2.2.2.2.2.2.2.2.2.2.2.2 o14 o12.1 o12.2.1 o12.2.2.1 o12.2.2.2 o3 v_tape_bytes)) ⟨hx, hb, hml, hown, hts⟩ (c_X8_linesRead l D cy sa a_v_reader a_v_tape a_v_reader_draft a_v_reader_ahead o1.2.1 o1.2.2.1 o1.2.2.2.1 o1.2.2.2.2.1 o1.2.2.2.2.2.1 o1.2.2.2.2.2.2.1 o1.2.2.2.2.2.2.2.1 o1.2.2.2.2.2.2.2.2.1 o1.2.2.2.2.2.2.2.2.2.1 o1.2.2.2.2.2.2.2.2.2.2.1 o27 hc28) (cwV 0 hts gX9_text_X8_linesRead rfl rfl rfl (by decide +kernel) ⟨Nat.le_of_ble_eq_true rfl, Nat.le_of_ble_eq_true rfl⟩) rfl rfl rfl hE hP hDD rfl hS [4] rfl rfl rfl rfl hl.1 (Nat.le_of_ble_eq_true rfl) ⟨Nat.zero_le _, Nat.zero_le _⟩ rfl dX9_text_102 rfl (fun H locs hP hS => ?_)
    obtain rfl := Option.some.inj h
    exact KR _ _ _ _ hP hS dX9_text_105
  · have h := ite_t c9 h
    refine wi_bi hx hb dX9_text_31 (by decide) ?_
    refine lv_aload_n hx hb dX9_text_33 rfl (lv_at hl 1 rfl) ?_
    refine wi_get (v := .ref a_v_reader) hx hb hts iX9 hown hE hP 0 rfl rfl 1 (by decide) q0 rfl dX9_text_34 ?_
    obtain ⟨o29, hc30, h⟩ := bnd_some h
    refine cV_i (rest := [.int (zI (-10))]) (w2 := (wd_X9_text cy a_v a_v_images a_v_images0 a_v_images1 a_v_reader a_v_reader_ahead a_v_reader_draft a_v_reader_draft_facts a_v_reader_draft_places a_v_seen a_v_shop a_v_shop_facts a_v_shop_places a_v_tape a_v_tape_bytes a_v_sheets a_v_search a_v_odds a_v_images0_shop a_v_images0_seen a_v_images1_shop a_v_images1_seen a_v_seen_rooms a_v_seen_hours a_v_seen_oclocks o5 v_lastTorn v_images0_there v_images1_there o1.2.1 o1.2.2.1 o1.2.2.2.1 o1.2.2.2.2.1 o1.2.2.2.2.2.1 o1.2.2.2.2.2.2.1 o1.2.2.2.2.2.2.2.1 o1.2.2.2.2.2.2.2.2.1 o1.2.2.2.2.2.2.2.2.2.1 o1.2.2.2.2.2.2.2.2.2.2.1 o1.2.2.2.2.2.2.2.2.2.2.2.1 o1.2.2.2.2.2.2.2.2.2.2.2.2.1 o1.2.2.2.2.2.2.2.2.2.2.2.2.2.1 o1.2.2.2.2.2.2.2.2.2.2.2.2.2.2.1 o1.2.2.2.2.2.2.2.2.2.2.2.2.2.2.2 v_seen_used v_shop_boxes v_shop_startsAt v_shop_facts v_shop_places o3 v_tape_bytes)) ⟨hx, hb, hml, hown, hts⟩ (c_X8_faultPlace l D cy sa a_v_reader a_v_tape a_v_reader_draft a_v_reader_ahead o1.2.1 o1.2.2.1 o1.2.2.2.1 o1.2.2.2.2.1 o1.2.2.2.2.2.1 o1.2.2.2.2.2.2.1 o1.2.2.2.2.2.2.2.1 o1.2.2.2.2.2.2.2.2.1 o1.2.2.2.2.2.2.2.2.2.1 o1.2.2.2.2.2.2.2.2.2.2.1 o29 hc30) (cwV 0 hts gX9_text_X8_faultPlace rfl rfl rfl (by decide +kernel) ⟨Nat.le_of_ble_eq_true rfl, Nat.le_of_ble_eq_true rfl⟩) rfl rfl rfl hE hP hDD rfl hS [4] rfl rfl rfl rfl hl.1 (Nat.le_of_ble_eq_true rfl) ⟨Nat.zero_le _, Nat.zero_le _⟩ rfl dX9_text_37 rfl (fun H locs hP hS => ?_)
    refine wi_isub hx hb dX9_text_40 ?_
    obtain rfl := Option.some.inj h
    exact KR _ _ _ _ hP hS dX9_text_41
abbrev wd_X9_fault (cy : Nat → ClassId) (a_v : Nat) (a_v_tape : Nat) (a_v_reader : Nat) (a_v_shop : Nat) (a_v_seen : Nat) (a_v_images : Nat) (a_v_sheets : Nat) (a_v_search : Nat) (a_v_odds : Nat) (v_lastFault : Int) (v_lastTorn : Int) : va_W := [(a_v, .inr (9, [.ref a_v_tape, .ref a_v_reader, .ref a_v_shop, .ref a_v_seen, .ref a_v_images, .ref a_v_sheets, .ref a_v_search, .ref a_v_odds, .int (zI v_lastFault), .int (zI v_lastTorn)]))]
set_option maxHeartbeats 4000000 in
set_option maxRecDepth 100000 in
theorem c_X9_fault (l : Launch) (D : va_G) (cy : Nat → ClassId) (sa : Nat → Nat) (a_v : Nat) (a_v_tape : Nat) (a_v_reader : Nat) (a_v_shop : Nat) (a_v_seen : Nat) (a_v_images : Nat) (a_v_sheets : Nat) (a_v_search : Nat) (a_v_odds : Nat) (v_lastFault : Int) (v_lastTorn : Int) (o : Int) (h : f_HH_fault v_lastFault = some o) : CtI l yX9_fault wsX9_fault ({ frames := 0, cells := 0, slots := 0, locals := 0 }) D cy sa [.ref a_v] (wd_X9_fault cy a_v a_v_tape a_v_reader a_v_shop a_v_seen a_v_images a_v_sheets a_v_search a_v_odds v_lastFault v_lastTorn) (wd_X9_fault cy a_v a_v_tape a_v_reader a_v_shop a_v_seen a_v_images a_v_sheets a_v_search a_v_odds v_lastFault v_lastTorn) o := by
  refine ct_I (cc := cX9_fault) (maxL := 1) (plainFor_of_name (by decide)) rfl (Nat.le_of_ble_eq_true rfl) ?_
  intro p e s m below meth c A args QQ hx hb hml hown hts hE hDD hP KR ls hl
  have hl : lv_has ls 1 [(0, .ref a_v)] := hl
  have hDD : DD A [a_v] := hDD
  have hS : va_S A s.heap s.heap [] := va_S.rf
  have q0 := hts (.fieldLink RX9 92 "HatHours" "lastFault" "I") (List.mem_of_getElem? (i := 1) rfl)
  have iX9 : ∀ w ∈ u_ws RX9 TX9 10, w ∈ wsX9_fault := in_slice 2 10 rfl
  refine lv_aload_n hx hb dX9_fault_0 rfl (lv_at hl 0 rfl) ?_
  refine wi_get (v := .int (zI v_lastFault)) hx hb hts iX9 hown hE hP 0 rfl rfl 8 (by decide) q0 rfl dX9_fault_1 ?_
  obtain rfl := Option.some.inj h
  exact KR _ _ _ _ hP hS dX9_fault_4
abbrev wd_X9_rule (cy : Nat → ClassId) (a_v : Nat) (a_v_shop : Nat) (a_v_shop_facts : Nat) (a_v_shop_places : Nat) (a_v_tape : Nat) (a_v_reader : Nat) (a_v_seen : Nat) (a_v_images : Nat) (a_v_sheets : Nat) (a_v_search : Nat) (a_v_odds : Nat) (v_lastFault : Int) (v_lastTorn : Int) (v_shop_boxes : Int) (v_shop_startsAt : Int) (v_shop_facts : Nat → Int) (v_shop_places : Nat → Int) : va_W := [(a_v, .inr (9, [.ref a_v_tape, .ref a_v_reader, .ref a_v_shop, .ref a_v_seen, .ref a_v_images, .ref a_v_sheets, .ref a_v_search, .ref a_v_odds, .int (zI v_lastFault), .int (zI v_lastTorn)])), (a_v_shop, .inr (5, [.ref a_v_shop_facts, .ref a_v_shop_places, .int (zI v_shop_boxes), .int (zI v_shop_startsAt)])), (a_v_shop_facts, .inl (cy 0, 30, .inl (fun j => zI (v_shop_facts j)))), (a_v_shop_places, .inl (cy 0, 5, .inl (fun j => zI (v_shop_places j))))]
set_option maxHeartbeats 4000000 in
set_option maxRecDepth 100000 in
theorem c_X9_rule (l : Launch) (D : va_G) (cy : Nat → ClassId) (sa : Nat → Nat) (a_v : Nat) (a_v_shop : Nat) (a_v_shop_facts : Nat) (a_v_shop_places : Nat) (a_v_tape : Nat) (a_v_reader : Nat) (a_v_seen : Nat) (a_v_images : Nat) (a_v_sheets : Nat) (a_v_search : Nat) (a_v_odds : Nat) (v_lastFault : Int) (v_lastTorn : Int) (v_shop_boxes : Int) (v_shop_startsAt : Int) (v_shop_facts : Nat → Int) (v_shop_places : Nat → Int) (x1 : Int) (o : Int) (h : f_HH_rule v_shop_boxes v_shop_startsAt v_shop_facts v_shop_places x1 = some o) : CtI l yX9_rule wsX9_rule ({ frames := 6, cells := 0, slots := 0, locals := 136 }) D cy sa [.ref a_v, .int (zI x1)] (wd_X9_rule cy a_v a_v_shop a_v_shop_facts a_v_shop_places a_v_tape a_v_reader a_v_seen a_v_images a_v_sheets a_v_search a_v_odds v_lastFault v_lastTorn v_shop_boxes v_shop_startsAt v_shop_facts v_shop_places) (wd_X9_rule cy a_v a_v_shop a_v_shop_facts a_v_shop_places a_v_tape a_v_reader a_v_seen a_v_images a_v_sheets a_v_search a_v_odds v_lastFault v_lastTorn v_shop_boxes v_shop_startsAt v_shop_facts v_shop_places) o := by
  refine ct_I (cc := cX9_rule) (maxL := 2) (plainFor_of_name (by decide)) rfl (Nat.le_of_ble_eq_true rfl) ?_
  intro p e s m below meth c A args QQ hx hb hml hown hts hE hDD hP KR ls hl
  have hl : lv_has ls 2 [(0, .ref a_v), (1, .int (zI x1))] := hl
  have hDD : DD A [a_v, a_v_shop, a_v_shop_facts, a_v_shop_places] := hDD
  have hS : va_S A s.heap s.heap [] := va_S.rf
  have q0 := hts (.fieldLink RX9 28 "HatHours" "shop" "LHatHours$Shop;") (List.mem_of_getElem? (i := 1) rfl)
  have iX9 : ∀ w ∈ u_ws RX9 TX9 10, w ∈ wsX9_rule := in_slice 85 10 rfl
  refine lv_iload_n hx hb dX9_rule_0 rfl (lv_at hl 1 rfl) ?_
  obtain ⟨hr1, h⟩ := chk_some h
  by_cases c2 : x1 = 0
  · have h := ite_t c2 h
    refine wi_tIn (v := 0) (off := 39) (tgt := 40) hx hb dX9_rule_1 c2 (by decide) (by decide) (by decide) (by decide) ?_
    refine lv_aload_n hx hb dX9_rule_40 rfl (lv_at hl 0 rfl) ?_
    refine wi_get (v := .ref a_v_shop) hx hb hts iX9 hown hE hP 0 rfl rfl 2 (by decide) q0 rfl dX9_rule_41 ?_
    obtain ⟨o3, hc4, h⟩ := bnd_some h
    refine cV_i (rest := []) (w2 := (wd_X9_rule cy a_v a_v_shop a_v_shop_facts a_v_shop_places a_v_tape a_v_reader a_v_seen a_v_images a_v_sheets a_v_search a_v_odds v_lastFault v_lastTorn v_shop_boxes v_shop_startsAt v_shop_facts v_shop_places)) ⟨hx, hb, hml, hown, hts⟩ (c_X5_size l D cy sa a_v_shop a_v_shop_facts a_v_shop_places v_shop_boxes v_shop_startsAt o3 hc4) (cwV 0 hts gX9_rule_X5_size rfl rfl rfl (by decide +kernel) ⟨Nat.le_of_ble_eq_true rfl, Nat.le_of_ble_eq_true rfl⟩) rfl rfl rfl hE hP hDD rfl hS [1] rfl rfl rfl rfl hl.1 (Nat.le_of_ble_eq_true rfl) ⟨Nat.zero_le _, Nat.zero_le _⟩ rfl dX9_rule_44 rfl (fun H locs hP hS => ?_)
    obtain rfl := Option.some.inj h
    exact KR _ _ _ _ hP hS dX9_rule_47
  have h := ite_f c2 h
  by_cases c5 : x1 = 1
  · have h := ite_t c5 h
    refine wi_tIn (v := 1) (off := 47) (tgt := 48) hx hb dX9_rule_1 c5 (by decide) (by decide) (by decide) (by decide) ?_
    refine lv_aload_n hx hb dX9_rule_48 rfl (lv_at hl 0 rfl) ?_
    refine wi_get (v := .ref a_v_shop) hx hb hts iX9 hown hE hP 0 rfl rfl 2 (by decide) q0 rfl dX9_rule_49 ?_
    obtain ⟨o6, hc7, h⟩ := bnd_some h
    refine cV_i (rest := []) (w2 := (wd_X9_rule cy a_v a_v_shop a_v_shop_facts a_v_shop_places a_v_tape a_v_reader a_v_seen a_v_images a_v_sheets a_v_search a_v_odds v_lastFault v_lastTorn v_shop_boxes v_shop_startsAt v_shop_facts v_shop_places)) ⟨hx, hb, hml, hown, hts⟩ (c_X5_startHour l D cy sa a_v_shop a_v_shop_facts a_v_shop_places v_shop_boxes v_shop_startsAt o6 hc7) (cwV 0 hts gX9_rule_X5_startHour rfl rfl rfl (by decide +kernel) ⟨Nat.le_of_ble_eq_true rfl, Nat.le_of_ble_eq_true rfl⟩) rfl rfl rfl hE hP hDD rfl hS [1] rfl rfl rfl rfl hl.1 (Nat.le_of_ble_eq_true rfl) ⟨Nat.zero_le _, Nat.zero_le _⟩ rfl dX9_rule_52 rfl (fun H locs hP hS => ?_)
    obtain rfl := Option.some.inj h
    exact KR _ _ _ _ hP hS dX9_rule_55
  have h := ite_f c5 h
  by_cases c8 : x1 = 2
  · have h := ite_t c8 h
    refine wi_tIn (v := 2) (off := 55) (tgt := 56) hx hb dX9_rule_1 c8 (by decide) (by decide) (by decide) (by decide) ?_
    refine lv_aload_n hx hb dX9_rule_56 rfl (lv_at hl 0 rfl) ?_
    refine wi_get (v := .ref a_v_shop) hx hb hts iX9 hown hE hP 0 rfl rfl 2 (by decide) q0 rfl dX9_rule_57 ?_
    refine wi_ic hx hb dX9_rule_60 ?_
    obtain ⟨o9, hc10, h⟩ := bnd_some h
    refine cV_i (rest := []) (w2 := (wd_X9_rule cy a_v a_v_shop a_v_shop_facts a_v_shop_places a_v_tape a_v_reader a_v_seen a_v_images a_v_sheets a_v_search a_v_odds v_lastFault v_lastTorn v_shop_boxes v_shop_startsAt v_shop_facts v_shop_places)) ⟨hx, hb, hml, hown, hts⟩ (c_X5_sumOf l D cy sa a_v_shop a_v_shop_facts a_v_shop_places v_shop_boxes v_shop_startsAt v_shop_facts 1 o9 hc10) (cwV 1 hts gX9_rule_X5_sumOf rfl rfl rfl (by decide +kernel) ⟨Nat.le_of_ble_eq_true rfl, Nat.le_of_ble_eq_true rfl⟩) rfl rfl rfl hE hP hDD rfl hS [1, 2] rfl rfl rfl rfl hl.1 (Nat.le_of_ble_eq_true rfl) ⟨Nat.zero_le _, Nat.zero_le _⟩ rfl dX9_rule_61 rfl (fun H locs hP hS => ?_)
    obtain rfl := Option.some.inj h
    exact KR _ _ _ _ hP hS dX9_rule_64
  have h := ite_f c8 h
  by_cases c11 : x1 = 3
  · have h := ite_t c11 h
    refine wi_tIn (v := 3) (off := 64) (tgt := 65) hx hb dX9_rule_1 c11 (by decide) (by decide) (by decide) (by decide) ?_
    refine lv_aload_n hx hb dX9_rule_65 rfl (lv_at hl 0 rfl) ?_
    refine wi_get (v := .ref a_v_shop) hx hb hts iX9 hown hE hP 0 rfl rfl 2 (by decide) q0 rfl dX9_rule_66 ?_
    obtain ⟨o12, hc13, h⟩ := bnd_some h
    refine cV_i (rest := []) (w2 := (wd_X9_rule cy a_v a_v_shop a_v_shop_facts a_v_shop_places a_v_tape a_v_reader a_v_seen a_v_images a_v_sheets a_v_search a_v_odds v_lastFault v_lastTorn v_shop_boxes v_shop_startsAt v_shop_facts v_shop_places)) ⟨hx, hb, hml, hown, hts⟩ (c_X5_wrongOfAll l D cy sa a_v_shop a_v_shop_facts a_v_shop_places v_shop_boxes v_shop_startsAt v_shop_facts v_shop_places o12 hc13) (cwV 0 hts gX9_rule_X5_wrongOfAll rfl rfl rfl (by decide +kernel) ⟨Nat.le_of_ble_eq_true rfl, Nat.le_of_ble_eq_true rfl⟩) rfl rfl rfl hE hP hDD rfl hS [1, 2, 3] rfl rfl rfl rfl hl.1 (Nat.le_of_ble_eq_true rfl) ⟨Nat.zero_le _, Nat.zero_le _⟩ rfl dX9_rule_69 rfl (fun H locs hP hS => ?_)
    obtain rfl := Option.some.inj h
    exact KR _ _ _ _ hP hS dX9_rule_72
  have h := ite_f c11 h
  by_cases c14 : x1 = 4
  · have h := ite_t c14 h
    refine wi_tIn (v := 4) (off := 72) (tgt := 73) hx hb dX9_rule_1 c14 (by decide) (by decide) (by decide) (by decide) ?_
    refine lv_aload_n hx hb dX9_rule_73 rfl (lv_at hl 0 rfl) ?_
    refine wi_get (v := .ref a_v_shop) hx hb hts iX9 hown hE hP 0 rfl rfl 2 (by decide) q0 rfl dX9_rule_74 ?_
    obtain ⟨o15, hc16, h⟩ := bnd_some h
    refine cV_i (rest := []) (w2 := (wd_X9_rule cy a_v a_v_shop a_v_shop_facts a_v_shop_places a_v_tape a_v_reader a_v_seen a_v_images a_v_sheets a_v_search a_v_odds v_lastFault v_lastTorn v_shop_boxes v_shop_startsAt v_shop_facts v_shop_places)) ⟨hx, hb, hml, hown, hts⟩ (c_X5_yawnsOfAll l D cy sa a_v_shop a_v_shop_facts a_v_shop_places v_shop_boxes v_shop_startsAt v_shop_facts v_shop_places o15 hc16) (cwV 0 hts gX9_rule_X5_yawnsOfAll rfl rfl rfl (by decide +kernel) ⟨Nat.le_of_ble_eq_true rfl, Nat.le_of_ble_eq_true rfl⟩) rfl rfl rfl hE hP hDD rfl hS [1, 2, 3] rfl rfl rfl rfl hl.1 (Nat.le_of_ble_eq_true rfl) ⟨Nat.zero_le _, Nat.zero_le _⟩ rfl dX9_rule_77 rfl (fun H locs hP hS => ?_)
    obtain rfl := Option.some.inj h
    exact KR _ _ _ _ hP hS dX9_rule_80
  have h := ite_f c14 h
  by_cases c17 : x1 = 5
  · have h := ite_t c17 h
    refine wi_tIn (v := 5) (off := 80) (tgt := 81) hx hb dX9_rule_1 c17 (by decide) (by decide) (by decide) (by decide) ?_
    refine lv_aload_n hx hb dX9_rule_81 rfl (lv_at hl 0 rfl) ?_
    refine wi_get (v := .ref a_v_shop) hx hb hts iX9 hown hE hP 0 rfl rfl 2 (by decide) q0 rfl dX9_rule_82 ?_
    obtain ⟨o18, hc19, h⟩ := bnd_some h
    refine cV_i (rest := []) (w2 := (wd_X9_rule cy a_v a_v_shop a_v_shop_facts a_v_shop_places a_v_tape a_v_reader a_v_seen a_v_images a_v_sheets a_v_search a_v_odds v_lastFault v_lastTorn v_shop_boxes v_shop_startsAt v_shop_facts v_shop_places)) ⟨hx, hb, hml, hown, hts⟩ (c_X5_strangeHoursOfAll l D cy sa a_v_shop a_v_shop_facts a_v_shop_places v_shop_boxes v_shop_startsAt v_shop_facts v_shop_places o18 hc19) (cwV 0 hts gX9_rule_X5_strangeHoursOfAll rfl rfl rfl (by decide +kernel) ⟨Nat.le_of_ble_eq_true rfl, Nat.le_of_ble_eq_true rfl⟩) rfl rfl rfl hE hP hDD rfl hS [1, 2, 3] rfl rfl rfl rfl hl.1 (Nat.le_of_ble_eq_true rfl) ⟨Nat.zero_le _, Nat.zero_le _⟩ rfl dX9_rule_85 rfl (fun H locs hP hS => ?_)
    obtain rfl := Option.some.inj h
    exact KR _ _ _ _ hP hS dX9_rule_88
  have h := ite_f c17 h
  refine wi_tOut (tgt := 89) hx hb dX9_rule_1 hr1 (by omega) (by decide) ?_
  refine wi_ic hx hb dX9_rule_89 ?_
  obtain rfl := Option.some.inj h
  exact KR _ _ _ _ hP hS dX9_rule_90
abbrev wd_X9_box (cy : Nat → ClassId) (a_v : Nat) (a_v_shop : Nat) (a_v_shop_facts : Nat) (a_v_shop_places : Nat) (a_v_tape : Nat) (a_v_reader : Nat) (a_v_seen : Nat) (a_v_images : Nat) (a_v_sheets : Nat) (a_v_search : Nat) (a_v_odds : Nat) (v_lastFault : Int) (v_lastTorn : Int) (v_shop_boxes : Int) (v_shop_startsAt : Int) (v_shop_facts : Nat → Int) (v_shop_places : Nat → Int) : va_W := [(a_v, .inr (9, [.ref a_v_tape, .ref a_v_reader, .ref a_v_shop, .ref a_v_seen, .ref a_v_images, .ref a_v_sheets, .ref a_v_search, .ref a_v_odds, .int (zI v_lastFault), .int (zI v_lastTorn)])), (a_v_shop, .inr (5, [.ref a_v_shop_facts, .ref a_v_shop_places, .int (zI v_shop_boxes), .int (zI v_shop_startsAt)])), (a_v_shop_facts, .inl (cy 0, 30, .inl (fun j => zI (v_shop_facts j)))), (a_v_shop_places, .inl (cy 0, 5, .inl (fun j => zI (v_shop_places j))))]
set_option maxHeartbeats 4000000 in
set_option maxRecDepth 100000 in
theorem c_X9_box (l : Launch) (D : va_G) (cy : Nat → ClassId) (sa : Nat → Nat) (a_v : Nat) (a_v_shop : Nat) (a_v_shop_facts : Nat) (a_v_shop_places : Nat) (a_v_tape : Nat) (a_v_reader : Nat) (a_v_seen : Nat) (a_v_images : Nat) (a_v_sheets : Nat) (a_v_search : Nat) (a_v_odds : Nat) (v_lastFault : Int) (v_lastTorn : Int) (v_shop_boxes : Int) (v_shop_startsAt : Int) (v_shop_facts : Nat → Int) (v_shop_places : Nat → Int) (x1 : Int) (x2 : Int) (o : Int) (h : f_HH_box v_shop_boxes v_shop_startsAt v_shop_facts v_shop_places x1 x2 = some o) : CtI l yX9_box wsX9_box ({ frames := 2, cells := 0, slots := 0, locals := 46 }) D cy sa [.ref a_v, .int (zI x1), .int (zI x2)] (wd_X9_box cy a_v a_v_shop a_v_shop_facts a_v_shop_places a_v_tape a_v_reader a_v_seen a_v_images a_v_sheets a_v_search a_v_odds v_lastFault v_lastTorn v_shop_boxes v_shop_startsAt v_shop_facts v_shop_places) (wd_X9_box cy a_v a_v_shop a_v_shop_facts a_v_shop_places a_v_tape a_v_reader a_v_seen a_v_images a_v_sheets a_v_search a_v_odds v_lastFault v_lastTorn v_shop_boxes v_shop_startsAt v_shop_facts v_shop_places) o := by
  refine ct_I (cc := cX9_box) (maxL := 3) (plainFor_of_name (by decide)) rfl (Nat.le_of_ble_eq_true rfl) ?_
  intro p e s m below meth c A args QQ hx hb hml hown hts hE hDD hP KR ls hl
  have hl : lv_has ls 3 [(0, .ref a_v), (1, .int (zI x1)), (2, .int (zI x2))] := hl
  have hDD : DD A [a_v, a_v_shop, a_v_shop_facts, a_v_shop_places] := hDD
  have hS : va_S A s.heap s.heap [] := va_S.rf
  have q0 := hts (.fieldLink RX9 28 "HatHours" "shop" "LHatHours$Shop;") (List.mem_of_getElem? (i := 1) rfl)
  have iX9 : ∀ w ∈ u_ws RX9 TX9 10, w ∈ wsX9_box := in_slice 40 10 rfl
  refine lv_aload_n hx hb dX9_box_0 rfl (lv_at hl 0 rfl) ?_
  refine wi_get (v := .ref a_v_shop) hx hb hts iX9 hown hE hP 0 rfl rfl 2 (by decide) q0 rfl dX9_box_1 ?_
  refine lv_iload_n hx hb dX9_box_4 rfl (lv_at hl 1 rfl) ?_
  obtain ⟨o1, hc2, h⟩ := bnd_some h
  refine cV_i (rest := []) (w2 := (wd_X9_box cy a_v a_v_shop a_v_shop_facts a_v_shop_places a_v_tape a_v_reader a_v_seen a_v_images a_v_sheets a_v_search a_v_odds v_lastFault v_lastTorn v_shop_boxes v_shop_startsAt v_shop_facts v_shop_places)) ⟨hx, hb, hml, hown, hts⟩ (c_X5_has l D cy sa a_v_shop a_v_shop_facts a_v_shop_places v_shop_boxes v_shop_startsAt x1 o1 hc2) (cwV 1 hts gX9_box_X5_has rfl rfl rfl (by decide +kernel) ⟨Nat.le_of_ble_eq_true rfl, Nat.le_of_ble_eq_true rfl⟩) rfl rfl rfl hE hP hDD rfl hS [1] rfl rfl rfl rfl hl.1 (Nat.le_of_ble_eq_true rfl) ⟨Nat.zero_le _, Nat.zero_le _⟩ rfl dX9_box_5 rfl (fun H locs hP hS => ?_)
  obtain ⟨hr3, h⟩ := chk_some h
  refine wi_if_ne (tgt := 13) hx hb dX9_box_8 (by decide) hr3 (fun c5 => ?_) (fun c5 => ?_)
  · have h := ite_f c5 h
    refine lv_iload_n hx hb dX9_box_13 rfl (lv_at hl 2 rfl) ?_
    obtain ⟨hr6, h⟩ := chk_some h
    by_cases c7 : x2 = 6
    · have h := ite_t c7 h
      refine wi_tIn (v := 6) (off := 30) (tgt := 44) hx hb dX9_box_14 c7 (by decide) (by decide) (by decide) (by decide) ?_
      refine lv_aload_n hx hb dX9_box_44 rfl (lv_at hl 0 rfl) ?_
      refine wi_get (v := .ref a_v_shop) hx hb hts iX9 hown hE hP 0 rfl rfl 2 (by decide) q0 rfl dX9_box_45 ?_
      refine lv_iload_n hx hb dX9_box_48 rfl (lv_at hl 1 rfl) ?_
      refine wi_ic hx hb dX9_box_49 ?_
      obtain ⟨o8, hc9, h⟩ := bnd_some h
      refine cV_i (rest := []) (w2 := (wd_X9_box cy a_v a_v_shop a_v_shop_facts a_v_shop_places a_v_tape a_v_reader a_v_seen a_v_images a_v_sheets a_v_search a_v_odds v_lastFault v_lastTorn v_shop_boxes v_shop_startsAt v_shop_facts v_shop_places)) ⟨hx, hb, hml, hown, hts⟩ (c_X5_fact l D cy sa a_v_shop a_v_shop_facts a_v_shop_places v_shop_boxes v_shop_startsAt v_shop_facts x1 0 o8 hc9) (cwV 2 hts gX9_box_X5_fact rfl rfl rfl (by decide +kernel) ⟨Nat.le_of_ble_eq_true rfl, Nat.le_of_ble_eq_true rfl⟩) rfl rfl rfl hE hP hDD rfl hS [1, 2] rfl rfl rfl rfl hl.1 (Nat.le_of_ble_eq_true rfl) ⟨Nat.zero_le _, Nat.zero_le _⟩ rfl dX9_box_50 rfl (fun H locs hP hS => ?_)
      obtain ⟨o10, hc11, h⟩ := bnd_some h
      refine cS_i (rest := []) (w2 := (wd_X9_box cy a_v a_v_shop a_v_shop_facts a_v_shop_places a_v_tape a_v_reader a_v_seen a_v_images a_v_sheets a_v_search a_v_odds v_lastFault v_lastTorn v_shop_boxes v_shop_startsAt v_shop_facts v_shop_places)) ⟨hx, hb, hml, hown, hts⟩ (c_X5_lastsOf l D cy sa o8 o10 hc11) (va_cwS 1 hts gX9_box_X5_lastsOf rfl rfl rfl (by decide +kernel) ⟨Nat.le_of_ble_eq_true rfl, Nat.le_of_ble_eq_true rfl⟩) hE hP hDD rfl hS [] rfl rfl rfl rfl hl.1 (Nat.le_of_ble_eq_true rfl) ⟨Nat.zero_le _, Nat.zero_le _⟩ rfl dX9_box_53 rfl (fun H locs hP hS => ?_)
      obtain rfl := Option.some.inj h
      exact KR _ _ _ _ hP hS dX9_box_56
    have h := ite_f c7 h
    by_cases c12 : x2 = 7
    · have h := ite_t c12 h
      refine wi_tIn (v := 7) (off := 43) (tgt := 57) hx hb dX9_box_14 c12 (by decide) (by decide) (by decide) (by decide) ?_
      refine lv_aload_n hx hb dX9_box_57 rfl (lv_at hl 0 rfl) ?_
      refine wi_get (v := .ref a_v_shop) hx hb hts iX9 hown hE hP 0 rfl rfl 2 (by decide) q0 rfl dX9_box_58 ?_
      refine lv_iload_n hx hb dX9_box_61 rfl (lv_at hl 1 rfl) ?_
      obtain ⟨o13, hc14, h⟩ := bnd_some h
      refine cV_i (rest := []) (w2 := (wd_X9_box cy a_v a_v_shop a_v_shop_facts a_v_shop_places a_v_tape a_v_reader a_v_seen a_v_images a_v_sheets a_v_search a_v_odds v_lastFault v_lastTorn v_shop_boxes v_shop_startsAt v_shop_facts v_shop_places)) ⟨hx, hb, hml, hown, hts⟩ (c_X5_ownHour l D cy sa a_v_shop a_v_shop_facts a_v_shop_places v_shop_boxes v_shop_startsAt v_shop_facts v_shop_places x1 o13 hc14) (cwV 1 hts gX9_box_X5_ownHour rfl rfl rfl (by decide +kernel) ⟨Nat.le_of_ble_eq_true rfl, Nat.le_of_ble_eq_true rfl⟩) rfl rfl rfl hE hP hDD rfl hS [1, 2, 3] rfl rfl rfl rfl hl.1 (Nat.le_of_ble_eq_true rfl) ⟨Nat.zero_le _, Nat.zero_le _⟩ rfl dX9_box_62 rfl (fun H locs hP hS => ?_)
      obtain rfl := Option.some.inj h
      exact KR _ _ _ _ hP hS dX9_box_65
    have h := ite_f c12 h
    by_cases c15 : x2 = 8
    · have h := ite_t c15 h
      refine wi_tIn (v := 8) (off := 52) (tgt := 66) hx hb dX9_box_14 c15 (by decide) (by decide) (by decide) (by decide) ?_
      refine lv_aload_n hx hb dX9_box_66 rfl (lv_at hl 0 rfl) ?_
      refine wi_get (v := .ref a_v_shop) hx hb hts iX9 hown hE hP 0 rfl rfl 2 (by decide) q0 rfl dX9_box_67 ?_
      refine lv_iload_n hx hb dX9_box_70 rfl (lv_at hl 1 rfl) ?_
      refine lv_aload_n hx hb dX9_box_71 rfl (lv_at hl 0 rfl) ?_
      refine wi_get (v := .ref a_v_shop) hx hb hts iX9 hown hE hP 0 rfl rfl 2 (by decide) q0 rfl dX9_box_72 ?_
      refine lv_iload_n hx hb dX9_box_75 rfl (lv_at hl 1 rfl) ?_
      obtain ⟨o16, hc17, h⟩ := bnd_some h
      refine cV_i (rest := [.int (zI x1), .ref a_v_shop]) (w2 := (wd_X9_box cy a_v a_v_shop a_v_shop_facts a_v_shop_places a_v_tape a_v_reader a_v_seen a_v_images a_v_sheets a_v_search a_v_odds v_lastFault v_lastTorn v_shop_boxes v_shop_startsAt v_shop_facts v_shop_places)) ⟨hx, hb, hml, hown, hts⟩ (c_X5_ownHour l D cy sa a_v_shop a_v_shop_facts a_v_shop_places v_shop_boxes v_shop_startsAt v_shop_facts v_shop_places x1 o16 hc17) (cwV 1 hts gX9_box_X5_ownHour rfl rfl rfl (by decide +kernel) ⟨Nat.le_of_ble_eq_true rfl, Nat.le_of_ble_eq_true rfl⟩) rfl rfl rfl hE hP hDD rfl hS [1, 2, 3] rfl rfl rfl rfl hl.1 (Nat.le_of_ble_eq_true rfl) ⟨Nat.zero_le _, Nat.zero_le _⟩ rfl dX9_box_76 rfl (fun H locs hP hS => ?_)
      obtain ⟨o18, hc19, h⟩ := bnd_some h
      refine cV_i (rest := []) (w2 := (wd_X9_box cy a_v a_v_shop a_v_shop_facts a_v_shop_places a_v_tape a_v_reader a_v_seen a_v_images a_v_sheets a_v_search a_v_odds v_lastFault v_lastTorn v_shop_boxes v_shop_startsAt v_shop_facts v_shop_places)) ⟨hx, hb, hml, hown, hts⟩ (c_X5_wrongOf l D cy sa a_v_shop a_v_shop_facts a_v_shop_places v_shop_boxes v_shop_startsAt v_shop_facts x1 o16 o18 hc19) (cwV 2 hts gX9_box_X5_wrongOf rfl rfl rfl (by decide +kernel) ⟨Nat.le_of_ble_eq_true rfl, Nat.le_of_ble_eq_true rfl⟩) rfl rfl rfl hE hP hDD rfl hS [1, 2] rfl rfl rfl rfl hl.1 (Nat.le_of_ble_eq_true rfl) ⟨Nat.zero_le _, Nat.zero_le _⟩ rfl dX9_box_79 rfl (fun H locs hP hS => ?_)
      obtain rfl := Option.some.inj h
      exact KR _ _ _ _ hP hS dX9_box_82
    have h := ite_f c15 h
    by_cases c20 : x2 = 9
    · have h := ite_t c20 h
      refine wi_tIn (v := 9) (off := 69) (tgt := 83) hx hb dX9_box_14 c20 (by decide) (by decide) (by decide) (by decide) ?_
      refine lv_aload_n hx hb dX9_box_83 rfl (lv_at hl 0 rfl) ?_
      refine wi_get (v := .ref a_v_shop) hx hb hts iX9 hown hE hP 0 rfl rfl 2 (by decide) q0 rfl dX9_box_84 ?_
      refine lv_iload_n hx hb dX9_box_87 rfl (lv_at hl 1 rfl) ?_
      obtain ⟨o21, hc22, h⟩ := bnd_some h
      refine cV_i (rest := []) (w2 := (wd_X9_box cy a_v a_v_shop a_v_shop_facts a_v_shop_places a_v_tape a_v_reader a_v_seen a_v_images a_v_sheets a_v_search a_v_odds v_lastFault v_lastTorn v_shop_boxes v_shop_startsAt v_shop_facts v_shop_places)) ⟨hx, hb, hml, hown, hts⟩ (c_X5_placeOf l D cy sa a_v_shop a_v_shop_places a_v_shop_facts v_shop_boxes v_shop_startsAt v_shop_places x1 o21 hc22) (cwV 1 hts gX9_box_X5_placeOf rfl rfl rfl (by decide +kernel) ⟨Nat.le_of_ble_eq_true rfl, Nat.le_of_ble_eq_true rfl⟩) rfl rfl rfl hE hP hDD rfl hS [1, 3] rfl rfl rfl rfl hl.1 (Nat.le_of_ble_eq_true rfl) ⟨Nat.zero_le _, Nat.zero_le _⟩ rfl dX9_box_88 rfl (fun H locs hP hS => ?_)
      obtain rfl := Option.some.inj h
      exact KR _ _ _ _ hP hS dX9_box_91
    have h := ite_f c20 h
    refine wi_tOut (tgt := 92) hx hb dX9_box_14 hr6 (by omega) (by decide) ?_
    refine lv_aload_n hx hb dX9_box_92 rfl (lv_at hl 0 rfl) ?_
    refine wi_get (v := .ref a_v_shop) hx hb hts iX9 hown hE hP 0 rfl rfl 2 (by decide) q0 rfl dX9_box_93 ?_
    refine lv_iload_n hx hb dX9_box_96 rfl (lv_at hl 1 rfl) ?_
    refine lv_iload_n hx hb dX9_box_97 rfl (lv_at hl 2 rfl) ?_
    obtain ⟨o23, hc24, h⟩ := bnd_some h
    refine cV_i (rest := []) (w2 := (wd_X9_box cy a_v a_v_shop a_v_shop_facts a_v_shop_places a_v_tape a_v_reader a_v_seen a_v_images a_v_sheets a_v_search a_v_odds v_lastFault v_lastTorn v_shop_boxes v_shop_startsAt v_shop_facts v_shop_places)) ⟨hx, hb, hml, hown, hts⟩ (c_X5_fact l D cy sa a_v_shop a_v_shop_facts a_v_shop_places v_shop_boxes v_shop_startsAt v_shop_facts x1 x2 o23 hc24) (cwV 2 hts gX9_box_X5_fact rfl rfl rfl (by decide +kernel) ⟨Nat.le_of_ble_eq_true rfl, Nat.le_of_ble_eq_true rfl⟩) rfl rfl rfl hE hP hDD rfl hS [1, 2] rfl rfl rfl rfl hl.1 (Nat.le_of_ble_eq_true rfl) ⟨Nat.zero_le _, Nat.zero_le _⟩ rfl dX9_box_98 rfl (fun H locs hP hS => ?_)
    obtain rfl := Option.some.inj h
    exact KR _ _ _ _ hP hS dX9_box_101
  · have h := ite_t c5 h
    refine wi_ic hx hb dX9_box_11 ?_
    obtain rfl := Option.some.inj h
    exact KR _ _ _ _ hP hS dX9_box_12
abbrev wd_X9_order (cy : Nat → ClassId) (a_v : Nat) (a_v_shop : Nat) (a_v_shop_facts : Nat) (a_v_shop_places : Nat) (a_v_tape : Nat) (a_v_reader : Nat) (a_v_seen : Nat) (a_v_images : Nat) (a_v_sheets : Nat) (a_v_search : Nat) (a_v_odds : Nat) (v_lastFault : Int) (v_lastTorn : Int) (v_shop_boxes : Int) (v_shop_startsAt : Int) (v_shop_facts : Nat → Int) (v_shop_places : Nat → Int) : va_W := [(a_v, .inr (9, [.ref a_v_tape, .ref a_v_reader, .ref a_v_shop, .ref a_v_seen, .ref a_v_images, .ref a_v_sheets, .ref a_v_search, .ref a_v_odds, .int (zI v_lastFault), .int (zI v_lastTorn)])), (a_v_shop, .inr (5, [.ref a_v_shop_facts, .ref a_v_shop_places, .int (zI v_shop_boxes), .int (zI v_shop_startsAt)])), (a_v_shop_facts, .inl (cy 0, 30, .inl (fun j => zI (v_shop_facts j)))), (a_v_shop_places, .inl (cy 0, 5, .inl (fun j => zI (v_shop_places j))))]
set_option maxHeartbeats 4000000 in
set_option maxRecDepth 100000 in
theorem c_X9_order (l : Launch) (D : va_G) (cy : Nat → ClassId) (sa : Nat → Nat) (a_v : Nat) (a_v_shop : Nat) (a_v_shop_facts : Nat) (a_v_shop_places : Nat) (a_v_tape : Nat) (a_v_reader : Nat) (a_v_seen : Nat) (a_v_images : Nat) (a_v_sheets : Nat) (a_v_search : Nat) (a_v_odds : Nat) (v_lastFault : Int) (v_lastTorn : Int) (v_shop_boxes : Int) (v_shop_startsAt : Int) (v_shop_facts : Nat → Int) (v_shop_places : Nat → Int) (x1 : Int) (x2 : Int) (o : Int) (h : f_HH_order v_shop_boxes v_shop_startsAt v_shop_facts v_shop_places x1 x2 = some o) : CtI l yX9_order wsX9_order ({ frames := 2, cells := 0, slots := 0, locals := 46 }) D cy sa [.ref a_v, .int (zI x1), .int (zI x2)] (wd_X9_order cy a_v a_v_shop a_v_shop_facts a_v_shop_places a_v_tape a_v_reader a_v_seen a_v_images a_v_sheets a_v_search a_v_odds v_lastFault v_lastTorn v_shop_boxes v_shop_startsAt v_shop_facts v_shop_places) (wd_X9_order cy a_v a_v_shop a_v_shop_facts a_v_shop_places a_v_tape a_v_reader a_v_seen a_v_images a_v_sheets a_v_search a_v_odds v_lastFault v_lastTorn v_shop_boxes v_shop_startsAt v_shop_facts v_shop_places) o := by
  refine ct_I (cc := cX9_order) (maxL := 3) (plainFor_of_name (by decide)) rfl (Nat.le_of_ble_eq_true rfl) ?_
  intro p e s m below meth c A args QQ hx hb hml hown hts hE hDD hP KR ls hl
  have hl : lv_has ls 3 [(0, .ref a_v), (1, .int (zI x1)), (2, .int (zI x2))] := hl
  have hDD : DD A [a_v, a_v_shop, a_v_shop_facts, a_v_shop_places] := hDD
  have hS : va_S A s.heap s.heap [] := va_S.rf
  have q0 := hts (.fieldLink RX9 28 "HatHours" "shop" "LHatHours$Shop;") (List.mem_of_getElem? (i := 1) rfl)
  have iX9 : ∀ w ∈ u_ws RX9 TX9 10, w ∈ wsX9_order := in_slice 28 10 rfl
  refine lv_aload_n hx hb dX9_order_0 rfl (lv_at hl 0 rfl) ?_
  refine wi_get (v := .ref a_v_shop) hx hb hts iX9 hown hE hP 0 rfl rfl 2 (by decide) q0 rfl dX9_order_1 ?_
  refine lv_iload_n hx hb dX9_order_4 rfl (lv_at hl 1 rfl) ?_
  obtain ⟨o1, hc2, h⟩ := bnd_some h
  refine cV_i (rest := []) (w2 := (wd_X9_order cy a_v a_v_shop a_v_shop_facts a_v_shop_places a_v_tape a_v_reader a_v_seen a_v_images a_v_sheets a_v_search a_v_odds v_lastFault v_lastTorn v_shop_boxes v_shop_startsAt v_shop_facts v_shop_places)) ⟨hx, hb, hml, hown, hts⟩ (c_X5_has l D cy sa a_v_shop a_v_shop_facts a_v_shop_places v_shop_boxes v_shop_startsAt x1 o1 hc2) (cwV 1 hts gX9_order_X5_has rfl rfl rfl (by decide +kernel) ⟨Nat.le_of_ble_eq_true rfl, Nat.le_of_ble_eq_true rfl⟩) rfl rfl rfl hE hP hDD rfl hS [1] rfl rfl rfl rfl hl.1 (Nat.le_of_ble_eq_true rfl) ⟨Nat.zero_le _, Nat.zero_le _⟩ rfl dX9_order_5 rfl (fun H locs hP hS => ?_)
  obtain ⟨hr3, h⟩ := chk_some h
  refine wi_if_eq (tgt := 18) hx hb dX9_order_8 (by decide) hr3 (fun c5 => ?_) (fun c5 => ?_)
  · have h := ite_t c5 h
    refine wi_ic hx hb dX9_order_18 ?_
    obtain rfl := Option.some.inj h
    exact KR _ _ _ _ hP hS dX9_order_19
  · have h := ite_f c5 h
    refine lv_iload_n hx hb dX9_order_11 rfl (lv_at hl 2 rfl) ?_
    obtain ⟨o6, hc7, h⟩ := bnd_some h
    refine cS_i (rest := []) (w2 := (wd_X9_order cy a_v a_v_shop a_v_shop_facts a_v_shop_places a_v_tape a_v_reader a_v_seen a_v_images a_v_sheets a_v_search a_v_odds v_lastFault v_lastTorn v_shop_boxes v_shop_startsAt v_shop_facts v_shop_places)) ⟨hx, hb, hml, hown, hts⟩ (c_X9_isEither l D cy sa x2 o6 hc7) (va_cwS 1 hts gX9_order_X9_isEither rfl rfl rfl (by decide +kernel) ⟨Nat.le_of_ble_eq_true rfl, Nat.le_of_ble_eq_true rfl⟩) hE hP hDD rfl hS [] rfl rfl rfl rfl hl.1 (Nat.le_of_ble_eq_true rfl) ⟨Nat.zero_le _, Nat.zero_le _⟩ rfl dX9_order_12 rfl (fun H locs hP hS => ?_)
    obtain ⟨hr8, h⟩ := chk_some h
    refine wi_if_ne (tgt := 20) hx hb dX9_order_15 (by decide) hr8 (fun c10 => ?_) (fun c10 => ?_)
    · have h := ite_f c10 h
      refine lv_iload_n hx hb dX9_order_20 rfl (lv_at hl 2 rfl) ?_
      obtain ⟨hr11, h⟩ := chk_some h
      refine wi_if_ne (tgt := 35) hx hb dX9_order_21 (by decide) hr11 (fun c13 => ?_) (fun c13 => ?_)
      · have h := ite_f c13 h
        refine lv_aload_n hx hb dX9_order_35 rfl (lv_at hl 0 rfl) ?_
        refine wi_get (v := .ref a_v_shop) hx hb hts iX9 hown hE hP 0 rfl rfl 2 (by decide) q0 rfl dX9_order_36 ?_
        refine lv_iload_n hx hb dX9_order_39 rfl (lv_at hl 1 rfl) ?_
        obtain ⟨o14, hc15, h⟩ := bnd_some h
        refine cV_i (rest := []) (w2 := (wd_X9_order cy a_v a_v_shop a_v_shop_facts a_v_shop_places a_v_tape a_v_reader a_v_seen a_v_images a_v_sheets a_v_search a_v_odds v_lastFault v_lastTorn v_shop_boxes v_shop_startsAt v_shop_facts v_shop_places)) ⟨hx, hb, hml, hown, hts⟩ (c_X5_doneIn l D cy sa a_v_shop a_v_shop_facts a_v_shop_places v_shop_boxes v_shop_startsAt v_shop_facts v_shop_places x1 o14 hc15) (cwV 1 hts gX9_order_X5_doneIn rfl rfl rfl (by decide +kernel) ⟨Nat.le_of_ble_eq_true rfl, Nat.le_of_ble_eq_true rfl⟩) rfl rfl rfl hE hP hDD rfl hS [1, 2, 3] rfl rfl rfl rfl hl.1 (Nat.le_of_ble_eq_true rfl) ⟨Nat.zero_le _, Nat.zero_le _⟩ rfl dX9_order_40 rfl (fun H locs hP hS => ?_)
        obtain rfl := Option.some.inj h
        exact KR _ _ _ _ hP hS dX9_order_43
      · have h := ite_t c13 h
        refine lv_aload_n hx hb dX9_order_24 rfl (lv_at hl 0 rfl) ?_
        refine wi_get (v := .ref a_v_shop) hx hb hts iX9 hown hE hP 0 rfl rfl 2 (by decide) q0 rfl dX9_order_25 ?_
        refine lv_iload_n hx hb dX9_order_28 rfl (lv_at hl 1 rfl) ?_
        obtain ⟨o16, hc17, h⟩ := bnd_some h
        refine cV_i (rest := []) (w2 := (wd_X9_order cy a_v a_v_shop a_v_shop_facts a_v_shop_places a_v_tape a_v_reader a_v_seen a_v_images a_v_sheets a_v_search a_v_odds v_lastFault v_lastTorn v_shop_boxes v_shop_startsAt v_shop_facts v_shop_places)) ⟨hx, hb, hml, hown, hts⟩ (c_X5_boxIn l D cy sa a_v_shop a_v_shop_places a_v_shop_facts v_shop_boxes v_shop_startsAt v_shop_places x1 o16 hc17) (cwV 1 hts gX9_order_X5_boxIn rfl rfl rfl (by decide +kernel) ⟨Nat.le_of_ble_eq_true rfl, Nat.le_of_ble_eq_true rfl⟩) rfl rfl rfl hE hP hDD rfl hS [1, 3] rfl rfl rfl rfl hl.1 (Nat.le_of_ble_eq_true rfl) ⟨Nat.zero_le _, Nat.zero_le _⟩ rfl dX9_order_29 rfl (fun H locs hP hS => ?_)
        refine lv_goto (tgt := 43) hx hb dX9_order_32 (by decide) ?_
        obtain rfl := Option.some.inj h
        exact KR _ _ _ _ hP hS dX9_order_43
    · have h := ite_t c10 h
      refine wi_ic hx hb dX9_order_18 ?_
      obtain rfl := Option.some.inj h
      exact KR _ _ _ _ hP hS dX9_order_19
abbrev wd_X9_alter (cy : Nat → ClassId) (a_v : Nat) (a_v_shop : Nat) (a_v_shop_facts : Nat) (a_v_tape : Nat) (a_v_reader : Nat) (a_v_seen : Nat) (a_v_images : Nat) (a_v_sheets : Nat) (a_v_search : Nat) (a_v_odds : Nat) (a_v_shop_places : Nat) (v_lastFault : Int) (v_lastTorn : Int) (v_shop_boxes : Int) (v_shop_startsAt : Int) (v_shop_facts : Nat → Int) : va_W := [(a_v, .inr (9, [.ref a_v_tape, .ref a_v_reader, .ref a_v_shop, .ref a_v_seen, .ref a_v_images, .ref a_v_sheets, .ref a_v_search, .ref a_v_odds, .int (zI v_lastFault), .int (zI v_lastTorn)])), (a_v_shop, .inr (5, [.ref a_v_shop_facts, .ref a_v_shop_places, .int (zI v_shop_boxes), .int (zI v_shop_startsAt)])), (a_v_shop_facts, .inl (cy 0, 30, .inl (fun j => zI (v_shop_facts j))))]
set_option maxHeartbeats 4000000 in
set_option maxRecDepth 100000 in
theorem c_X9_alter (l : Launch) (D : va_G) (cy : Nat → ClassId) (sa : Nat → Nat) (a_v : Nat) (a_v_shop : Nat) (a_v_shop_facts : Nat) (a_v_tape : Nat) (a_v_reader : Nat) (a_v_seen : Nat) (a_v_images : Nat) (a_v_sheets : Nat) (a_v_search : Nat) (a_v_odds : Nat) (a_v_shop_places : Nat) (v_lastFault : Int) (v_lastTorn : Int) (v_shop_boxes : Int) (v_shop_startsAt : Int) (v_shop_facts : Nat → Int) (x1 : Int) (x2 : Int) (x3 : Int) (o : Int × (Nat → Int)) (h : f_HH_alter v_shop_boxes v_shop_facts x1 x2 x3 = some o) : CtI l yX9_alter wsX9_alter ({ frames := 3, cells := 0, slots := 0, locals := 63 }) D cy sa [.ref a_v, .int (zI x1), .int (zI x2), .int (zI x3)] (wd_X9_alter cy a_v a_v_shop a_v_shop_facts a_v_tape a_v_reader a_v_seen a_v_images a_v_sheets a_v_search a_v_odds a_v_shop_places v_lastFault v_lastTorn v_shop_boxes v_shop_startsAt v_shop_facts) (wd_X9_alter cy a_v a_v_shop a_v_shop_facts a_v_tape a_v_reader a_v_seen a_v_images a_v_sheets a_v_search a_v_odds a_v_shop_places v_lastFault v_lastTorn v_shop_boxes v_shop_startsAt o.2) o.1 := by
  refine ct_I (cc := cX9_alter) (maxL := 5) (plainFor_of_name (by decide)) rfl (Nat.le_of_ble_eq_true rfl) ?_
  intro p e s m below meth c A args QQ hx hb hml hown hts hE hDD hP KR ls hl
  have hl : lv_has ls 5 [(0, .ref a_v), (1, .int (zI x1)), (2, .int (zI x2)), (3, .int (zI x3))] := hl
  have hDD : DD A [a_v, a_v_shop, a_v_shop_facts] := hDD
  have hS : va_S A s.heap s.heap [] := va_S.rf
  have q0 := hts (.fieldLink RX9 28 "HatHours" "shop" "LHatHours$Shop;") (List.mem_of_getElem? (i := 1) rfl)
  have iX9 : ∀ w ∈ u_ws RX9 TX9 10, w ∈ wsX9_alter := in_slice 28 10 rfl
  refine lv_aload_n hx hb dX9_alter_0 rfl (lv_at hl 0 rfl) ?_
  refine wi_get (v := .ref a_v_shop) hx hb hts iX9 hown hE hP 0 rfl rfl 2 (by decide) q0 rfl dX9_alter_1 ?_
  refine lv_iload_n hx hb dX9_alter_4 rfl (lv_at hl 1 rfl) ?_
  obtain ⟨o1, hc2, h⟩ := bnd_some h
  refine cV_i (rest := []) (w2 := (wd_X9_alter cy a_v a_v_shop a_v_shop_facts a_v_tape a_v_reader a_v_seen a_v_images a_v_sheets a_v_search a_v_odds a_v_shop_places v_lastFault v_lastTorn v_shop_boxes v_shop_startsAt v_shop_facts)) ⟨hx, hb, hml, hown, hts⟩ (c_X5_has l D cy sa a_v_shop a_v_shop_facts a_v_shop_places v_shop_boxes v_shop_startsAt x1 o1 hc2) (cwV 1 hts gX9_alter_X5_has rfl rfl rfl (by decide +kernel) ⟨Nat.le_of_ble_eq_true rfl, Nat.le_of_ble_eq_true rfl⟩) rfl rfl rfl hE hP hDD rfl hS [1] rfl rfl rfl rfl hl.1 (Nat.le_of_ble_eq_true rfl) ⟨Nat.zero_le _, Nat.zero_le _⟩ rfl dX9_alter_5 rfl (fun H locs hP hS => ?_)
  obtain ⟨hr3, h⟩ := chk_some h
  refine wi_if_eq (tgt := 19) hx hb dX9_alter_8 (by decide) hr3 (fun c5 => ?_) (fun c5 => ?_)
  · have h := ite_t c5 h
    refine wi_ic hx hb dX9_alter_19 ?_
    obtain rfl := Option.some.inj h
    exact KR _ _ _ _ hP hS dX9_alter_20
  · have h := ite_f c5 h
    refine lv_iload_n hx hb dX9_alter_11 rfl (lv_at hl 2 rfl) ?_
    refine lv_iload_n hx hb dX9_alter_12 rfl (lv_at hl 3 rfl) ?_
    obtain ⟨o6, hc7, h⟩ := bnd_some h
    refine cS_i (rest := []) (w2 := (wd_X9_alter cy a_v a_v_shop a_v_shop_facts a_v_tape a_v_reader a_v_seen a_v_images a_v_sheets a_v_search a_v_odds a_v_shop_places v_lastFault v_lastTorn v_shop_boxes v_shop_startsAt v_shop_facts)) ⟨hx, hb, hml, hown, hts⟩ (c_X5_fits l D cy sa x2 x3 o6 hc7) (va_cwS 2 hts gX9_alter_X5_fits rfl rfl rfl (by decide +kernel) ⟨Nat.le_of_ble_eq_true rfl, Nat.le_of_ble_eq_true rfl⟩) hE hP hDD rfl hS [] rfl rfl rfl rfl hl.1 (Nat.le_of_ble_eq_true rfl) ⟨Nat.zero_le _, Nat.zero_le _⟩ rfl dX9_alter_13 rfl (fun H locs hP hS => ?_)
    obtain ⟨hr8, h⟩ := chk_some h
    refine wi_if_ne (tgt := 21) hx hb dX9_alter_16 (by decide) hr8 (fun c10 => ?_) (fun c10 => ?_)
    · have h := ite_f c10 h
      refine lv_aload_n hx hb dX9_alter_21 rfl (lv_at hl 0 rfl) ?_
      refine wi_get (v := .ref a_v_shop) hx hb hts iX9 hown hE hP 0 rfl rfl 2 (by decide) q0 rfl dX9_alter_22 ?_
      refine lv_iload_n hx hb dX9_alter_25 rfl (lv_at hl 1 rfl) ?_
      refine lv_iload_n hx hb dX9_alter_26 rfl (lv_at hl 2 rfl) ?_
      obtain ⟨o11, hc12, h⟩ := bnd_some h
      refine cV_i (rest := []) (w2 := (wd_X9_alter cy a_v a_v_shop a_v_shop_facts a_v_tape a_v_reader a_v_seen a_v_images a_v_sheets a_v_search a_v_odds a_v_shop_places v_lastFault v_lastTorn v_shop_boxes v_shop_startsAt v_shop_facts)) ⟨hx, hb, hml, hown, hts⟩ (c_X5_fact l D cy sa a_v_shop a_v_shop_facts a_v_shop_places v_shop_boxes v_shop_startsAt v_shop_facts x1 x2 o11 hc12) (cwV 2 hts gX9_alter_X5_fact rfl rfl rfl (by decide +kernel) ⟨Nat.le_of_ble_eq_true rfl, Nat.le_of_ble_eq_true rfl⟩) rfl rfl rfl hE hP hDD rfl hS [1, 2] rfl rfl rfl rfl hl.1 (Nat.le_of_ble_eq_true rfl) ⟨Nat.zero_le _, Nat.zero_le _⟩ rfl dX9_alter_27 rfl (fun H locs hP hS => ?_)
      refine lv_istore (lv' := [(4, .int (zI o11)), (0, .ref a_v), (1, .int (zI x1)), (2, .int (zI x2)), (3, .int (zI x3))]) hx hb dX9_alter_30 hl (by decide) rfl (fun ls hl => ?_)
      refine lv_aload_n hx hb dX9_alter_32 rfl (lv_at hl 1 rfl) ?_
      refine wi_get (v := .ref a_v_shop) hx hb hts iX9 hown hE hP 0 rfl rfl 2 (by decide) q0 rfl dX9_alter_33 ?_
      refine lv_iload_n hx hb dX9_alter_36 rfl (lv_at hl 2 rfl) ?_
      refine lv_iload_n hx hb dX9_alter_37 rfl (lv_at hl 3 rfl) ?_
      refine lv_iload_n hx hb dX9_alter_38 rfl (lv_at hl 4 rfl) ?_
      obtain ⟨o13, hc14, h⟩ := bnd_some h
      refine cV_v (rest := []) (w2 := (wd_X9_alter cy a_v a_v_shop a_v_shop_facts a_v_tape a_v_reader a_v_seen a_v_images a_v_sheets a_v_search a_v_odds a_v_shop_places v_lastFault v_lastTorn v_shop_boxes v_shop_startsAt o13)) ⟨hx, hb, hml, hown, hts⟩ (c_X5_setFact l D cy sa a_v_shop a_v_shop_facts a_v_shop_places v_shop_boxes v_shop_startsAt v_shop_facts x1 x2 x3 o13 hc14) (cwV 3 hts gX9_alter_X5_setFact rfl rfl rfl (by decide +kernel) ⟨Nat.le_of_ble_eq_true rfl, Nat.le_of_ble_eq_true rfl⟩) rfl rfl rfl hE hP hDD rfl hS [1, 2] rfl rfl rfl rfl hl.1 (Nat.le_of_ble_eq_true rfl) ⟨Nat.zero_le _, Nat.zero_le _⟩ rfl dX9_alter_39 rfl (fun H locs hP hS => ?_)
      refine lv_iload hx hb dX9_alter_42 (lv_at hl 0 rfl) ?_
      obtain rfl := Option.some.inj h
      exact KR _ _ _ _ hP hS dX9_alter_44
    · have h := ite_t c10 h
      refine wi_ic hx hb dX9_alter_19 ?_
      obtain rfl := Option.some.inj h
      exact KR _ _ _ _ hP hS dX9_alter_20
abbrev wd_X9_start (cy : Nat → ClassId) (a_v : Nat) (a_v_shop : Nat) (a_v_tape : Nat) (a_v_reader : Nat) (a_v_seen : Nat) (a_v_images : Nat) (a_v_sheets : Nat) (a_v_search : Nat) (a_v_odds : Nat) (a_v_shop_facts : Nat) (a_v_shop_places : Nat) (v_lastFault : Int) (v_lastTorn : Int) (v_shop_boxes : Int) (v_shop_startsAt : Int) : va_W := [(a_v, .inr (9, [.ref a_v_tape, .ref a_v_reader, .ref a_v_shop, .ref a_v_seen, .ref a_v_images, .ref a_v_sheets, .ref a_v_search, .ref a_v_odds, .int (zI v_lastFault), .int (zI v_lastTorn)])), (a_v_shop, .inr (5, [.ref a_v_shop_facts, .ref a_v_shop_places, .int (zI v_shop_boxes), .int (zI v_shop_startsAt)]))]
set_option maxHeartbeats 4000000 in
set_option maxRecDepth 100000 in
theorem c_X9_start (l : Launch) (D : va_G) (cy : Nat → ClassId) (sa : Nat → Nat) (a_v : Nat) (a_v_shop : Nat) (a_v_tape : Nat) (a_v_reader : Nat) (a_v_seen : Nat) (a_v_images : Nat) (a_v_sheets : Nat) (a_v_search : Nat) (a_v_odds : Nat) (a_v_shop_facts : Nat) (a_v_shop_places : Nat) (v_lastFault : Int) (v_lastTorn : Int) (v_shop_boxes : Int) (v_shop_startsAt : Int) (x1 : Int) (o : Int × Int) (h : f_HH_start v_shop_startsAt x1 = some o) : CtI l yX9_start wsX9_start ({ frames := 2, cells := 0, slots := 0, locals := 42 }) D cy sa [.ref a_v, .int (zI x1)] (wd_X9_start cy a_v a_v_shop a_v_tape a_v_reader a_v_seen a_v_images a_v_sheets a_v_search a_v_odds a_v_shop_facts a_v_shop_places v_lastFault v_lastTorn v_shop_boxes v_shop_startsAt) (wd_X9_start cy a_v a_v_shop a_v_tape a_v_reader a_v_seen a_v_images a_v_sheets a_v_search a_v_odds a_v_shop_facts a_v_shop_places v_lastFault v_lastTorn v_shop_boxes o.2) o.1 := by
  refine ct_I (cc := cX9_start) (maxL := 3) (plainFor_of_name (by decide)) rfl (Nat.le_of_ble_eq_true rfl) ?_
  intro p e s m below meth c A args QQ hx hb hml hown hts hE hDD hP KR ls hl
  have hl : lv_has ls 3 [(0, .ref a_v), (1, .int (zI x1))] := hl
  have hDD : DD A [a_v, a_v_shop] := hDD
  have hS : va_S A s.heap s.heap [] := va_S.rf
  have q0 := hts (.fieldLink RX9 28 "HatHours" "shop" "LHatHours$Shop;") (List.mem_of_getElem? (i := 1) rfl)
  have iX9 : ∀ w ∈ u_ws RX9 TX9 10, w ∈ wsX9_start := in_slice 19 10 rfl
  refine lv_iload_n hx hb dX9_start_0 rfl (lv_at hl 1 rfl) ?_
  obtain ⟨o1, hc2, h⟩ := bnd_some h
  refine cS_i (rest := []) (w2 := (wd_X9_start cy a_v a_v_shop a_v_tape a_v_reader a_v_seen a_v_images a_v_sheets a_v_search a_v_odds a_v_shop_facts a_v_shop_places v_lastFault v_lastTorn v_shop_boxes v_shop_startsAt)) ⟨hx, hb, hml, hown, hts⟩ (c_X9_isHour l D cy sa x1 o1 hc2) (va_cwS 1 hts gX9_start_X9_isHour rfl rfl rfl (by decide +kernel) ⟨Nat.le_of_ble_eq_true rfl, Nat.le_of_ble_eq_true rfl⟩) hE hP hDD rfl hS [] rfl rfl rfl rfl hl.1 (Nat.le_of_ble_eq_true rfl) ⟨Nat.zero_le _, Nat.zero_le _⟩ rfl dX9_start_1 rfl (fun H locs hP hS => ?_)
  obtain ⟨hr3, h⟩ := chk_some h
  refine wi_if_ne (tgt := 9) hx hb dX9_start_4 (by decide) hr3 (fun c5 => ?_) (fun c5 => ?_)
  · have h := ite_f c5 h
    refine lv_aload_n hx hb dX9_start_9 rfl (lv_at hl 0 rfl) ?_
    refine wi_get (v := .ref a_v_shop) hx hb hts iX9 hown hE hP 0 rfl rfl 2 (by decide) q0 rfl dX9_start_10 ?_
    obtain ⟨o6, hc7, h⟩ := bnd_some h
    refine cV_i (rest := []) (w2 := (wd_X9_start cy a_v a_v_shop a_v_tape a_v_reader a_v_seen a_v_images a_v_sheets a_v_search a_v_odds a_v_shop_facts a_v_shop_places v_lastFault v_lastTorn v_shop_boxes v_shop_startsAt)) ⟨hx, hb, hml, hown, hts⟩ (c_X5_startHour l D cy sa a_v_shop a_v_shop_facts a_v_shop_places v_shop_boxes v_shop_startsAt o6 hc7) (cwV 0 hts gX9_start_X5_startHour rfl rfl rfl (by decide +kernel) ⟨Nat.le_of_ble_eq_true rfl, Nat.le_of_ble_eq_true rfl⟩) rfl rfl rfl hE hP hDD rfl hS [1] rfl rfl rfl rfl hl.1 (Nat.le_of_ble_eq_true rfl) ⟨Nat.zero_le _, Nat.zero_le _⟩ rfl dX9_start_13 rfl (fun H locs hP hS => ?_)
    refine lv_istore_n (lv' := [(2, .int (zI o6)), (0, .ref a_v), (1, .int (zI x1))]) hx hb dX9_start_16 rfl hl (by decide) rfl (fun ls hl => ?_)
    refine lv_aload_n hx hb dX9_start_17 rfl (lv_at hl 1 rfl) ?_
    refine wi_get (v := .ref a_v_shop) hx hb hts iX9 hown hE hP 0 rfl rfl 2 (by decide) q0 rfl dX9_start_18 ?_
    refine lv_iload_n hx hb dX9_start_21 rfl (lv_at hl 2 rfl) ?_
    obtain ⟨o8, hc9, h⟩ := bnd_some h
    refine cV_v (rest := []) (w2 := (wd_X9_start cy a_v a_v_shop a_v_tape a_v_reader a_v_seen a_v_images a_v_sheets a_v_search a_v_odds a_v_shop_facts a_v_shop_places v_lastFault v_lastTorn v_shop_boxes o8)) ⟨hx, hb, hml, hown, hts⟩ (c_X5_setStart l D cy sa a_v_shop a_v_shop_facts a_v_shop_places v_shop_boxes v_shop_startsAt x1 o8 hc9) (cwV 1 hts gX9_start_X5_setStart rfl rfl rfl (by decide +kernel) ⟨Nat.le_of_ble_eq_true rfl, Nat.le_of_ble_eq_true rfl⟩) rfl rfl rfl hE hP hDD rfl hS [1] rfl rfl rfl rfl hl.1 (Nat.le_of_ble_eq_true rfl) ⟨Nat.zero_le _, Nat.zero_le _⟩ rfl dX9_start_22 rfl (fun H locs hP hS => ?_)
    refine lv_iload_n hx hb dX9_start_25 rfl (lv_at hl 0 rfl) ?_
    obtain rfl := Option.some.inj h
    exact KR _ _ _ _ hP hS dX9_start_26
  · have h := ite_t c5 h
    refine wi_ic hx hb dX9_start_7 ?_
    obtain rfl := Option.some.inj h
    exact KR _ _ _ _ hP hS dX9_start_8
