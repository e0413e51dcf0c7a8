abbrev wd_X9_longer (cy : Nat → ClassId) (a_v : Nat) (a_v_search : Nat) (a_v_search_draft : Nat) (a_v_search_draft_facts : Nat) (a_v_search_draft_places : Nat) (a_v_shop : Nat) (a_v_shop_facts : Nat) (a_v_shop_places : Nat) (a_v_tape : Nat) (a_v_reader : Nat) (a_v_seen : Nat) (a_v_images : Nat) (a_v_sheets : Nat) (a_v_odds : Nat) (a_v_search_least : Nat) (a_v_search_bestPlaces : Nat) (a_v_search_startsLeft : Nat) (v_lastFault : Int) (v_lastTorn : Int) (v_search_draft_boxes : Int) (v_search_draft_startsAt : Int) (v_search_draft_facts : Nat → Int) (v_search_draft_places : Nat → Int) (v_shop_boxes : Int) (v_shop_startsAt : Int) (v_shop_facts : Nat → Int) (v_shop_places : Nat → Int) : va_W := [(a_v, .inr (9, [.ref a_v_tape, .ref a_v_reader, .ref a_v_shop, .ref a_v_seen, .ref a_v_images, .ref a_v_sheets, .ref a_v_search, .ref a_v_odds, .int (zI v_lastFault), .int (zI v_lastTorn)])), (a_v_search, .inr (3, [.ref a_v_search_draft, .ref a_v_search_least, .ref a_v_search_bestPlaces, .ref a_v_search_startsLeft])), (a_v_search_draft, .inr (5, [.ref a_v_search_draft_facts, .ref a_v_search_draft_places, .int (zI v_search_draft_boxes), .int (zI v_search_draft_startsAt)])), (a_v_search_draft_facts, .inl (cy 0, 30, .inl (fun j => zI (v_search_draft_facts j)))), (a_v_search_draft_places, .inl (cy 0, 5, .inl (fun j => zI (v_search_draft_places j)))), (a_v_shop, .inr (5, [.ref a_v_shop_facts, .ref a_v_shop_places, .int (zI v_shop_boxes), .int (zI v_shop_startsAt)])), (a_v_shop_facts, .inl (cy 0, 30, .inl (fun j => zI (v_shop_facts j)))), (a_v_shop_places, .inl (cy 0, 5, .inl (fun j => zI (v_shop_places j))))]
set_option maxHeartbeats 4000000 in
set_option maxRecDepth 100000 in
theorem c_X9_longer (l : Launch) (D : va_G) (cy : Nat → ClassId) (sa : Nat → Nat) (a_v : Nat) (a_v_search : Nat) (a_v_search_draft : Nat) (a_v_search_draft_facts : Nat) (a_v_search_draft_places : Nat) (a_v_shop : Nat) (a_v_shop_facts : Nat) (a_v_shop_places : Nat) (a_v_tape : Nat) (a_v_reader : Nat) (a_v_seen : Nat) (a_v_images : Nat) (a_v_sheets : Nat) (a_v_odds : Nat) (a_v_search_least : Nat) (a_v_search_bestPlaces : Nat) (a_v_search_startsLeft : Nat) (v_lastFault : Int) (v_lastTorn : Int) (v_search_draft_boxes : Int) (v_search_draft_startsAt : Int) (v_search_draft_facts : Nat → Int) (v_search_draft_places : Nat → Int) (v_shop_boxes : Int) (v_shop_startsAt : Int) (v_shop_facts : Nat → Int) (v_shop_places : Nat → Int) (x1 : Int) (o : Int × Int × Int × (Nat → Int) × (Nat → Int)) (h : f_HH_longer v_search_draft_boxes v_search_draft_startsAt v_search_draft_facts v_search_draft_places v_shop_boxes v_shop_startsAt v_shop_facts v_shop_places x1 = some o) : CtI l yX9_longer wsX9_longer ({ frames := 3, cells := 0, slots := 0, locals := 106 }) D cy sa [.ref a_v, .int (zI x1)] (wd_X9_longer cy a_v a_v_search a_v_search_draft a_v_search_draft_facts a_v_search_draft_places a_v_shop a_v_shop_facts a_v_shop_places a_v_tape a_v_reader a_v_seen a_v_images a_v_sheets a_v_odds a_v_search_least a_v_search_bestPlaces a_v_search_startsLeft v_lastFault v_lastTorn v_search_draft_boxes v_search_draft_startsAt v_search_draft_facts v_search_draft_places v_shop_boxes v_shop_startsAt v_shop_facts v_shop_places) (wd_X9_longer cy a_v a_v_search a_v_search_draft a_v_search_draft_facts a_v_search_draft_places a_v_shop a_v_shop_facts a_v_shop_places a_v_tape a_v_reader a_v_seen a_v_images a_v_sheets a_v_odds a_v_search_least a_v_search_bestPlaces a_v_search_startsLeft v_lastFault v_lastTorn o.2.1 o.2.2.1 o.2.2.2.1 o.2.2.2.2 v_shop_boxes v_shop_startsAt v_shop_facts v_shop_places) o.1 := by
  refine ct_I (cc := cX9_longer) (maxL := 2) (plainFor_of_name (by decide)) rfl (Nat.le_of_ble_eq_true rfl) ?_
  intro p e s m below meth c A args QQ hx hb hml hown hts hE hDD hP KR ls hl
  have hl : lv_has ls 2 [(0, .ref a_v), (1, .int (zI x1))] := hl
  have hDD : DD A [a_v, a_v_search, a_v_search_draft, a_v_search_draft_facts, a_v_search_draft_places, a_v_shop, a_v_shop_facts, a_v_shop_places] := hDD
  have hS : va_S A s.heap s.heap [] := va_S.rf
  have q0 := hts (.fieldLink RX9 28 "HatHours" "shop" "LHatHours$Shop;") (List.mem_of_getElem? (i := 1) rfl)
  have q1 := hts (.fieldLink RX9 56 "HatHours" "search" "LHatHours$Search;") (List.mem_of_getElem? (i := 2) rfl)
  have iX9 : ∀ w ∈ u_ws RX9 TX9 10, w ∈ wsX9_longer := in_slice 39 10 rfl
  refine lv_aload_n hx hb dX9_longer_0 rfl (lv_at hl 0 rfl) ?_
  refine wi_get (v := .ref a_v_shop) hx hb hts iX9 hown hE hP 0 rfl rfl 2 (by decide) q0 rfl dX9_longer_1 ?_
  refine lv_iload_n hx hb dX9_longer_4 rfl (lv_at hl 1 rfl) ?_
  obtain ⟨o1, hc2, h⟩ := bnd_some h
  refine cV_i (rest := []) (w2 := (wd_X9_longer cy a_v a_v_search a_v_search_draft a_v_search_draft_facts a_v_search_draft_places a_v_shop a_v_shop_facts a_v_shop_places a_v_tape a_v_reader a_v_seen a_v_images a_v_sheets a_v_odds a_v_search_least a_v_search_bestPlaces a_v_search_startsLeft v_lastFault v_lastTorn v_search_draft_boxes v_search_draft_startsAt v_search_draft_facts v_search_draft_places v_shop_boxes v_shop_startsAt v_shop_facts v_shop_places)) ⟨hx, hb, hml, hown, hts⟩ (c_X5_has l D cy sa a_v_shop a_v_shop_facts a_v_shop_places v_shop_boxes v_shop_startsAt x1 o1 hc2) (cwV 1 hts gX9_longer_X5_has rfl rfl rfl (by decide +kernel) ⟨Nat.le_of_ble_eq_true rfl, Nat.le_of_ble_eq_true rfl⟩) rfl rfl rfl hE hP hDD rfl hS [5] rfl rfl rfl rfl hl.1 (Nat.le_of_ble_eq_true rfl) ⟨Nat.zero_le _, Nat.zero_le _⟩ rfl dX9_longer_5 rfl (fun H locs hP hS => ?_)
  obtain ⟨hr3, h⟩ := chk_some h
  refine wi_if_eq (tgt := 26) hx hb dX9_longer_8 (by decide) hr3 (fun c5 => ?_) (fun c5 => ?_)
  · have h := ite_t c5 h
    refine wi_ic hx hb dX9_longer_26 ?_
    obtain rfl := Option.some.inj h
    exact KR _ _ _ _ hP hS dX9_longer_27
  · have h := ite_f c5 h
    refine lv_aload_n hx hb dX9_longer_11 rfl (lv_at hl 0 rfl) ?_
    refine wi_get (v := .ref a_v_search) hx hb hts iX9 hown hE hP 0 rfl rfl 6 (by decide) q1 rfl dX9_longer_12 ?_
    refine lv_aload_n hx hb dX9_longer_15 rfl (lv_at hl 0 rfl) ?_
    refine wi_get (v := .ref a_v_shop) hx hb hts iX9 hown hE hP 0 rfl rfl 2 (by decide) q0 rfl dX9_longer_16 ?_
    refine lv_iload_n hx hb dX9_longer_19 rfl (lv_at hl 1 rfl) ?_
    obtain ⟨o6, hc7, h⟩ := bnd_some h
    refine cV_i (rest := []) (w2 := (wd_X9_longer cy a_v a_v_search a_v_search_draft a_v_search_draft_facts a_v_search_draft_places a_v_shop a_v_shop_facts a_v_shop_places a_v_tape a_v_reader a_v_seen a_v_images a_v_sheets a_v_odds a_v_search_least a_v_search_bestPlaces a_v_search_startsLeft v_lastFault v_lastTorn o6.2.1 o6.2.2.1 o6.2.2.2.1 o6.2.2.2.2 v_shop_boxes v_shop_startsAt v_shop_facts v_shop_places)) ⟨hx, hb, hml, hown, hts⟩ (c_X3_leastLonger l D cy sa a_v_search a_v_search_draft a_v_search_draft_facts a_v_search_draft_places a_v_shop a_v_shop_facts a_v_shop_places a_v_search_least a_v_search_bestPlaces a_v_search_startsLeft v_search_draft_boxes v_search_draft_startsAt v_search_draft_facts v_search_draft_places v_shop_boxes v_shop_startsAt v_shop_facts v_shop_places x1 o6 hc7) (cwV 2 hts gX9_longer_X3_leastLonger rfl rfl rfl (by decide +kernel) ⟨Nat.le_of_ble_eq_true rfl, Nat.le_of_ble_eq_true rfl⟩) rfl rfl rfl hE hP hDD rfl hS [1, 2, 3, 4, 5, 6, 7] rfl rfl rfl rfl hl.1 (Nat.le_of_ble_eq_true rfl) ⟨Nat.zero_le _, Nat.zero_le _⟩ rfl dX9_longer_20 rfl (fun H locs hP hS => ?_)
    refine lv_goto (tgt := 27) hx hb dX9_longer_23 (by decide) ?_
    obtain rfl := Option.some.inj h
    exact KR _ _ _ _ hP hS dX9_longer_27
abbrev wd_X9_when (cy : Nat → ClassId) (a_v : Nat) (a_v_search : Nat) (a_v_search_draft : Nat) (a_v_search_draft_facts : Nat) (a_v_search_draft_places : Nat) (a_v_shop : Nat) (a_v_shop_facts : Nat) (a_v_shop_places : Nat) (a_v_tape : Nat) (a_v_reader : Nat) (a_v_seen : Nat) (a_v_images : Nat) (a_v_sheets : Nat) (a_v_odds : Nat) (a_v_search_least : Nat) (a_v_search_bestPlaces : Nat) (a_v_search_startsLeft : Nat) (v_lastFault : Int) (v_lastTorn : Int) (v_search_draft_boxes : Int) (v_search_draft_startsAt : Int) (v_search_draft_facts : Nat → Int) (v_search_draft_places : Nat → Int) (v_shop_boxes : Int) (v_shop_startsAt : Int) (v_shop_facts : Nat → Int) (v_shop_places : Nat → Int) : va_W := [(a_v, .inr (9, [.ref a_v_tape, .ref a_v_reader, .ref a_v_shop, .ref a_v_seen, .ref a_v_images, .ref a_v_sheets, .ref a_v_search, .ref a_v_odds, .int (zI v_lastFault), .int (zI v_lastTorn)])), (a_v_search, .inr (3, [.ref a_v_search_draft, .ref a_v_search_least, .ref a_v_search_bestPlaces, .ref a_v_search_startsLeft])), (a_v_search_draft, .inr (5, [.ref a_v_search_draft_facts, .ref a_v_search_draft_places, .int (zI v_search_draft_boxes), .int (zI v_search_draft_startsAt)])), (a_v_search_draft_facts, .inl (cy 0, 30, .inl (fun j => zI (v_search_draft_facts j)))), (a_v_search_draft_places, .inl (cy 0, 5, .inl (fun j => zI (v_search_draft_places j)))), (a_v_shop, .inr (5, [.ref a_v_shop_facts, .ref a_v_shop_places, .int (zI v_shop_boxes), .int (zI v_shop_startsAt)])), (a_v_shop_facts, .inl (cy 0, 30, .inl (fun j => zI (v_shop_facts j)))), (a_v_shop_places, .inl (cy 0, 5, .inl (fun j => zI (v_shop_places j))))]
set_option maxHeartbeats 4000000 in
set_option maxRecDepth 100000 in
theorem c_X9_when (l : Launch) (D : va_G) (cy : Nat → ClassId) (sa : Nat → Nat) (a_v : Nat) (a_v_search : Nat) (a_v_search_draft : Nat) (a_v_search_draft_facts : Nat) (a_v_search_draft_places : Nat) (a_v_shop : Nat) (a_v_shop_facts : Nat) (a_v_shop_places : Nat) (a_v_tape : Nat) (a_v_reader : Nat) (a_v_seen : Nat) (a_v_images : Nat) (a_v_sheets : Nat) (a_v_odds : Nat) (a_v_search_least : Nat) (a_v_search_bestPlaces : Nat) (a_v_search_startsLeft : Nat) (v_lastFault : Int) (v_lastTorn : Int) (v_search_draft_boxes : Int) (v_search_draft_startsAt : Int) (v_search_draft_facts : Nat → Int) (v_search_draft_places : Nat → Int) (v_shop_boxes : Int) (v_shop_startsAt : Int) (v_shop_facts : Nat → Int) (v_shop_places : Nat → Int) (x1 : Int) (x2 : Int) (x3 : Int) (o : Int × Int × Int × (Nat → Int) × (Nat → Int)) (h : f_HH_when v_search_draft_boxes v_search_draft_startsAt v_search_draft_facts v_search_draft_places v_shop_boxes v_shop_startsAt v_shop_facts v_shop_places x1 x2 x3 = some o) : CtI l yX9_when wsX9_when ({ frames := 5, cells := 0, slots := 0, locals := 117 }) D cy sa [.ref a_v, .int (zI x1), .int (zI x2), .int (zI x3)] (wd_X9_when cy a_v a_v_search a_v_search_draft a_v_search_draft_facts a_v_search_draft_places a_v_shop a_v_shop_facts a_v_shop_places a_v_tape a_v_reader a_v_seen a_v_images a_v_sheets a_v_odds a_v_search_least a_v_search_bestPlaces a_v_search_startsLeft v_lastFault v_lastTorn v_search_draft_boxes v_search_draft_startsAt v_search_draft_facts v_search_draft_places v_shop_boxes v_shop_startsAt v_shop_facts v_shop_places) (wd_X9_when cy a_v a_v_search a_v_search_draft a_v_search_draft_facts a_v_search_draft_places a_v_shop a_v_shop_facts a_v_shop_places a_v_tape a_v_reader a_v_seen a_v_images a_v_sheets a_v_odds a_v_search_least a_v_search_bestPlaces a_v_search_startsLeft v_lastFault v_lastTorn o.2.1 o.2.2.1 o.2.2.2.1 o.2.2.2.2 v_shop_boxes v_shop_startsAt v_shop_facts v_shop_places) o.1 := by
  refine ct_I (cc := cX9_when) (maxL := 4) (plainFor_of_name (by decide)) rfl (Nat.le_of_ble_eq_true rfl) ?_
  intro p e s m below meth c A args QQ hx hb hml hown hts hE hDD hP KR ls hl
  have hl : lv_has ls 4 [(0, .ref a_v), (1, .int (zI x1)), (2, .int (zI x2)), (3, .int (zI x3))] := hl
  have hDD : DD A [a_v, a_v_search, a_v_search_draft, a_v_search_draft_facts, a_v_search_draft_places, a_v_shop, a_v_shop_facts, a_v_shop_places] := hDD
  have hS : va_S A s.heap s.heap [] := va_S.rf
  have q0 := hts (.fieldLink RX9 28 "HatHours" "shop" "LHatHours$Shop;") (List.mem_of_getElem? (i := 1) rfl)
  have q1 := hts (.fieldLink RX9 56 "HatHours" "search" "LHatHours$Search;") (List.mem_of_getElem? (i := 2) rfl)
  have iX9 : ∀ w ∈ u_ws RX9 TX9 10, w ∈ wsX9_when := in_slice 66 10 rfl
  refine lv_aload_n hx hb dX9_when_0 rfl (lv_at hl 0 rfl) ?_
  refine wi_get (v := .ref a_v_shop) hx hb hts iX9 hown hE hP 0 rfl rfl 2 (by decide) q0 rfl dX9_when_1 ?_
  refine lv_iload_n hx hb dX9_when_4 rfl (lv_at hl 1 rfl) ?_
  obtain ⟨o1, hc2, h⟩ := bnd_some h
  refine cV_i (rest := []) (w2 := (wd_X9_when cy a_v a_v_search a_v_search_draft a_v_search_draft_facts a_v_search_draft_places a_v_shop a_v_shop_facts a_v_shop_places a_v_tape a_v_reader a_v_seen a_v_images a_v_sheets a_v_odds a_v_search_least a_v_search_bestPlaces a_v_search_startsLeft v_lastFault v_lastTorn v_search_draft_boxes v_search_draft_startsAt v_search_draft_facts v_search_draft_places v_shop_boxes v_shop_startsAt v_shop_facts v_shop_places)) ⟨hx, hb, hml, hown, hts⟩ (c_X5_has l D cy sa a_v_shop a_v_shop_facts a_v_shop_places v_shop_boxes v_shop_startsAt x1 o1 hc2) (cwV 1 hts gX9_when_X5_has rfl rfl rfl (by decide +kernel) ⟨Nat.le_of_ble_eq_true rfl, Nat.le_of_ble_eq_true rfl⟩) rfl rfl rfl hE hP hDD rfl hS [5] rfl rfl rfl rfl hl.1 (Nat.le_of_ble_eq_true rfl) ⟨Nat.zero_le _, Nat.zero_le _⟩ rfl dX9_when_5 rfl (fun H locs hP hS => ?_)
  obtain ⟨hr3, h⟩ := chk_some h
  refine wi_if_eq (tgt := 25) hx hb dX9_when_8 (by decide) hr3 (fun c5 => ?_) (fun c5 => ?_)
  · have h := ite_t c5 h
    refine wi_ic hx hb dX9_when_25 ?_
    obtain rfl := Option.some.inj h
    exact KR _ _ _ _ hP hS dX9_when_26
  · have h := ite_f c5 h
    refine lv_iload_n hx hb dX9_when_11 rfl (lv_at hl 2 rfl) ?_
    obtain ⟨o6, hc7, h⟩ := bnd_some h
    refine cS_i (rest := []) (w2 := (wd_X9_when cy a_v a_v_search a_v_search_draft a_v_search_draft_facts a_v_search_draft_places a_v_shop a_v_shop_facts a_v_shop_places a_v_tape a_v_reader a_v_seen a_v_images a_v_sheets a_v_odds a_v_search_least a_v_search_bestPlaces a_v_search_startsLeft v_lastFault v_lastTorn v_search_draft_boxes v_search_draft_startsAt v_search_draft_facts v_search_draft_places v_shop_boxes v_shop_startsAt v_shop_facts v_shop_places)) ⟨hx, hb, hml, hown, hts⟩ (c_X9_isHour l D cy sa x2 o6 hc7) (va_cwS 1 hts gX9_when_X9_isHour rfl rfl rfl (by decide +kernel) ⟨Nat.le_of_ble_eq_true rfl, Nat.le_of_ble_eq_true rfl⟩) hE hP hDD rfl hS [] rfl rfl rfl rfl hl.1 (Nat.le_of_ble_eq_true rfl) ⟨Nat.zero_le _, Nat.zero_le _⟩ rfl dX9_when_12 rfl (fun H locs hP hS => ?_)
    obtain ⟨hr8, h⟩ := chk_some h
    refine wi_if_eq (tgt := 25) hx hb dX9_when_15 (by decide) hr8 (fun c10 => ?_) (fun c10 => ?_)
    · have h := ite_t c10 h
      refine wi_ic hx hb dX9_when_25 ?_
      obtain rfl := Option.some.inj h
      exact KR _ _ _ _ hP hS dX9_when_26
    · have h := ite_f c10 h
      refine lv_iload_n hx hb dX9_when_18 rfl (lv_at hl 3 rfl) ?_
      obtain ⟨o11, hc12, h⟩ := bnd_some h
      refine cS_i (rest := []) (w2 := (wd_X9_when cy a_v a_v_search a_v_search_draft a_v_search_draft_facts a_v_search_draft_places a_v_shop a_v_shop_facts a_v_shop_places a_v_tape a_v_reader a_v_seen a_v_images a_v_sheets a_v_odds a_v_search_least a_v_search_bestPlaces a_v_search_startsLeft v_lastFault v_lastTorn v_search_draft_boxes v_search_draft_startsAt v_search_draft_facts v_search_draft_places v_shop_boxes v_shop_startsAt v_shop_facts v_shop_places)) ⟨hx, hb, hml, hown, hts⟩ (c_X9_isHour l D cy sa x3 o11 hc12) (va_cwS 1 hts gX9_when_X9_isHour rfl rfl rfl (by decide +kernel) ⟨Nat.le_of_ble_eq_true rfl, Nat.le_of_ble_eq_true rfl⟩) hE hP hDD rfl hS [] rfl rfl rfl rfl hl.1 (Nat.le_of_ble_eq_true rfl) ⟨Nat.zero_le _, Nat.zero_le _⟩ rfl dX9_when_19 rfl (fun H locs hP hS => ?_)
      obtain ⟨hr13, h⟩ := chk_some h
      refine wi_if_ne (tgt := 27) hx hb dX9_when_22 (by decide) hr13 (fun c15 => ?_) (fun c15 => ?_)
      · have h := ite_f c15 h
        refine lv_aload_n hx hb dX9_when_27 rfl (lv_at hl 0 rfl) ?_
        refine wi_get (v := .ref a_v_search) hx hb hts iX9 hown hE hP 0 rfl rfl 6 (by decide) q1 rfl dX9_when_28 ?_
        refine lv_aload_n hx hb dX9_when_31 rfl (lv_at hl 0 rfl) ?_
        refine wi_get (v := .ref a_v_shop) hx hb hts iX9 hown hE hP 0 rfl rfl 2 (by decide) q0 rfl dX9_when_32 ?_
        refine lv_iload_n hx hb dX9_when_35 rfl (lv_at hl 1 rfl) ?_
        refine lv_iload_n hx hb dX9_when_36 rfl (lv_at hl 2 rfl) ?_
        refine lv_iload_n hx hb dX9_when_37 rfl (lv_at hl 3 rfl) ?_
        obtain ⟨o16, hc17, h⟩ := bnd_some h
        refine cV_i (rest := []) (w2 := (wd_X9_when cy a_v a_v_search a_v_search_draft a_v_search_draft_facts a_v_search_draft_places a_v_shop a_v_shop_facts a_v_shop_places a_v_tape a_v_reader a_v_seen a_v_images a_v_sheets a_v_odds a_v_search_least a_v_search_bestPlaces a_v_search_startsLeft v_lastFault v_lastTorn o16.2.1 o16.2.2.1 o16.2.2.2.1 o16.2.2.2.2 v_shop_boxes v_shop_startsAt v_shop_facts v_shop_places)) ⟨hx, hb, hml, hown, hts⟩ (c_X3_firstOpening l D cy sa a_v_search a_v_search_draft a_v_search_draft_facts a_v_search_draft_places a_v_shop a_v_shop_facts a_v_shop_places a_v_search_least a_v_search_bestPlaces a_v_search_startsLeft v_search_draft_boxes v_search_draft_startsAt v_search_draft_facts v_search_draft_places v_shop_boxes v_shop_startsAt v_shop_facts v_shop_places x1 x2 x3 o16 hc17) (cwV 4 hts gX9_when_X3_firstOpening rfl rfl rfl (by decide +kernel) ⟨Nat.le_of_ble_eq_true rfl, Nat.le_of_ble_eq_true rfl⟩) rfl rfl rfl hE hP hDD rfl hS [1, 2, 3, 4, 5, 6, 7] rfl rfl rfl rfl hl.1 (Nat.le_of_ble_eq_true rfl) ⟨Nat.zero_le _, Nat.zero_le _⟩ rfl dX9_when_38 rfl (fun H locs hP hS => ?_)
        obtain rfl := Option.some.inj h
        exact KR _ _ _ _ hP hS dX9_when_41
      · have h := ite_t c15 h
        refine wi_ic hx hb dX9_when_25 ?_
        obtain rfl := Option.some.inj h
        exact KR _ _ _ _ hP hS dX9_when_26
abbrev wd_X9_fewestYawns (cy : Nat → ClassId) (a_v : Nat) (a_v_search : Nat) (a_v_search_draft : Nat) (a_v_search_draft_facts : Nat) (a_v_search_draft_places : Nat) (a_v_search_least : Nat) (a_v_shop : Nat) (a_v_shop_facts : Nat) (a_v_shop_places : Nat) (a_v_tape : Nat) (a_v_reader : Nat) (a_v_seen : Nat) (a_v_images : Nat) (a_v_sheets : Nat) (a_v_odds : Nat) (a_v_search_bestPlaces : Nat) (a_v_search_startsLeft : Nat) (v_lastFault : Int) (v_lastTorn : Int) (v_search_draft_boxes : Int) (v_search_draft_startsAt : Int) (v_search_draft_facts : Nat → Int) (v_search_draft_places : Nat → Int) (v_search_least_at : Int) (v_search_least_value : Int) (v_shop_boxes : Int) (v_shop_startsAt : Int) (v_shop_facts : Nat → Int) (v_shop_places : Nat → Int) : va_W := [(a_v, .inr (9, [.ref a_v_tape, .ref a_v_reader, .ref a_v_shop, .ref a_v_seen, .ref a_v_images, .ref a_v_sheets, .ref a_v_search, .ref a_v_odds, .int (zI v_lastFault), .int (zI v_lastTorn)])), (a_v_search, .inr (3, [.ref a_v_search_draft, .ref a_v_search_least, .ref a_v_search_bestPlaces, .ref a_v_search_startsLeft])), (a_v_search_draft, .inr (5, [.ref a_v_search_draft_facts, .ref a_v_search_draft_places, .int (zI v_search_draft_boxes), .int (zI v_search_draft_startsAt)])), (a_v_search_draft_facts, .inl (cy 0, 30, .inl (fun j => zI (v_search_draft_facts j)))), (a_v_search_draft_places, .inl (cy 0, 5, .inl (fun j => zI (v_search_draft_places j)))), (a_v_search_least, .inr (1, [.int (zI v_search_least_at), .int (zI v_search_least_value)])), (a_v_shop, .inr (5, [.ref a_v_shop_facts, .ref a_v_shop_places, .int (zI v_shop_boxes), .int (zI v_shop_startsAt)])), (a_v_shop_facts, .inl (cy 0, 30, .inl (fun j => zI (v_shop_facts j)))), (a_v_shop_places, .inl (cy 0, 5, .inl (fun j => zI (v_shop_places j))))]
set_option maxHeartbeats 4000000 in
set_option maxRecDepth 100000 in
theorem c_X9_fewestYawns (l : Launch) (D : va_G) (cy : Nat → ClassId) (sa : Nat → Nat) (a_v : Nat) (a_v_search : Nat) (a_v_search_draft : Nat) (a_v_search_draft_facts : Nat) (a_v_search_draft_places : Nat) (a_v_search_least : Nat) (a_v_shop : Nat) (a_v_shop_facts : Nat) (a_v_shop_places : Nat) (a_v_tape : Nat) (a_v_reader : Nat) (a_v_seen : Nat) (a_v_images : Nat) (a_v_sheets : Nat) (a_v_odds : Nat) (a_v_search_bestPlaces : Nat) (a_v_search_startsLeft : Nat) (v_lastFault : Int) (v_lastTorn : Int) (v_search_draft_boxes : Int) (v_search_draft_startsAt : Int) (v_search_draft_facts : Nat → Int) (v_search_draft_places : Nat → Int) (v_search_least_at : Int) (v_search_least_value : Int) (v_shop_boxes : Int) (v_shop_startsAt : Int) (v_shop_facts : Nat → Int) (v_shop_places : Nat → Int) (x1 : Int) (x2 : Int) (x3 : Int) (o : Int × Int × Int × (Nat → Int) × (Nat → Int) × Int × Int) (h : f_HH_fewestYawns v_search_draft_boxes v_search_draft_startsAt v_search_draft_facts v_search_draft_places v_search_least_at v_search_least_value v_shop_boxes v_shop_startsAt v_shop_facts v_shop_places x1 x2 x3 = some o) : CtI l yX9_fewestYawns wsX9_fewestYawns ({ frames := 5, cells := 0, slots := 0, locals := 124 }) D cy sa [.ref a_v, .int (zI x1), .int (zI x2), .int (zI x3)] (wd_X9_fewestYawns cy a_v a_v_search a_v_search_draft a_v_search_draft_facts a_v_search_draft_places a_v_search_least a_v_shop a_v_shop_facts a_v_shop_places a_v_tape a_v_reader a_v_seen a_v_images a_v_sheets a_v_odds a_v_search_bestPlaces a_v_search_startsLeft v_lastFault v_lastTorn v_search_draft_boxes v_search_draft_startsAt v_search_draft_facts v_search_draft_places v_search_least_at v_search_least_value v_shop_boxes v_shop_startsAt v_shop_facts v_shop_places) (wd_X9_fewestYawns cy a_v a_v_search a_v_search_draft a_v_search_draft_facts a_v_search_draft_places a_v_search_least a_v_shop a_v_shop_facts a_v_shop_places a_v_tape a_v_reader a_v_seen a_v_images a_v_sheets a_v_odds a_v_search_bestPlaces a_v_search_startsLeft v_lastFault v_lastTorn o.2.1 o.2.2.1 o.2.2.2.1 o.2.2.2.2.1 o.2.2.2.2.2.1 o.2.2.2.2.2.2 v_shop_boxes v_shop_startsAt v_shop_facts v_shop_places) o.1 := by
  refine ct_I (cc := cX9_fewestYawns) (maxL := 4) (plainFor_of_name (by decide)) rfl (Nat.le_of_ble_eq_true rfl) ?_
  intro p e s m below meth c A args QQ hx hb hml hown hts hE hDD hP KR ls hl
  have hl : lv_has ls 4 [(0, .ref a_v), (1, .int (zI x1)), (2, .int (zI x2)), (3, .int (zI x3))] := hl
  have hDD : DD A [a_v, a_v_search, a_v_search_draft, a_v_search_draft_facts, a_v_search_draft_places, a_v_search_least, a_v_shop, a_v_shop_facts, a_v_shop_places] := hDD
  have hS : va_S A s.heap s.heap [] := va_S.rf
  have q0 := hts (.fieldLink RX9 28 "HatHours" "shop" "LHatHours$Shop;") (List.mem_of_getElem? (i := 1) rfl)
  have q1 := hts (.fieldLink RX9 56 "HatHours" "search" "LHatHours$Search;") (List.mem_of_getElem? (i := 2) rfl)
  have iX9 : ∀ w ∈ u_ws RX9 TX9 10, w ∈ wsX9_fewestYawns := in_slice 103 10 rfl
  refine lv_aload_n hx hb dX9_fewestYawns_0 rfl (lv_at hl 0 rfl) ?_
  refine wi_get (v := .ref a_v_shop) hx hb hts iX9 hown hE hP 0 rfl rfl 2 (by decide) q0 rfl dX9_fewestYawns_1 ?_
  refine lv_iload_n hx hb dX9_fewestYawns_4 rfl (lv_at hl 1 rfl) ?_
  obtain ⟨o1, hc2, h⟩ := bnd_some h
  refine cV_i (rest := []) (w2 := (wd_X9_fewestYawns cy a_v a_v_search a_v_search_draft a_v_search_draft_facts a_v_search_draft_places a_v_search_least a_v_shop a_v_shop_facts a_v_shop_places a_v_tape a_v_reader a_v_seen a_v_images a_v_sheets a_v_odds a_v_search_bestPlaces a_v_search_startsLeft v_lastFault v_lastTorn v_search_draft_boxes v_search_draft_startsAt v_search_draft_facts v_search_draft_places v_search_least_at v_search_least_value v_shop_boxes v_shop_startsAt v_shop_facts v_shop_places)) ⟨hx, hb, hml, hown, hts⟩ (c_X5_has l D cy sa a_v_shop a_v_shop_facts a_v_shop_places v_shop_boxes v_shop_startsAt x1 o1 hc2) (cwV 1 hts gX9_fewestYawns_X5_has rfl rfl rfl (by decide +kernel) ⟨Nat.le_of_ble_eq_true rfl, Nat.le_of_ble_eq_true rfl⟩) rfl rfl rfl hE hP hDD rfl hS [6] rfl rfl rfl rfl hl.1 (Nat.le_of_ble_eq_true rfl) ⟨Nat.zero_le _, Nat.zero_le _⟩ rfl dX9_fewestYawns_5 rfl (fun H locs hP hS => ?_)
  obtain ⟨hr3, h⟩ := chk_some h
  refine wi_if_eq (tgt := 18) hx hb dX9_fewestYawns_8 (by decide) hr3 (fun c5 => ?_) (fun c5 => ?_)
  · have h := ite_t c5 h
    refine wi_ic hx hb dX9_fewestYawns_18 ?_
    obtain rfl := Option.some.inj h
    exact KR _ _ _ _ hP hS dX9_fewestYawns_19
  · have h := ite_f c5 h
    refine lv_iload_n hx hb dX9_fewestYawns_11 rfl (lv_at hl 3 rfl) ?_
    obtain ⟨o6, hc7, h⟩ := bnd_some h
    refine cS_i (rest := []) (w2 := (wd_X9_fewestYawns cy a_v a_v_search a_v_search_draft a_v_search_draft_facts a_v_search_draft_places a_v_search_least a_v_shop a_v_shop_facts a_v_shop_places a_v_tape a_v_reader a_v_seen a_v_images a_v_sheets a_v_odds a_v_search_bestPlaces a_v_search_startsLeft v_lastFault v_lastTorn v_search_draft_boxes v_search_draft_startsAt v_search_draft_facts v_search_draft_places v_search_least_at v_search_least_value v_shop_boxes v_shop_startsAt v_shop_facts v_shop_places)) ⟨hx, hb, hml, hown, hts⟩ (c_X9_isEither l D cy sa x3 o6 hc7) (va_cwS 1 hts gX9_fewestYawns_X9_isEither rfl rfl rfl (by decide +kernel) ⟨Nat.le_of_ble_eq_true rfl, Nat.le_of_ble_eq_true rfl⟩) hE hP hDD rfl hS [] rfl rfl rfl rfl hl.1 (Nat.le_of_ble_eq_true rfl) ⟨Nat.zero_le _, Nat.zero_le _⟩ rfl dX9_fewestYawns_12 rfl (fun H locs hP hS => ?_)
    obtain ⟨hr8, h⟩ := chk_some h
    refine wi_if_ne (tgt := 20) hx hb dX9_fewestYawns_15 (by decide) hr8 (fun c10 => ?_) (fun c10 => ?_)
    · have h := ite_f c10 h
      refine lv_aload_n hx hb dX9_fewestYawns_20 rfl (lv_at hl 0 rfl) ?_
      refine wi_get (v := .ref a_v_search) hx hb hts iX9 hown hE hP 0 rfl rfl 6 (by decide) q1 rfl dX9_fewestYawns_21 ?_
      refine lv_aload_n hx hb dX9_fewestYawns_24 rfl (lv_at hl 0 rfl) ?_
      refine wi_get (v := .ref a_v_shop) hx hb hts iX9 hown hE hP 0 rfl rfl 2 (by decide) q0 rfl dX9_fewestYawns_25 ?_
      refine lv_iload_n hx hb dX9_fewestYawns_28 rfl (lv_at hl 1 rfl) ?_
      refine lv_iload_n hx hb dX9_fewestYawns_29 rfl (lv_at hl 2 rfl) ?_
      obtain ⟨o11, hc12, h⟩ := bnd_some h
      refine cV_v (rest := []) (w2 := (wd_X9_fewestYawns cy a_v a_v_search a_v_search_draft a_v_search_draft_facts a_v_search_draft_places a_v_search_least a_v_shop a_v_shop_facts a_v_shop_places a_v_tape a_v_reader a_v_seen a_v_images a_v_sheets a_v_odds a_v_search_bestPlaces a_v_search_startsLeft v_lastFault v_lastTorn o11.1 o11.2.1 o11.2.2.1 o11.2.2.2.1 o11.2.2.2.2.1 o11.2.2.2.2.2 v_shop_boxes v_shop_startsAt v_shop_facts v_shop_places)) ⟨hx, hb, hml, hown, hts⟩ (c_X3_fewestYawns l D cy sa a_v_search a_v_search_draft a_v_search_draft_facts a_v_search_draft_places a_v_search_least a_v_shop a_v_shop_facts a_v_shop_places a_v_search_bestPlaces a_v_search_startsLeft v_search_draft_boxes v_search_draft_startsAt v_search_draft_facts v_search_draft_places v_search_least_at v_search_least_value v_shop_boxes v_shop_startsAt v_shop_facts v_shop_places x1 x2 o11 hc12) (cwV 3 hts gX9_fewestYawns_X3_fewestYawns rfl rfl rfl (by decide +kernel) ⟨Nat.le_of_ble_eq_true rfl, Nat.le_of_ble_eq_true rfl⟩) rfl rfl rfl hE hP hDD rfl hS [1, 2, 3, 4, 5, 6, 7, 8] rfl rfl rfl rfl hl.1 (Nat.le_of_ble_eq_true rfl) ⟨Nat.zero_le _, Nat.zero_le _⟩ rfl dX9_fewestYawns_30 rfl (fun H locs hP hS => ?_)
      refine lv_aload_n hx hb dX9_fewestYawns_33 rfl (lv_at hl 0 rfl) ?_
      refine wi_get (v := .ref a_v_search) hx hb hts iX9 hown hE hP 0 rfl rfl 6 (by decide) q1 rfl dX9_fewestYawns_34 ?_
      refine lv_iload_n hx hb dX9_fewestYawns_37 rfl (lv_at hl 3 rfl) ?_
      obtain ⟨o13, hc14, h⟩ := bnd_some h
      refine cV_i (rest := []) (w2 := (wd_X9_fewestYawns cy a_v a_v_search a_v_search_draft a_v_search_draft_facts a_v_search_draft_places a_v_search_least a_v_shop a_v_shop_facts a_v_shop_places a_v_tape a_v_reader a_v_seen a_v_images a_v_sheets a_v_odds a_v_search_bestPlaces a_v_search_startsLeft v_lastFault v_lastTorn o11.1 o11.2.1 o11.2.2.1 o11.2.2.2.1 o11.2.2.2.2.1 o11.2.2.2.2.2 v_shop_boxes v_shop_startsAt v_shop_facts v_shop_places)) ⟨hx, hb, hml, hown, hts⟩ (c_X3_told l D cy sa a_v_search a_v_search_least a_v_search_draft a_v_search_bestPlaces a_v_search_startsLeft o11.2.2.2.2.1 o11.2.2.2.2.2 x3 o13 hc14) (cwV 1 hts gX9_fewestYawns_X3_told rfl rfl rfl (by decide +kernel) ⟨Nat.le_of_ble_eq_true rfl, Nat.le_of_ble_eq_true rfl⟩) rfl rfl rfl hE hP hDD rfl hS [1, 5] rfl rfl rfl rfl hl.1 (Nat.le_of_ble_eq_true rfl) ⟨Nat.zero_le _, Nat.zero_le _⟩ rfl dX9_fewestYawns_38 rfl (fun H locs hP hS => ?_)
      obtain rfl := Option.some.inj h
      exact KR _ _ _ _ hP hS dX9_fewestYawns_41
    · have h := ite_t c10 h
      refine wi_ic hx hb dX9_fewestYawns_18 ?_
      obtain rfl := Option.some.inj h
      exact KR _ _ _ _ hP hS dX9_fewestYawns_19
abbrev wd_X9_wake (cy : Nat → ClassId) (a_v : Nat) (a_v_search : Nat) (a_v_search_draft : Nat) (a_v_search_draft_facts : Nat) (a_v_search_draft_places : Nat) (a_v_search_least : Nat) (a_v_shop : Nat) (a_v_shop_facts : Nat) (a_v_shop_places : Nat) (a_v_tape : Nat) (a_v_reader : Nat) (a_v_seen : Nat) (a_v_images : Nat) (a_v_sheets : Nat) (a_v_odds : Nat) (a_v_search_bestPlaces : Nat) (a_v_search_startsLeft : Nat) (v_lastFault : Int) (v_lastTorn : Int) (v_search_draft_boxes : Int) (v_search_draft_startsAt : Int) (v_search_draft_facts : Nat → Int) (v_search_draft_places : Nat → Int) (v_search_least_at : Int) (v_search_least_value : Int) (v_shop_boxes : Int) (v_shop_startsAt : Int) (v_shop_facts : Nat → Int) (v_shop_places : Nat → Int) : va_W := [(a_v, .inr (9, [.ref a_v_tape, .ref a_v_reader, .ref a_v_shop, .ref a_v_seen, .ref a_v_images, .ref a_v_sheets, .ref a_v_search, .ref a_v_odds, .int (zI v_lastFault), .int (zI v_lastTorn)])), (a_v_search, .inr (3, [.ref a_v_search_draft, .ref a_v_search_least, .ref a_v_search_bestPlaces, .ref a_v_search_startsLeft])), (a_v_search_draft, .inr (5, [.ref a_v_search_draft_facts, .ref a_v_search_draft_places, .int (zI v_search_draft_boxes), .int (zI v_search_draft_startsAt)])), (a_v_search_draft_facts, .inl (cy 0, 30, .inl (fun j => zI (v_search_draft_facts j)))), (a_v_search_draft_places, .inl (cy 0, 5, .inl (fun j => zI (v_search_draft_places j)))), (a_v_search_least, .inr (1, [.int (zI v_search_least_at), .int (zI v_search_least_value)])), (a_v_shop, .inr (5, [.ref a_v_shop_facts, .ref a_v_shop_places, .int (zI v_shop_boxes), .int (zI v_shop_startsAt)])), (a_v_shop_facts, .inl (cy 0, 30, .inl (fun j => zI (v_shop_facts j)))), (a_v_shop_places, .inl (cy 0, 5, .inl (fun j => zI (v_shop_places j))))]
set_option maxHeartbeats 4000000 in
set_option maxRecDepth 100000 in
theorem c_X9_wake (l : Launch) (D : va_G) (cy : Nat → ClassId) (sa : Nat → Nat) (a_v : Nat) (a_v_search : Nat) (a_v_search_draft : Nat) (a_v_search_draft_facts : Nat) (a_v_search_draft_places : Nat) (a_v_search_least : Nat) (a_v_shop : Nat) (a_v_shop_facts : Nat) (a_v_shop_places : Nat) (a_v_tape : Nat) (a_v_reader : Nat) (a_v_seen : Nat) (a_v_images : Nat) (a_v_sheets : Nat) (a_v_odds : Nat) (a_v_search_bestPlaces : Nat) (a_v_search_startsLeft : Nat) (v_lastFault : Int) (v_lastTorn : Int) (v_search_draft_boxes : Int) (v_search_draft_startsAt : Int) (v_search_draft_facts : Nat → Int) (v_search_draft_places : Nat → Int) (v_search_least_at : Int) (v_search_least_value : Int) (v_shop_boxes : Int) (v_shop_startsAt : Int) (v_shop_facts : Nat → Int) (v_shop_places : Nat → Int) (x1 : Int) (x2 : Int) (o : Int × Int × Int × (Nat → Int) × (Nat → Int) × Int × Int) (h : f_HH_wake v_search_draft_boxes v_search_draft_startsAt v_search_draft_facts v_search_draft_places v_search_least_at v_search_least_value v_shop_boxes v_shop_startsAt v_shop_facts v_shop_places x1 x2 = some o) : CtI l yX9_wake wsX9_wake ({ frames := 6, cells := 0, slots := 0, locals := 147 }) D cy sa [.ref a_v, .int (zI x1), .int (zI x2)] (wd_X9_wake cy a_v a_v_search a_v_search_draft a_v_search_draft_facts a_v_search_draft_places a_v_search_least a_v_shop a_v_shop_facts a_v_shop_places a_v_tape a_v_reader a_v_seen a_v_images a_v_sheets a_v_odds a_v_search_bestPlaces a_v_search_startsLeft v_lastFault v_lastTorn v_search_draft_boxes v_search_draft_startsAt v_search_draft_facts v_search_draft_places v_search_least_at v_search_least_value v_shop_boxes v_shop_startsAt v_shop_facts v_shop_places) (wd_X9_wake cy a_v a_v_search a_v_search_draft a_v_search_draft_facts a_v_search_draft_places a_v_search_least a_v_shop a_v_shop_facts a_v_shop_places a_v_tape a_v_reader a_v_seen a_v_images a_v_sheets a_v_odds a_v_search_bestPlaces a_v_search_startsLeft v_lastFault v_lastTorn o.2.1 o.2.2.1 o.2.2.2.1 o.2.2.2.2.1 o.2.2.2.2.2.1 o.2.2.2.2.2.2 v_shop_boxes v_shop_startsAt v_shop_facts v_shop_places) o.1 := by
  refine ct_I (cc := cX9_wake) (maxL := 3) (plainFor_of_name (by decide)) rfl (Nat.le_of_ble_eq_true rfl) ?_
  intro p e s m below meth c A args QQ hx hb hml hown hts hE hDD hP KR ls hl
  have hl : lv_has ls 3 [(0, .ref a_v), (1, .int (zI x1)), (2, .int (zI x2))] := hl
  have hDD : DD A [a_v, a_v_search, a_v_search_draft, a_v_search_draft_facts, a_v_search_draft_places, a_v_search_least, a_v_shop, a_v_shop_facts, a_v_shop_places] := hDD
  have hS : va_S A s.heap s.heap [] := va_S.rf
  refine lv_aload_n hx hb dX9_wake_0 rfl (lv_at hl 0 rfl) ?_
  refine lv_iload_n hx hb dX9_wake_1 rfl (lv_at hl 1 rfl) ?_
  refine wi_ic hx hb dX9_wake_2 ?_
  refine lv_iload_n hx hb dX9_wake_3 rfl (lv_at hl 2 rfl) ?_
  obtain ⟨o1, hc2, h⟩ := bnd_some h
  refine cV_i (rest := []) (w2 := (wd_X9_wake cy a_v a_v_search a_v_search_draft a_v_search_draft_facts a_v_search_draft_places a_v_search_least a_v_shop a_v_shop_facts a_v_shop_places a_v_tape a_v_reader a_v_seen a_v_images a_v_sheets a_v_odds a_v_search_bestPlaces a_v_search_startsLeft v_lastFault v_lastTorn o1.2.1 o1.2.2.1 o1.2.2.2.1 o1.2.2.2.2.1 o1.2.2.2.2.2.1 o1.2.2.2.2.2.2 v_shop_boxes v_shop_startsAt v_shop_facts v_shop_places)) ⟨hx, hb, hml, hown, hts⟩ (c_X9_fewestYawns l D cy sa a_v a_v_search a_v_search_draft a_v_search_draft_facts a_v_search_draft_places a_v_search_least a_v_shop a_v_shop_facts a_v_shop_places a_v_tape a_v_reader a_v_seen a_v_images a_v_sheets a_v_odds a_v_search_bestPlaces a_v_search_startsLeft v_lastFault v_lastTorn v_search_draft_boxes v_search_draft_startsAt v_search_draft_facts v_search_draft_places v_search_least_at v_search_least_value v_shop_boxes v_shop_startsAt v_shop_facts v_shop_places x1 4 x2 o1 hc2) (cwV 3 hts gX9_wake_X9_fewestYawns rfl rfl rfl (by decide +kernel) ⟨Nat.le_of_ble_eq_true rfl, Nat.le_of_ble_eq_true rfl⟩) rfl rfl rfl hE hP hDD rfl hS [0, 1, 2, 3, 4, 5, 6, 7, 8] rfl rfl rfl rfl hl.1 (Nat.le_of_ble_eq_true rfl) ⟨Nat.zero_le _, Nat.zero_le _⟩ rfl dX9_wake_4 rfl (fun H locs hP hS => ?_)
  obtain rfl := Option.some.inj h
  exact KR _ _ _ _ hP hS dX9_wake_7
abbrev wd_X9_where (cy : Nat → ClassId) (a_v : Nat) (a_v_search : Nat) (a_v_search_draft : Nat) (a_v_search_draft_facts : Nat) (a_v_search_draft_places : Nat) (a_v_search_least : Nat) (a_v_shop : Nat) (a_v_shop_facts : Nat) (a_v_shop_places : Nat) (a_v_tape : Nat) (a_v_reader : Nat) (a_v_seen : Nat) (a_v_images : Nat) (a_v_sheets : Nat) (a_v_odds : Nat) (a_v_search_bestPlaces : Nat) (a_v_search_startsLeft : Nat) (v_lastFault : Int) (v_lastTorn : Int) (v_search_draft_boxes : Int) (v_search_draft_startsAt : Int) (v_search_draft_facts : Nat → Int) (v_search_draft_places : Nat → Int) (v_search_least_at : Int) (v_search_least_value : Int) (v_shop_boxes : Int) (v_shop_startsAt : Int) (v_shop_facts : Nat → Int) (v_shop_places : Nat → Int) : va_W := [(a_v, .inr (9, [.ref a_v_tape, .ref a_v_reader, .ref a_v_shop, .ref a_v_seen, .ref a_v_images, .ref a_v_sheets, .ref a_v_search, .ref a_v_odds, .int (zI v_lastFault), .int (zI v_lastTorn)])), (a_v_search, .inr (3, [.ref a_v_search_draft, .ref a_v_search_least, .ref a_v_search_bestPlaces, .ref a_v_search_startsLeft])), (a_v_search_draft, .inr (5, [.ref a_v_search_draft_facts, .ref a_v_search_draft_places, .int (zI v_search_draft_boxes), .int (zI v_search_draft_startsAt)])), (a_v_search_draft_facts, .inl (cy 0, 30, .inl (fun j => zI (v_search_draft_facts j)))), (a_v_search_draft_places, .inl (cy 0, 5, .inl (fun j => zI (v_search_draft_places j)))), (a_v_search_least, .inr (1, [.int (zI v_search_least_at), .int (zI v_search_least_value)])), (a_v_shop, .inr (5, [.ref a_v_shop_facts, .ref a_v_shop_places, .int (zI v_shop_boxes), .int (zI v_shop_startsAt)])), (a_v_shop_facts, .inl (cy 0, 30, .inl (fun j => zI (v_shop_facts j)))), (a_v_shop_places, .inl (cy 0, 5, .inl (fun j => zI (v_shop_places j))))]
set_option maxHeartbeats 4000000 in
set_option maxRecDepth 100000 in
theorem c_X9_where (l : Launch) (D : va_G) (cy : Nat → ClassId) (sa : Nat → Nat) (a_v : Nat) (a_v_search : Nat) (a_v_search_draft : Nat) (a_v_search_draft_facts : Nat) (a_v_search_draft_places : Nat) (a_v_search_least : Nat) (a_v_shop : Nat) (a_v_shop_facts : Nat) (a_v_shop_places : Nat) (a_v_tape : Nat) (a_v_reader : Nat) (a_v_seen : Nat) (a_v_images : Nat) (a_v_sheets : Nat) (a_v_odds : Nat) (a_v_search_bestPlaces : Nat) (a_v_search_startsLeft : Nat) (v_lastFault : Int) (v_lastTorn : Int) (v_search_draft_boxes : Int) (v_search_draft_startsAt : Int) (v_search_draft_facts : Nat → Int) (v_search_draft_places : Nat → Int) (v_search_least_at : Int) (v_search_least_value : Int) (v_shop_boxes : Int) (v_shop_startsAt : Int) (v_shop_facts : Nat → Int) (v_shop_places : Nat → Int) (x1 : Int) (x2 : Int) (o : Int × Int × Int × (Nat → Int) × (Nat → Int) × Int × Int) (h : f_HH_where v_search_draft_boxes v_search_draft_startsAt v_search_draft_facts v_search_draft_places v_search_least_at v_search_least_value v_shop_boxes v_shop_startsAt v_shop_facts v_shop_places x1 x2 = some o) : CtI l yX9_where wsX9_where ({ frames := 6, cells := 0, slots := 0, locals := 147 }) D cy sa [.ref a_v, .int (zI x1), .int (zI x2)] (wd_X9_where cy a_v a_v_search a_v_search_draft a_v_search_draft_facts a_v_search_draft_places a_v_search_least a_v_shop a_v_shop_facts a_v_shop_places a_v_tape a_v_reader a_v_seen a_v_images a_v_sheets a_v_odds a_v_search_bestPlaces a_v_search_startsLeft v_lastFault v_lastTorn v_search_draft_boxes v_search_draft_startsAt v_search_draft_facts v_search_draft_places v_search_least_at v_search_least_value v_shop_boxes v_shop_startsAt v_shop_facts v_shop_places) (wd_X9_where cy a_v a_v_search a_v_search_draft a_v_search_draft_facts a_v_search_draft_places a_v_search_least a_v_shop a_v_shop_facts a_v_shop_places a_v_tape a_v_reader a_v_seen a_v_images a_v_sheets a_v_odds a_v_search_bestPlaces a_v_search_startsLeft v_lastFault v_lastTorn o.2.1 o.2.2.1 o.2.2.2.1 o.2.2.2.2.1 o.2.2.2.2.2.1 o.2.2.2.2.2.2 v_shop_boxes v_shop_startsAt v_shop_facts v_shop_places) o.1 := by
  refine ct_I (cc := cX9_where) (maxL := 3) (plainFor_of_name (by decide)) rfl (Nat.le_of_ble_eq_true rfl) ?_
  intro p e s m below meth c A args QQ hx hb hml hown hts hE hDD hP KR ls hl
  have hl : lv_has ls 3 [(0, .ref a_v), (1, .int (zI x1)), (2, .int (zI x2))] := hl
  have hDD : DD A [a_v, a_v_search, a_v_search_draft, a_v_search_draft_facts, a_v_search_draft_places, a_v_search_least, a_v_shop, a_v_shop_facts, a_v_shop_places] := hDD
  have hS : va_S A s.heap s.heap [] := va_S.rf
  refine lv_aload_n hx hb dX9_where_0 rfl (lv_at hl 0 rfl) ?_
  refine lv_iload_n hx hb dX9_where_1 rfl (lv_at hl 1 rfl) ?_
  refine wi_ic hx hb dX9_where_2 ?_
  refine lv_iload_n hx hb dX9_where_3 rfl (lv_at hl 2 rfl) ?_
  obtain ⟨o1, hc2, h⟩ := bnd_some h
  refine cV_i (rest := []) (w2 := (wd_X9_where cy a_v a_v_search a_v_search_draft a_v_search_draft_facts a_v_search_draft_places a_v_search_least a_v_shop a_v_shop_facts a_v_shop_places a_v_tape a_v_reader a_v_seen a_v_images a_v_sheets a_v_odds a_v_search_bestPlaces a_v_search_startsLeft v_lastFault v_lastTorn o1.2.1 o1.2.2.1 o1.2.2.2.1 o1.2.2.2.2.1 o1.2.2.2.2.2.1 o1.2.2.2.2.2.2 v_shop_boxes v_shop_startsAt v_shop_facts v_shop_places)) ⟨hx, hb, hml, hown, hts⟩ (c_X9_fewestYawns l D cy sa a_v a_v_search a_v_search_draft a_v_search_draft_facts a_v_search_draft_places a_v_search_least a_v_shop a_v_shop_facts a_v_shop_places a_v_tape a_v_reader a_v_seen a_v_images a_v_sheets a_v_odds a_v_search_bestPlaces a_v_search_startsLeft v_lastFault v_lastTorn v_search_draft_boxes v_search_draft_startsAt v_search_draft_facts v_search_draft_places v_search_least_at v_search_least_value v_shop_boxes v_shop_startsAt v_shop_facts v_shop_places x1 5 x2 o1 hc2) (cwV 3 hts gX9_where_X9_fewestYawns rfl rfl rfl (by decide +kernel) ⟨Nat.le_of_ble_eq_true rfl, Nat.le_of_ble_eq_true rfl⟩) rfl rfl rfl hE hP hDD rfl hS [0, 1, 2, 3, 4, 5, 6, 7, 8] rfl rfl rfl rfl hl.1 (Nat.le_of_ble_eq_true rfl) ⟨Nat.zero_le _, Nat.zero_le _⟩ rfl dX9_where_4 rfl (fun H locs hP hS => ?_)
  obtain rfl := Option.some.inj h
  exact KR _ _ _ _ hP hS dX9_where_7
abbrev wd_X9_luck (cy : Nat → ClassId) (a_v : Nat) (a_v_odds : Nat) (a_v_odds_ways : Nat) (a_v_shop : Nat) (a_v_shop_facts : Nat) (a_v_shop_places : Nat) (a_v_tape : Nat) (a_v_reader : Nat) (a_v_seen : Nat) (a_v_images : Nat) (a_v_sheets : Nat) (a_v_search : Nat) (v_lastFault : Int) (v_lastTorn : Int) (v_odds_upper : Int) (v_odds_lower : Int) (v_odds_ways : Nat → Int) (v_shop_boxes : Int) (v_shop_startsAt : Int) (v_shop_facts : Nat → Int) (v_shop_places : Nat → Int) : va_W := [(a_v, .inr (9, [.ref a_v_tape, .ref a_v_reader, .ref a_v_shop, .ref a_v_seen, .ref a_v_images, .ref a_v_sheets, .ref a_v_search, .ref a_v_odds, .int (zI v_lastFault), .int (zI v_lastTorn)])), (a_v_odds, .inr (2, [.ref a_v_odds_ways, .long (zL v_odds_upper), .long (zL v_odds_lower)])), (a_v_odds_ways, .inl (cy 2, 6, .inr (.inl (fun j => zL (v_odds_ways j))))), (a_v_shop, .inr (5, [.ref a_v_shop_facts, .ref a_v_shop_places, .int (zI v_shop_boxes), .int (zI v_shop_startsAt)])), (a_v_shop_facts, .inl (cy 0, 30, .inl (fun j => zI (v_shop_facts j)))), (a_v_shop_places, .inl (cy 0, 5, .inl (fun j => zI (v_shop_places j))))]
set_option maxHeartbeats 4000000 in
set_option maxRecDepth 100000 in
theorem c_X9_luck (l : Launch) (D : va_G) (cy : Nat → ClassId) (sa : Nat → Nat) (a_v : Nat) (a_v_odds : Nat) (a_v_odds_ways : Nat) (a_v_shop : Nat) (a_v_shop_facts : Nat) (a_v_shop_places : Nat) (a_v_tape : Nat) (a_v_reader : Nat) (a_v_seen : Nat) (a_v_images : Nat) (a_v_sheets : Nat) (a_v_search : Nat) (v_lastFault : Int) (v_lastTorn : Int) (v_odds_upper : Int) (v_odds_lower : Int) (v_odds_ways : Nat → Int) (v_shop_boxes : Int) (v_shop_startsAt : Int) (v_shop_facts : Nat → Int) (v_shop_places : Nat → Int) (x1 : Int) (x2 : Int) (x3 : Int) (o : Int × Int × Int × (Nat → Int)) (h : f_HH_luck v_odds_upper v_odds_lower v_odds_ways v_shop_boxes v_shop_startsAt v_shop_facts v_shop_places x1 x2 x3 = some o) : CtL l yX9_luck wsX9_luck ({ frames := 3, cells := 0, slots := 0, locals := 73 }) D cy sa [.ref a_v, .int (zI x1), .int (zI x2), .int (zI x3)] (wd_X9_luck cy a_v a_v_odds a_v_odds_ways a_v_shop a_v_shop_facts a_v_shop_places a_v_tape a_v_reader a_v_seen a_v_images a_v_sheets a_v_search v_lastFault v_lastTorn v_odds_upper v_odds_lower v_odds_ways v_shop_boxes v_shop_startsAt v_shop_facts v_shop_places) (wd_X9_luck cy a_v a_v_odds a_v_odds_ways a_v_shop a_v_shop_facts a_v_shop_places a_v_tape a_v_reader a_v_seen a_v_images a_v_sheets a_v_search v_lastFault v_lastTorn o.2.1 o.2.2.1 o.2.2.2 v_shop_boxes v_shop_startsAt v_shop_facts v_shop_places) o.1 := by
  refine ct_L (cc := cX9_luck) (maxL := 4) (plainFor_of_name (by decide)) rfl (Nat.le_of_ble_eq_true rfl) ?_
  intro p e s m below meth c A args QQ hx hb hml hown hts hE hDD hP KR ls hl
  have hl : lv_has ls 4 [(0, .ref a_v), (1, .int (zI x1)), (2, .int (zI x2)), (3, .int (zI x3))] := hl
  have hDD : DD A [a_v, a_v_odds, a_v_odds_ways, a_v_shop, a_v_shop_facts, a_v_shop_places] := hDD
  have hS : va_S A s.heap s.heap [] := va_S.rf
  have q0 := hts (.constantLong RX9 232 (-1)) (List.mem_of_getElem? (i := 2) rfl)
  have q1 := hts (.fieldLink RX9 28 "HatHours" "shop" "LHatHours$Shop;") (List.mem_of_getElem? (i := 1) rfl)
  have q2 := hts (.fieldLink RX9 63 "HatHours" "odds" "LHatHours$Odds;") (List.mem_of_getElem? (i := 3) rfl)
  have iX9 : ∀ w ∈ u_ws RX9 TX9 10, w ∈ wsX9_luck := in_slice 58 10 rfl
  refine lv_iload_n hx hb dX9_luck_0 rfl (lv_at hl 1 rfl) ?_
  refine wi_ic hx hb dX9_luck_1 ?_
  refine wi_bi hx hb dX9_luck_2 (by decide) ?_
  obtain ⟨o1, hc2, h⟩ := bnd_some h
  refine cS_i (rest := []) (w2 := (wd_X9_luck cy a_v a_v_odds a_v_odds_ways a_v_shop a_v_shop_facts a_v_shop_places a_v_tape a_v_reader a_v_seen a_v_images a_v_sheets a_v_search v_lastFault v_lastTorn v_odds_upper v_odds_lower v_odds_ways v_shop_boxes v_shop_startsAt v_shop_facts v_shop_places)) ⟨hx, hb, hml, hown, hts⟩ (c_X9_within l D cy sa x1 0 10 o1 hc2) (va_cwS 3 hts gX9_luck_X9_within rfl rfl rfl (by decide +kernel) ⟨Nat.le_of_ble_eq_true rfl, Nat.le_of_ble_eq_true rfl⟩) hE hP hDD rfl hS [] rfl rfl rfl rfl hl.1 (Nat.le_of_ble_eq_true rfl) ⟨Nat.zero_le _, Nat.zero_le _⟩ rfl dX9_luck_4 rfl (fun H locs hP hS => ?_)
  obtain ⟨hr3, h⟩ := chk_some h
  refine wi_if_eq (tgt := 28) hx hb dX9_luck_7 (by decide) hr3 (fun c5 => ?_) (fun c5 => ?_)
  · have h := ite_t c5 h
    refine wi_ldc2 (n := -1) hx hb hown q0 dX9_luck_28 rfl ?_
    obtain rfl := Option.some.inj h
    exact KR _ _ _ _ hP hS dX9_luck_31
  · have h := ite_f c5 h
    refine lv_aload_n hx hb dX9_luck_10 rfl (lv_at hl 0 rfl) ?_
    refine wi_get (v := .ref a_v_shop) hx hb hts iX9 hown hE hP 0 rfl rfl 2 (by decide) q1 rfl dX9_luck_11 ?_
    refine lv_iload_n hx hb dX9_luck_14 rfl (lv_at hl 2 rfl) ?_
    obtain ⟨o6, hc7, h⟩ := bnd_some h
    refine cV_i (rest := []) (w2 := (wd_X9_luck cy a_v a_v_odds a_v_odds_ways a_v_shop a_v_shop_facts a_v_shop_places a_v_tape a_v_reader a_v_seen a_v_images a_v_sheets a_v_search v_lastFault v_lastTorn v_odds_upper v_odds_lower v_odds_ways v_shop_boxes v_shop_startsAt v_shop_facts v_shop_places)) ⟨hx, hb, hml, hown, hts⟩ (c_X5_has l D cy sa a_v_shop a_v_shop_facts a_v_shop_places v_shop_boxes v_shop_startsAt x2 o6 hc7) (cwV 1 hts gX9_luck_X5_has rfl rfl rfl (by decide +kernel) ⟨Nat.le_of_ble_eq_true rfl, Nat.le_of_ble_eq_true rfl⟩) rfl rfl rfl hE hP hDD rfl hS [3] rfl rfl rfl rfl hl.1 (Nat.le_of_ble_eq_true rfl) ⟨Nat.zero_le _, Nat.zero_le _⟩ rfl dX9_luck_15 rfl (fun H locs hP hS => ?_)
    obtain ⟨hr8, h⟩ := chk_some h
    refine wi_if_eq (tgt := 28) hx hb dX9_luck_18 (by decide) hr8 (fun c10 => ?_) (fun c10 => ?_)
    · have h := ite_t c10 h
      refine wi_ldc2 (n := -1) hx hb hown q0 dX9_luck_28 rfl ?_
      obtain rfl := Option.some.inj h
      exact KR _ _ _ _ hP hS dX9_luck_31
    · have h := ite_f c10 h
      refine lv_iload_n hx hb dX9_luck_21 rfl (lv_at hl 3 rfl) ?_
      obtain ⟨o11, hc12, h⟩ := bnd_some h
      refine cS_i (rest := []) (w2 := (wd_X9_luck cy a_v a_v_odds a_v_odds_ways a_v_shop a_v_shop_facts a_v_shop_places a_v_tape a_v_reader a_v_seen a_v_images a_v_sheets a_v_search v_lastFault v_lastTorn v_odds_upper v_odds_lower v_odds_ways v_shop_boxes v_shop_startsAt v_shop_facts v_shop_places)) ⟨hx, hb, hml, hown, hts⟩ (c_X9_isEither l D cy sa x3 o11 hc12) (va_cwS 1 hts gX9_luck_X9_isEither rfl rfl rfl (by decide +kernel) ⟨Nat.le_of_ble_eq_true rfl, Nat.le_of_ble_eq_true rfl⟩) hE hP hDD rfl hS [] rfl rfl rfl rfl hl.1 (Nat.le_of_ble_eq_true rfl) ⟨Nat.zero_le _, Nat.zero_le _⟩ rfl dX9_luck_22 rfl (fun H locs hP hS => ?_)
      obtain ⟨hr13, h⟩ := chk_some h
      refine wi_if_ne (tgt := 32) hx hb dX9_luck_25 (by decide) hr13 (fun c15 => ?_) (fun c15 => ?_)
      · have h := ite_f c15 h
        refine lv_aload_n hx hb dX9_luck_32 rfl (lv_at hl 0 rfl) ?_
        refine wi_get (v := .ref a_v_odds) hx hb hts iX9 hown hE hP 0 rfl rfl 7 (by decide) q2 rfl dX9_luck_33 ?_
        refine lv_aload_n hx hb dX9_luck_36 rfl (lv_at hl 0 rfl) ?_
        refine wi_get (v := .ref a_v_shop) hx hb hts iX9 hown hE hP 0 rfl rfl 2 (by decide) q1 rfl dX9_luck_37 ?_
        refine lv_iload_n hx hb dX9_luck_40 rfl (lv_at hl 2 rfl) ?_
        refine lv_iload_n hx hb dX9_luck_41 rfl (lv_at hl 1 rfl) ?_
        obtain ⟨o16, hc17, h⟩ := bnd_some h
        refine cV_v (rest := []) (w2 := (wd_X9_luck cy a_v a_v_odds a_v_odds_ways a_v_shop a_v_shop_facts a_v_shop_places a_v_tape a_v_reader a_v_seen a_v_images a_v_sheets a_v_search v_lastFault v_lastTorn o16.1 o16.2.1 o16.2.2 v_shop_boxes v_shop_startsAt v_shop_facts v_shop_places)) ⟨hx, hb, hml, hown, hts⟩ (c_X2_ofWantedHour l D cy sa a_v_odds a_v_odds_ways a_v_shop a_v_shop_facts a_v_shop_places v_odds_upper v_odds_lower v_odds_ways v_shop_boxes v_shop_startsAt v_shop_facts v_shop_places x2 x1 o16 hc17) (cwV 3 hts gX9_luck_X2_ofWantedHour rfl rfl rfl (by decide +kernel) ⟨Nat.le_of_ble_eq_true rfl, Nat.le_of_ble_eq_true rfl⟩) rfl rfl rfl hE hP hDD rfl hS [1, 2, 3, 4, 5] rfl rfl rfl rfl hl.1 (Nat.le_of_ble_eq_true rfl) ⟨Nat.zero_le _, Nat.zero_le _⟩ rfl dX9_luck_42 rfl (fun H locs hP hS => ?_)
        refine lv_aload_n hx hb dX9_luck_45 rfl (lv_at hl 0 rfl) ?_
        refine wi_get (v := .ref a_v_odds) hx hb hts iX9 hown hE hP 0 rfl rfl 7 (by decide) q2 rfl dX9_luck_46 ?_
        refine lv_iload_n hx hb dX9_luck_49 rfl (lv_at hl 3 rfl) ?_
        obtain ⟨o18, hc19, h⟩ := bnd_some h
        refine cV_l (rest := []) (w2 := (wd_X9_luck cy a_v a_v_odds a_v_odds_ways a_v_shop a_v_shop_facts a_v_shop_places a_v_tape a_v_reader a_v_seen a_v_images a_v_sheets a_v_search v_lastFault v_lastTorn o16.1 o16.2.1 o16.2.2 v_shop_boxes v_shop_startsAt v_shop_facts v_shop_places)) ⟨hx, hb, hml, hown, hts⟩ (c_X2_told l D cy sa a_v_odds a_v_odds_ways o16.1 o16.2.1 x3 o18 hc19) (cwV 1 hts gX9_luck_X2_told rfl rfl rfl (by decide +kernel) ⟨Nat.le_of_ble_eq_true rfl, Nat.le_of_ble_eq_true rfl⟩) rfl rfl rfl hE hP hDD rfl hS [1] rfl rfl rfl rfl hl.1 (Nat.le_of_ble_eq_true rfl) ⟨Nat.zero_le _, Nat.zero_le _⟩ rfl dX9_luck_50 rfl (fun H locs hP hS => ?_)
        obtain rfl := Option.some.inj h
        exact KR _ _ _ _ hP hS dX9_luck_53
      · have h := ite_t c15 h
        refine wi_ldc2 (n := -1) hx hb hown q0 dX9_luck_28 rfl ?_
        obtain rfl := Option.some.inj h
        exact KR _ _ _ _ hP hS dX9_luck_31
abbrev wd_X9_mean (cy : Nat → ClassId) (a_v : Nat) (a_v_odds : Nat) (a_v_odds_ways : Nat) (a_v_shop : Nat) (a_v_shop_facts : Nat) (a_v_shop_places : Nat) (a_v_tape : Nat) (a_v_reader : Nat) (a_v_seen : Nat) (a_v_images : Nat) (a_v_sheets : Nat) (a_v_search : Nat) (v_lastFault : Int) (v_lastTorn : Int) (v_odds_upper : Int) (v_odds_lower : Int) (v_odds_ways : Nat → Int) (v_shop_boxes : Int) (v_shop_startsAt : Int) (v_shop_facts : Nat → Int) (v_shop_places : Nat → Int) : va_W := [(a_v, .inr (9, [.ref a_v_tape, .ref a_v_reader, .ref a_v_shop, .ref a_v_seen, .ref a_v_images, .ref a_v_sheets, .ref a_v_search, .ref a_v_odds, .int (zI v_lastFault), .int (zI v_lastTorn)])), (a_v_odds, .inr (2, [.ref a_v_odds_ways, .long (zL v_odds_upper), .long (zL v_odds_lower)])), (a_v_odds_ways, .inl (cy 2, 6, .inr (.inl (fun j => zL (v_odds_ways j))))), (a_v_shop, .inr (5, [.ref a_v_shop_facts, .ref a_v_shop_places, .int (zI v_shop_boxes), .int (zI v_shop_startsAt)])), (a_v_shop_facts, .inl (cy 0, 30, .inl (fun j => zI (v_shop_facts j)))), (a_v_shop_places, .inl (cy 0, 5, .inl (fun j => zI (v_shop_places j))))]
set_option maxHeartbeats 4000000 in
set_option maxRecDepth 100000 in
theorem c_X9_mean (l : Launch) (D : va_G) (cy : Nat → ClassId) (sa : Nat → Nat) (a_v : Nat) (a_v_odds : Nat) (a_v_odds_ways : Nat) (a_v_shop : Nat) (a_v_shop_facts : Nat) (a_v_shop_places : Nat) (a_v_tape : Nat) (a_v_reader : Nat) (a_v_seen : Nat) (a_v_images : Nat) (a_v_sheets : Nat) (a_v_search : Nat) (v_lastFault : Int) (v_lastTorn : Int) (v_odds_upper : Int) (v_odds_lower : Int) (v_odds_ways : Nat → Int) (v_shop_boxes : Int) (v_shop_startsAt : Int) (v_shop_facts : Nat → Int) (v_shop_places : Nat → Int) (x1 : Int) (x2 : Int) (o : Int × Int × Int × (Nat → Int)) (h : f_HH_mean v_odds_upper v_odds_lower v_odds_ways v_shop_boxes v_shop_startsAt v_shop_facts v_shop_places x1 x2 = some o) : CtL l yX9_mean wsX9_mean ({ frames := 3, cells := 0, slots := 0, locals := 71 }) D cy sa [.ref a_v, .int (zI x1), .int (zI x2)] (wd_X9_mean cy a_v a_v_odds a_v_odds_ways a_v_shop a_v_shop_facts a_v_shop_places a_v_tape a_v_reader a_v_seen a_v_images a_v_sheets a_v_search v_lastFault v_lastTorn v_odds_upper v_odds_lower v_odds_ways v_shop_boxes v_shop_startsAt v_shop_facts v_shop_places) (wd_X9_mean cy a_v a_v_odds a_v_odds_ways a_v_shop a_v_shop_facts a_v_shop_places a_v_tape a_v_reader a_v_seen a_v_images a_v_sheets a_v_search v_lastFault v_lastTorn o.2.1 o.2.2.1 o.2.2.2 v_shop_boxes v_shop_startsAt v_shop_facts v_shop_places) o.1 := by
  refine ct_L (cc := cX9_mean) (maxL := 3) (plainFor_of_name (by decide)) rfl (Nat.le_of_ble_eq_true rfl) ?_
  intro p e s m below meth c A args QQ hx hb hml hown hts hE hDD hP KR ls hl
  have hl : lv_has ls 3 [(0, .ref a_v), (1, .int (zI x1)), (2, .int (zI x2))] := hl
  have hDD : DD A [a_v, a_v_odds, a_v_odds_ways, a_v_shop, a_v_shop_facts, a_v_shop_places] := hDD
  have hS : va_S A s.heap s.heap [] := va_S.rf
  have q0 := hts (.constantLong RX9 232 (-1)) (List.mem_of_getElem? (i := 1) rfl)
  have q1 := hts (.fieldLink RX9 63 "HatHours" "odds" "LHatHours$Odds;") (List.mem_of_getElem? (i := 2) rfl)
  have q2 := hts (.fieldLink RX9 28 "HatHours" "shop" "LHatHours$Shop;") (List.mem_of_getElem? (i := 3) rfl)
  have iX9 : ∀ w ∈ u_ws RX9 TX9 10, w ∈ wsX9_mean := in_slice 73 10 rfl
  refine lv_iload_n hx hb dX9_mean_0 rfl (lv_at hl 1 rfl) ?_
  refine wi_ic hx hb dX9_mean_1 ?_
  refine wi_bi hx hb dX9_mean_2 (by decide) ?_
  obtain ⟨o1, hc2, h⟩ := bnd_some h
  refine cS_i (rest := []) (w2 := (wd_X9_mean cy a_v a_v_odds a_v_odds_ways a_v_shop a_v_shop_facts a_v_shop_places a_v_tape a_v_reader a_v_seen a_v_images a_v_sheets a_v_search v_lastFault v_lastTorn v_odds_upper v_odds_lower v_odds_ways v_shop_boxes v_shop_startsAt v_shop_facts v_shop_places)) ⟨hx, hb, hml, hown, hts⟩ (c_X9_within l D cy sa x1 0 10 o1 hc2) (va_cwS 3 hts gX9_mean_X9_within rfl rfl rfl (by decide +kernel) ⟨Nat.le_of_ble_eq_true rfl, Nat.le_of_ble_eq_true rfl⟩) hE hP hDD rfl hS [] rfl rfl rfl rfl hl.1 (Nat.le_of_ble_eq_true rfl) ⟨Nat.zero_le _, Nat.zero_le _⟩ rfl dX9_mean_4 rfl (fun H locs hP hS => ?_)
  obtain ⟨hr3, h⟩ := chk_some h
  refine wi_if_eq (tgt := 17) hx hb dX9_mean_7 (by decide) hr3 (fun c5 => ?_) (fun c5 => ?_)
  · have h := ite_t c5 h
    refine wi_ldc2 (n := -1) hx hb hown q0 dX9_mean_17 rfl ?_
    obtain rfl := Option.some.inj h
    exact KR _ _ _ _ hP hS dX9_mean_20
  · have h := ite_f c5 h
    refine lv_iload_n hx hb dX9_mean_10 rfl (lv_at hl 2 rfl) ?_
    obtain ⟨o6, hc7, h⟩ := bnd_some h
    refine cS_i (rest := []) (w2 := (wd_X9_mean cy a_v a_v_odds a_v_odds_ways a_v_shop a_v_shop_facts a_v_shop_places a_v_tape a_v_reader a_v_seen a_v_images a_v_sheets a_v_search v_lastFault v_lastTorn v_odds_upper v_odds_lower v_odds_ways v_shop_boxes v_shop_startsAt v_shop_facts v_shop_places)) ⟨hx, hb, hml, hown, hts⟩ (c_X9_isEither l D cy sa x2 o6 hc7) (va_cwS 1 hts gX9_mean_X9_isEither rfl rfl rfl (by decide +kernel) ⟨Nat.le_of_ble_eq_true rfl, Nat.le_of_ble_eq_true rfl⟩) hE hP hDD rfl hS [] rfl rfl rfl rfl hl.1 (Nat.le_of_ble_eq_true rfl) ⟨Nat.zero_le _, Nat.zero_le _⟩ rfl dX9_mean_11 rfl (fun H locs hP hS => ?_)
    obtain ⟨hr8, h⟩ := chk_some h
    refine wi_if_ne (tgt := 21) hx hb dX9_mean_14 (by decide) hr8 (fun c10 => ?_) (fun c10 => ?_)
    · have h := ite_f c10 h
      refine lv_aload_n hx hb dX9_mean_21 rfl (lv_at hl 0 rfl) ?_
      refine wi_get (v := .ref a_v_odds) hx hb hts iX9 hown hE hP 0 rfl rfl 7 (by decide) q1 rfl dX9_mean_22 ?_
      refine lv_aload_n hx hb dX9_mean_25 rfl (lv_at hl 0 rfl) ?_
      refine wi_get (v := .ref a_v_shop) hx hb hts iX9 hown hE hP 0 rfl rfl 2 (by decide) q2 rfl dX9_mean_26 ?_
      refine lv_iload_n hx hb dX9_mean_29 rfl (lv_at hl 1 rfl) ?_
      obtain ⟨o11, hc12, h⟩ := bnd_some h
      refine cV_v (rest := []) (w2 := (wd_X9_mean cy a_v a_v_odds a_v_odds_ways a_v_shop a_v_shop_facts a_v_shop_places a_v_tape a_v_reader a_v_seen a_v_images a_v_sheets a_v_search v_lastFault v_lastTorn o11.1 o11.2.1 o11.2.2 v_shop_boxes v_shop_startsAt v_shop_facts v_shop_places)) ⟨hx, hb, hml, hown, hts⟩ (c_X2_ofMeanWrong l D cy sa a_v_odds a_v_odds_ways a_v_shop a_v_shop_facts a_v_shop_places v_odds_upper v_odds_lower v_odds_ways v_shop_boxes v_shop_startsAt v_shop_facts v_shop_places x1 o11 hc12) (cwV 2 hts gX9_mean_X2_ofMeanWrong rfl rfl rfl (by decide +kernel) ⟨Nat.le_of_ble_eq_true rfl, Nat.le_of_ble_eq_true rfl⟩) rfl rfl rfl hE hP hDD rfl hS [1, 2, 3, 4, 5] rfl rfl rfl rfl hl.1 (Nat.le_of_ble_eq_true rfl) ⟨Nat.zero_le _, Nat.zero_le _⟩ rfl dX9_mean_30 rfl (fun H locs hP hS => ?_)
      refine lv_aload_n hx hb dX9_mean_33 rfl (lv_at hl 0 rfl) ?_
      refine wi_get (v := .ref a_v_odds) hx hb hts iX9 hown hE hP 0 rfl rfl 7 (by decide) q1 rfl dX9_mean_34 ?_
      refine lv_iload_n hx hb dX9_mean_37 rfl (lv_at hl 2 rfl) ?_
      obtain ⟨o13, hc14, h⟩ := bnd_some h
      refine cV_l (rest := []) (w2 := (wd_X9_mean cy a_v a_v_odds a_v_odds_ways a_v_shop a_v_shop_facts a_v_shop_places a_v_tape a_v_reader a_v_seen a_v_images a_v_sheets a_v_search v_lastFault v_lastTorn o11.1 o11.2.1 o11.2.2 v_shop_boxes v_shop_startsAt v_shop_facts v_shop_places)) ⟨hx, hb, hml, hown, hts⟩ (c_X2_told l D cy sa a_v_odds a_v_odds_ways o11.1 o11.2.1 x2 o13 hc14) (cwV 1 hts gX9_mean_X2_told rfl rfl rfl (by decide +kernel) ⟨Nat.le_of_ble_eq_true rfl, Nat.le_of_ble_eq_true rfl⟩) rfl rfl rfl hE hP hDD rfl hS [1] rfl rfl rfl rfl hl.1 (Nat.le_of_ble_eq_true rfl) ⟨Nat.zero_le _, Nat.zero_le _⟩ rfl dX9_mean_38 rfl (fun H locs hP hS => ?_)
      obtain rfl := Option.some.inj h
      exact KR _ _ _ _ hP hS dX9_mean_41
    · have h := ite_t c10 h
      refine wi_ldc2 (n := -1) hx hb hown q0 dX9_mean_17 rfl ?_
      obtain rfl := Option.some.inj h
      exact KR _ _ _ _ hP hS dX9_mean_20
abbrev wd_X9_see (cy : Nat → ClassId) (a_v : Nat) (a_v_seen : Nat) (a_v_seen_hours : Nat) (a_v_seen_oclocks : Nat) (a_v_seen_rooms : Nat) (a_v_tape : Nat) (a_v_reader : Nat) (a_v_shop : Nat) (a_v_images : Nat) (a_v_sheets : Nat) (a_v_search : Nat) (a_v_odds : Nat) (v_lastFault : Int) (v_lastTorn : Int) (v_seen_used : Int) (v_seen_hours : Nat → Int) (v_seen_oclocks : Nat → Int) (v_seen_rooms : Nat → Int) : va_W := [(a_v, .inr (9, [.ref a_v_tape, .ref a_v_reader, .ref a_v_shop, .ref a_v_seen, .ref a_v_images, .ref a_v_sheets, .ref a_v_search, .ref a_v_odds, .int (zI v_lastFault), .int (zI v_lastTorn)])), (a_v_seen, .inr (6, [.ref a_v_seen_rooms, .ref a_v_seen_hours, .ref a_v_seen_oclocks, .int (zI v_seen_used)])), (a_v_seen_hours, .inl (cy 0, 6, .inl (fun j => zI (v_seen_hours j)))), (a_v_seen_oclocks, .inl (cy 0, 6, .inl (fun j => zI (v_seen_oclocks j)))), (a_v_seen_rooms, .inl (cy 0, 6, .inl (fun j => zI (v_seen_rooms j))))]
set_option maxHeartbeats 4000000 in
set_option maxRecDepth 100000 in
theorem c_X9_see (l : Launch) (D : va_G) (cy : Nat → ClassId) (sa : Nat → Nat) (a_v : Nat) (a_v_seen : Nat) (a_v_seen_hours : Nat) (a_v_seen_oclocks : Nat) (a_v_seen_rooms : Nat) (a_v_tape : Nat) (a_v_reader : Nat) (a_v_shop : Nat) (a_v_images : Nat) (a_v_sheets : Nat) (a_v_search : Nat) (a_v_odds : Nat) (v_lastFault : Int) (v_lastTorn : Int) (v_seen_used : Int) (v_seen_hours : Nat → Int) (v_seen_oclocks : Nat → Int) (v_seen_rooms : Nat → Int) (x1 : Int) (x2 : Int) (x3 : Int) (o : Int × Int × (Nat → Int) × (Nat → Int) × (Nat → Int)) (h : f_HH_see v_seen_used v_seen_hours v_seen_oclocks v_seen_rooms x1 x2 x3 = some o) : CtI l yX9_see wsX9_see ({ frames := 2, cells := 0, slots := 0, locals := 43 }) D cy sa [.ref a_v, .int (zI x1), .int (zI x2), .int (zI x3)] (wd_X9_see cy a_v a_v_seen a_v_seen_hours a_v_seen_oclocks a_v_seen_rooms a_v_tape a_v_reader a_v_shop a_v_images a_v_sheets a_v_search a_v_odds v_lastFault v_lastTorn v_seen_used v_seen_hours v_seen_oclocks v_seen_rooms) (wd_X9_see cy a_v a_v_seen a_v_seen_hours a_v_seen_oclocks a_v_seen_rooms a_v_tape a_v_reader a_v_shop a_v_images a_v_sheets a_v_search a_v_odds v_lastFault v_lastTorn o.2.1 o.2.2.1 o.2.2.2.1 o.2.2.2.2) o.1 := by
  refine ct_I (cc := cX9_see) (maxL := 4) (plainFor_of_name (by decide)) rfl (Nat.le_of_ble_eq_true rfl) ?_
  intro p e s m below meth c A args QQ hx hb hml hown hts hE hDD hP KR ls hl
  have hl : lv_has ls 4 [(0, .ref a_v), (1, .int (zI x1)), (2, .int (zI x2)), (3, .int (zI x3))] := hl
  have hDD : DD A [a_v, a_v_seen, a_v_seen_hours, a_v_seen_oclocks, a_v_seen_rooms] := hDD
  have hS : va_S A s.heap s.heap [] := va_S.rf
  have q0 := hts (.fieldLink RX9 35 "HatHours" "seen" "LHatHours$Sightings;") (List.mem_of_getElem? (i := 1) rfl)
  have iX9 : ∀ w ∈ u_ws RX9 TX9 10, w ∈ wsX9_see := in_slice 30 10 rfl
  refine lv_iload_n hx hb dX9_see_0 rfl (lv_at hl 1 rfl) ?_
  obtain ⟨o1, hc2, h⟩ := bnd_some h
  refine cS_i (rest := []) (w2 := (wd_X9_see cy a_v a_v_seen a_v_seen_hours a_v_seen_oclocks a_v_seen_rooms a_v_tape a_v_reader a_v_shop a_v_images a_v_sheets a_v_search a_v_odds v_lastFault v_lastTorn v_seen_used v_seen_hours v_seen_oclocks v_seen_rooms)) ⟨hx, hb, hml, hown, hts⟩ (c_X9_isRoom l D cy sa x1 o1 hc2) (va_cwS 1 hts gX9_see_X9_isRoom rfl rfl rfl (by decide +kernel) ⟨Nat.le_of_ble_eq_true rfl, Nat.le_of_ble_eq_true rfl⟩) hE hP hDD rfl hS [] rfl rfl rfl rfl hl.1 (Nat.le_of_ble_eq_true rfl) ⟨Nat.zero_le _, Nat.zero_le _⟩ rfl dX9_see_1 rfl (fun H locs hP hS => ?_)
  obtain ⟨hr3, h⟩ := chk_some h
  refine wi_if_eq (tgt := 21) hx hb dX9_see_4 (by decide) hr3 (fun c5 => ?_) (fun c5 => ?_)
  · have h := ite_t c5 h
    refine wi_ic hx hb dX9_see_21 ?_
    obtain rfl := Option.some.inj h
    exact KR _ _ _ _ hP hS dX9_see_22
  · have h := ite_f c5 h
    refine lv_iload_n hx hb dX9_see_7 rfl (lv_at hl 2 rfl) ?_
    obtain ⟨o6, hc7, h⟩ := bnd_some h
    refine cS_i (rest := []) (w2 := (wd_X9_see cy a_v a_v_seen a_v_seen_hours a_v_seen_oclocks a_v_seen_rooms a_v_tape a_v_reader a_v_shop a_v_images a_v_sheets a_v_search a_v_odds v_lastFault v_lastTorn v_seen_used v_seen_hours v_seen_oclocks v_seen_rooms)) ⟨hx, hb, hml, hown, hts⟩ (c_X9_isHour l D cy sa x2 o6 hc7) (va_cwS 1 hts gX9_see_X9_isHour rfl rfl rfl (by decide +kernel) ⟨Nat.le_of_ble_eq_true rfl, Nat.le_of_ble_eq_true rfl⟩) hE hP hDD rfl hS [] rfl rfl rfl rfl hl.1 (Nat.le_of_ble_eq_true rfl) ⟨Nat.zero_le _, Nat.zero_le _⟩ rfl dX9_see_8 rfl (fun H locs hP hS => ?_)
    obtain ⟨hr8, h⟩ := chk_some h
    refine wi_if_eq (tgt := 21) hx hb dX9_see_11 (by decide) hr8 (fun c10 => ?_) (fun c10 => ?_)
    · have h := ite_t c10 h
      refine wi_ic hx hb dX9_see_21 ?_
      obtain rfl := Option.some.inj h
      exact KR _ _ _ _ hP hS dX9_see_22
    · have h := ite_f c10 h
      refine lv_iload_n hx hb dX9_see_14 rfl (lv_at hl 3 rfl) ?_
      obtain ⟨o11, hc12, h⟩ := bnd_some h
      refine cS_i (rest := []) (w2 := (wd_X9_see cy a_v a_v_seen a_v_seen_hours a_v_seen_oclocks a_v_seen_rooms a_v_tape a_v_reader a_v_shop a_v_images a_v_sheets a_v_search a_v_odds v_lastFault v_lastTorn v_seen_used v_seen_hours v_seen_oclocks v_seen_rooms)) ⟨hx, hb, hml, hown, hts⟩ (c_X9_isHour l D cy sa x3 o11 hc12) (va_cwS 1 hts gX9_see_X9_isHour rfl rfl rfl (by decide +kernel) ⟨Nat.le_of_ble_eq_true rfl, Nat.le_of_ble_eq_true rfl⟩) hE hP hDD rfl hS [] rfl rfl rfl rfl hl.1 (Nat.le_of_ble_eq_true rfl) ⟨Nat.zero_le _, Nat.zero_le _⟩ rfl dX9_see_15 rfl (fun H locs hP hS => ?_)
      obtain ⟨hr13, h⟩ := chk_some h
      refine wi_if_ne (tgt := 23) hx hb dX9_see_18 (by decide) hr13 (fun c15 => ?_) (fun c15 => ?_)
      · have h := ite_f c15 h
        refine lv_aload_n hx hb dX9_see_23 rfl (lv_at hl 0 rfl) ?_
        refine wi_get (v := .ref a_v_seen) hx hb hts iX9 hown hE hP 0 rfl rfl 3 (by decide) q0 rfl dX9_see_24 ?_
        obtain ⟨o16, hc17, h⟩ := bnd_some h
        refine cV_i (rest := []) (w2 := (wd_X9_see cy a_v a_v_seen a_v_seen_hours a_v_seen_oclocks a_v_seen_rooms a_v_tape a_v_reader a_v_shop a_v_images a_v_sheets a_v_search a_v_odds v_lastFault v_lastTorn v_seen_used v_seen_hours v_seen_oclocks v_seen_rooms)) ⟨hx, hb, hml, hown, hts⟩ (c_X6_isFull l D cy sa a_v_seen a_v_seen_rooms a_v_seen_hours a_v_seen_oclocks v_seen_used o16 hc17) (cwV 0 hts gX9_see_X6_isFull rfl rfl rfl (by decide +kernel) ⟨Nat.le_of_ble_eq_true rfl, Nat.le_of_ble_eq_true rfl⟩) rfl rfl rfl hE hP hDD rfl hS [1] rfl rfl rfl rfl hl.1 (Nat.le_of_ble_eq_true rfl) ⟨Nat.zero_le _, Nat.zero_le _⟩ rfl dX9_see_27 rfl (fun H locs hP hS => ?_)
        obtain ⟨hr18, h⟩ := chk_some h
        refine wi_if_eq (tgt := 36) hx hb dX9_see_30 (by decide) hr18 (fun c20 => ?_) (fun c20 => ?_)
        · have h := ite_t c20 h
          refine lv_aload_n hx hb dX9_see_36 rfl (lv_at hl 0 rfl) ?_
          refine wi_get (v := .ref a_v_seen) hx hb hts iX9 hown hE hP 0 rfl rfl 3 (by decide) q0 rfl dX9_see_37 ?_
          refine lv_iload_n hx hb dX9_see_40 rfl (lv_at hl 1 rfl) ?_
          refine lv_iload_n hx hb dX9_see_41 rfl (lv_at hl 2 rfl) ?_
          refine lv_iload_n hx hb dX9_see_42 rfl (lv_at hl 3 rfl) ?_
          obtain ⟨o21, hc22, h⟩ := bnd_some h
          refine cV_v (rest := []) (w2 := (wd_X9_see cy a_v a_v_seen a_v_seen_hours a_v_seen_oclocks a_v_seen_rooms a_v_tape a_v_reader a_v_shop a_v_images a_v_sheets a_v_search a_v_odds v_lastFault v_lastTorn o21.1 o21.2.1 o21.2.2.1 o21.2.2.2)) ⟨hx, hb, hml, hown, hts⟩ (c_X6_add l D cy sa a_v_seen a_v_seen_hours a_v_seen_oclocks a_v_seen_rooms v_seen_used v_seen_hours v_seen_oclocks v_seen_rooms x1 x2 x3 o21 hc22) (cwV 3 hts gX9_see_X6_add rfl rfl rfl (by decide +kernel) ⟨Nat.le_of_ble_eq_true rfl, Nat.le_of_ble_eq_true rfl⟩) rfl rfl rfl hE hP hDD rfl hS [1, 2, 3, 4] rfl rfl rfl rfl hl.1 (Nat.le_of_ble_eq_true rfl) ⟨Nat.zero_le _, Nat.zero_le _⟩ rfl dX9_see_43 rfl (fun H locs hP hS => ?_)
          refine lv_aload_n hx hb dX9_see_46 rfl (lv_at hl 0 rfl) ?_
          refine wi_get (v := .ref a_v_seen) hx hb hts iX9 hown hE hP 0 rfl rfl 3 (by decide) q0 rfl dX9_see_47 ?_
          obtain ⟨o23, hc24, h⟩ := bnd_some h
          refine cV_i (rest := []) (w2 := (wd_X9_see cy a_v a_v_seen a_v_seen_hours a_v_seen_oclocks a_v_seen_rooms a_v_tape a_v_reader a_v_shop a_v_images a_v_sheets a_v_search a_v_odds v_lastFault v_lastTorn o21.1 o21.2.1 o21.2.2.1 o21.2.2.2)) ⟨hx, hb, hml, hown, hts⟩ (c_X6_size l D cy sa a_v_seen a_v_seen_rooms a_v_seen_hours a_v_seen_oclocks o21.1 o23 hc24) (cwV 0 hts gX9_see_X6_size rfl rfl rfl (by decide +kernel) ⟨Nat.le_of_ble_eq_true rfl, Nat.le_of_ble_eq_true rfl⟩) rfl rfl rfl hE hP hDD rfl hS [1] rfl rfl rfl rfl hl.1 (Nat.le_of_ble_eq_true rfl) ⟨Nat.zero_le _, Nat.zero_le _⟩ rfl dX9_see_50 rfl (fun H locs hP hS => ?_)
          obtain rfl := Option.some.inj h
          exact KR _ _ _ _ hP hS dX9_see_53
        · have h := ite_f c20 h
          refine wi_bi hx hb dX9_see_33 (by decide) ?_
          obtain rfl := Option.some.inj h
          exact KR _ _ _ _ hP hS dX9_see_35
      · have h := ite_t c15 h
        refine wi_ic hx hb dX9_see_21 ?_
        obtain rfl := Option.some.inj h
        exact KR _ _ _ _ hP hS dX9_see_22
abbrev wd_X9_forget (cy : Nat → ClassId) (a_v : Nat) (a_v_seen : Nat) (a_v_tape : Nat) (a_v_reader : Nat) (a_v_shop : Nat) (a_v_images : Nat) (a_v_sheets : Nat) (a_v_search : Nat) (a_v_odds : Nat) (a_v_seen_rooms : Nat) (a_v_seen_hours : Nat) (a_v_seen_oclocks : Nat) (v_lastFault : Int) (v_lastTorn : Int) (v_seen_used : Int) : va_W := [(a_v, .inr (9, [.ref a_v_tape, .ref a_v_reader, .ref a_v_shop, .ref a_v_seen, .ref a_v_images, .ref a_v_sheets, .ref a_v_search, .ref a_v_odds, .int (zI v_lastFault), .int (zI v_lastTorn)])), (a_v_seen, .inr (6, [.ref a_v_seen_rooms, .ref a_v_seen_hours, .ref a_v_seen_oclocks, .int (zI v_seen_used)]))]
set_option maxHeartbeats 4000000 in
set_option maxRecDepth 100000 in
theorem c_X9_forget (l : Launch) (D : va_G) (cy : Nat → ClassId) (sa : Nat → Nat) (a_v : Nat) (a_v_seen : Nat) (a_v_tape : Nat) (a_v_reader : Nat) (a_v_shop : Nat) (a_v_images : Nat) (a_v_sheets : Nat) (a_v_search : Nat) (a_v_odds : Nat) (a_v_seen_rooms : Nat) (a_v_seen_hours : Nat) (a_v_seen_oclocks : Nat) (v_lastFault : Int) (v_lastTorn : Int) (v_seen_used : Int) (x1 : Int) (o : Int × Int) (h : f_HH_forget v_seen_used x1 = some o) : CtI l yX9_forget wsX9_forget ({ frames := 2, cells := 0, slots := 0, locals := 43 }) D cy sa [.ref a_v, .int (zI x1)] (wd_X9_forget cy a_v a_v_seen a_v_tape a_v_reader a_v_shop a_v_images a_v_sheets a_v_search a_v_odds a_v_seen_rooms a_v_seen_hours a_v_seen_oclocks v_lastFault v_lastTorn v_seen_used) (wd_X9_forget cy a_v a_v_seen a_v_tape a_v_reader a_v_shop a_v_images a_v_sheets a_v_search a_v_odds a_v_seen_rooms a_v_seen_hours a_v_seen_oclocks v_lastFault v_lastTorn o.2) o.1 := by
  refine ct_I (cc := cX9_forget) (maxL := 3) (plainFor_of_name (by decide)) rfl (Nat.le_of_ble_eq_true rfl) ?_
  intro p e s m below meth c A args QQ hx hb hml hown hts hE hDD hP KR ls hl
  have hl : lv_has ls 3 [(0, .ref a_v), (1, .int (zI x1))] := hl
  have hDD : DD A [a_v, a_v_seen] := hDD
  have hS : va_S A s.heap s.heap [] := va_S.rf
  have q0 := hts (.fieldLink RX9 35 "HatHours" "seen" "LHatHours$Sightings;") (List.mem_of_getElem? (i := 1) rfl)
  have iX9 : ∀ w ∈ u_ws RX9 TX9 10, w ∈ wsX9_forget := in_slice 16 10 rfl
  refine lv_aload_n hx hb dX9_forget_0 rfl (lv_at hl 0 rfl) ?_
  refine wi_get (v := .ref a_v_seen) hx hb hts iX9 hown hE hP 0 rfl rfl 3 (by decide) q0 rfl dX9_forget_1 ?_
  obtain ⟨o1, hc2, h⟩ := bnd_some h
  refine cV_i (rest := []) (w2 := (wd_X9_forget cy a_v a_v_seen a_v_tape a_v_reader a_v_shop a_v_images a_v_sheets a_v_search a_v_odds a_v_seen_rooms a_v_seen_hours a_v_seen_oclocks v_lastFault v_lastTorn v_seen_used)) ⟨hx, hb, hml, hown, hts⟩ (c_X6_size l D cy sa a_v_seen a_v_seen_rooms a_v_seen_hours a_v_seen_oclocks v_seen_used o1 hc2) (cwV 0 hts gX9_forget_X6_size rfl rfl rfl (by decide +kernel) ⟨Nat.le_of_ble_eq_true rfl, Nat.le_of_ble_eq_true rfl⟩) rfl rfl rfl hE hP hDD rfl hS [1] rfl rfl rfl rfl hl.1 (Nat.le_of_ble_eq_true rfl) ⟨Nat.zero_le _, Nat.zero_le _⟩ rfl dX9_forget_4 rfl (fun H locs hP hS => ?_)
  refine lv_istore_n (lv' := [(2, .int (zI o1)), (0, .ref a_v), (1, .int (zI x1))]) hx hb dX9_forget_7 rfl hl (by decide) rfl (fun ls hl => ?_)
  refine lv_iload_n hx hb dX9_forget_8 rfl (lv_at hl 2 rfl) ?_
  refine wi_ic hx hb dX9_forget_9 ?_
  refine lv_iload_n hx hb dX9_forget_10 rfl (lv_at hl 0 rfl) ?_
  obtain ⟨o3, hc4, h⟩ := bnd_some h
  refine cS_i (rest := []) (w2 := (wd_X9_forget cy a_v a_v_seen a_v_tape a_v_reader a_v_shop a_v_images a_v_sheets a_v_search a_v_odds a_v_seen_rooms a_v_seen_hours a_v_seen_oclocks v_lastFault v_lastTorn v_seen_used)) ⟨hx, hb, hml, hown, hts⟩ (c_X9_within l D cy sa x1 0 o1 o3 hc4) (va_cwS 3 hts gX9_forget_X9_within rfl rfl rfl (by decide +kernel) ⟨Nat.le_of_ble_eq_true rfl, Nat.le_of_ble_eq_true rfl⟩) hE hP hDD rfl hS [] rfl rfl rfl rfl hl.1 (Nat.le_of_ble_eq_true rfl) ⟨Nat.zero_le _, Nat.zero_le _⟩ rfl dX9_forget_11 rfl (fun H locs hP hS => ?_)
  obtain ⟨hr5, h⟩ := chk_some h
  refine wi_if_ne (tgt := 19) hx hb dX9_forget_14 (by decide) hr5 (fun c7 => ?_) (fun c7 => ?_)
  · have h := ite_f c7 h
    refine lv_aload_n hx hb dX9_forget_19 rfl (lv_at hl 1 rfl) ?_
    refine wi_get (v := .ref a_v_seen) hx hb hts iX9 hown hE hP 0 rfl rfl 3 (by decide) q0 rfl dX9_forget_20 ?_
    refine lv_iload_n hx hb dX9_forget_23 rfl (lv_at hl 2 rfl) ?_
    obtain ⟨o8, hc9, h⟩ := bnd_some h
    refine cV_v (rest := []) (w2 := (wd_X9_forget cy a_v a_v_seen a_v_tape a_v_reader a_v_shop a_v_images a_v_sheets a_v_search a_v_odds a_v_seen_rooms a_v_seen_hours a_v_seen_oclocks v_lastFault v_lastTorn o8)) ⟨hx, hb, hml, hown, hts⟩ (c_X6_cut l D cy sa a_v_seen a_v_seen_rooms a_v_seen_hours a_v_seen_oclocks v_seen_used x1 o8 hc9) (cwV 1 hts gX9_forget_X6_cut rfl rfl rfl (by decide +kernel) ⟨Nat.le_of_ble_eq_true rfl, Nat.le_of_ble_eq_true rfl⟩) rfl rfl rfl hE hP hDD rfl hS [1] rfl rfl rfl rfl hl.1 (Nat.le_of_ble_eq_true rfl) ⟨Nat.zero_le _, Nat.zero_le _⟩ rfl dX9_forget_24 rfl (fun H locs hP hS => ?_)
    refine lv_iload_n hx hb dX9_forget_27 rfl (lv_at hl 0 rfl) ?_
    obtain rfl := Option.some.inj h
    exact KR _ _ _ _ hP hS dX9_forget_28
  · have h := ite_t c7 h
    refine wi_ic hx hb dX9_forget_17 ?_
    obtain rfl := Option.some.inj h
    exact KR _ _ _ _ hP hS dX9_forget_18
abbrev wd_X9_starts (cy : Nat → ClassId) (a_v : Nat) (a_v_search : Nat) (a_v_search_draft : Nat) (a_v_search_draft_facts : Nat) (a_v_search_draft_places : Nat) (a_v_seen : Nat) (a_v_seen_hours : Nat) (a_v_seen_oclocks : Nat) (a_v_seen_rooms : Nat) (a_v_shop : Nat) (a_v_shop_facts : Nat) (a_v_shop_places : Nat) (a_v_tape : Nat) (a_v_reader : Nat) (a_v_images : Nat) (a_v_sheets : Nat) (a_v_odds : Nat) (a_v_search_least : Nat) (a_v_search_bestPlaces : Nat) (a_v_search_startsLeft : Nat) (v_lastFault : Int) (v_lastTorn : Int) (v_search_draft_boxes : Int) (v_search_draft_startsAt : Int) (v_search_draft_facts : Nat → Int) (v_search_draft_places : Nat → Int) (v_seen_used : Int) (v_seen_hours : Nat → Int) (v_seen_oclocks : Nat → Int) (v_seen_rooms : Nat → Int) (v_shop_boxes : Int) (v_shop_startsAt : Int) (v_shop_facts : Nat → Int) (v_shop_places : Nat → Int) : va_W := [(a_v, .inr (9, [.ref a_v_tape, .ref a_v_reader, .ref a_v_shop, .ref a_v_seen, .ref a_v_images, .ref a_v_sheets, .ref a_v_search, .ref a_v_odds, .int (zI v_lastFault), .int (zI v_lastTorn)])), (a_v_search, .inr (3, [.ref a_v_search_draft, .ref a_v_search_least, .ref a_v_search_bestPlaces, .ref a_v_search_startsLeft])), (a_v_search_draft, .inr (5, [.ref a_v_search_draft_facts, .ref a_v_search_draft_places, .int (zI v_search_draft_boxes), .int (zI v_search_draft_startsAt)])), (a_v_search_draft_facts, .inl (cy 0, 30, .inl (fun j => zI (v_search_draft_facts j)))), (a_v_search_draft_places, .inl (cy 0, 5, .inl (fun j => zI (v_search_draft_places j)))), (a_v_seen, .inr (6, [.ref a_v_seen_rooms, .ref a_v_seen_hours, .ref a_v_seen_oclocks, .int (zI v_seen_used)])), (a_v_seen_hours, .inl (cy 0, 6, .inl (fun j => zI (v_seen_hours j)))), (a_v_seen_oclocks, .inl (cy 0, 6, .inl (fun j => zI (v_seen_oclocks j)))), (a_v_seen_rooms, .inl (cy 0, 6, .inl (fun j => zI (v_seen_rooms j)))), (a_v_shop, .inr (5, [.ref a_v_shop_facts, .ref a_v_shop_places, .int (zI v_shop_boxes), .int (zI v_shop_startsAt)])), (a_v_shop_facts, .inl (cy 0, 30, .inl (fun j => zI (v_shop_facts j)))), (a_v_shop_places, .inl (cy 0, 5, .inl (fun j => zI (v_shop_places j))))]
set_option maxHeartbeats 4000000 in
set_option maxRecDepth 100000 in
theorem c_X9_starts (l : Launch) (D : va_G) (cy : Nat → ClassId) (sa : Nat → Nat) (a_v : Nat) (a_v_search : Nat) (a_v_search_draft : Nat) (a_v_search_draft_facts : Nat) (a_v_search_draft_places : Nat) (a_v_seen : Nat) (a_v_seen_hours : Nat) (a_v_seen_oclocks : Nat) (a_v_seen_rooms : Nat) (a_v_shop : Nat) (a_v_shop_facts : Nat) (a_v_shop_places : Nat) (a_v_tape : Nat) (a_v_reader : Nat) (a_v_images : Nat) (a_v_sheets : Nat) (a_v_odds : Nat) (a_v_search_least : Nat) (a_v_search_bestPlaces : Nat) (a_v_search_startsLeft : Nat) (v_lastFault : Int) (v_lastTorn : Int) (v_search_draft_boxes : Int) (v_search_draft_startsAt : Int) (v_search_draft_facts : Nat → Int) (v_search_draft_places : Nat → Int) (v_seen_used : Int) (v_seen_hours : Nat → Int) (v_seen_oclocks : Nat → Int) (v_seen_rooms : Nat → Int) (v_shop_boxes : Int) (v_shop_startsAt : Int) (v_shop_facts : Nat → Int) (v_shop_places : Nat → Int) (o : Int × Int × Int × (Nat → Int) × (Nat → Int)) (h : f_HH_starts v_search_draft_boxes v_search_draft_startsAt v_search_draft_facts v_search_draft_places v_seen_used v_seen_hours v_seen_oclocks v_seen_rooms v_shop_boxes v_shop_startsAt v_shop_facts v_shop_places = some o) : CtI l yX9_starts wsX9_starts ({ frames := 6, cells := 0, slots := 0, locals := 137 }) D cy sa [.ref a_v] (wd_X9_starts cy a_v a_v_search a_v_search_draft a_v_search_draft_facts a_v_search_draft_places a_v_seen a_v_seen_hours a_v_seen_oclocks a_v_seen_rooms a_v_shop a_v_shop_facts a_v_shop_places a_v_tape a_v_reader a_v_images a_v_sheets a_v_odds a_v_search_least a_v_search_bestPlaces a_v_search_startsLeft v_lastFault v_lastTorn v_search_draft_boxes v_search_draft_startsAt v_search_draft_facts v_search_draft_places v_seen_used v_seen_hours v_seen_oclocks v_seen_rooms v_shop_boxes v_shop_startsAt v_shop_facts v_shop_places) (wd_X9_starts cy a_v a_v_search a_v_search_draft a_v_search_draft_facts a_v_search_draft_places a_v_seen a_v_seen_hours a_v_seen_oclocks a_v_seen_rooms a_v_shop a_v_shop_facts a_v_shop_places a_v_tape a_v_reader a_v_images a_v_sheets a_v_odds a_v_search_least a_v_search_bestPlaces a_v_search_startsLeft v_lastFault v_lastTorn o.2.1 o.2.2.1 o.2.2.2.1 o.2.2.2.2 v_seen_used v_seen_hours v_seen_oclocks v_seen_rooms v_shop_boxes v_shop_startsAt v_shop_facts v_shop_places) o.1 := by
  refine ct_I (cc := cX9_starts) (maxL := 1) (plainFor_of_name (by decide)) rfl (Nat.le_of_ble_eq_true rfl) ?_
  intro p e s m below meth c A args QQ hx hb hml hown hts hE hDD hP KR ls hl
  have hl : lv_has ls 1 [(0, .ref a_v)] := hl
  have hDD : DD A [a_v, a_v_search, a_v_search_draft, a_v_search_draft_facts, a_v_search_draft_places, a_v_seen, a_v_seen_hours, a_v_seen_oclocks, a_v_seen_rooms, a_v_shop, a_v_shop_facts, a_v_shop_places] := hDD
  have hS : va_S A s.heap s.heap [] := va_S.rf
  have q0 := hts (.fieldLink RX9 56 "HatHours" "search" "LHatHours$Search;") (List.mem_of_getElem? (i := 1) rfl)
  have q1 := hts (.fieldLink RX9 28 "HatHours" "shop" "LHatHours$Shop;") (List.mem_of_getElem? (i := 2) rfl)
  have q2 := hts (.fieldLink RX9 35 "HatHours" "seen" "LHatHours$Sightings;") (List.mem_of_getElem? (i := 3) rfl)
  have iX9 : ∀ w ∈ u_ws RX9 TX9 10, w ∈ wsX9_starts := in_slice 64 10 rfl
  refine lv_aload_n hx hb dX9_starts_0 rfl (lv_at hl 0 rfl) ?_
  refine wi_get (v := .ref a_v_search) hx hb hts iX9 hown hE hP 0 rfl rfl 6 (by decide) q0 rfl dX9_starts_1 ?_
  refine lv_aload_n hx hb dX9_starts_4 rfl (lv_at hl 0 rfl) ?_
  refine wi_get (v := .ref a_v_shop) hx hb hts iX9 hown hE hP 0 rfl rfl 2 (by decide) q1 rfl dX9_starts_5 ?_
  refine lv_aload_n hx hb dX9_starts_8 rfl (lv_at hl 0 rfl) ?_
  refine wi_get (v := .ref a_v_seen) hx hb hts iX9 hown hE hP 0 rfl rfl 3 (by decide) q2 rfl dX9_starts_9 ?_
  obtain ⟨o1, hc2, h⟩ := bnd_some h
  refine cV_i (rest := []) (w2 := (wd_X9_starts cy a_v a_v_search a_v_search_draft a_v_search_draft_facts a_v_search_draft_places a_v_seen a_v_seen_hours a_v_seen_oclocks a_v_seen_rooms a_v_shop a_v_shop_facts a_v_shop_places a_v_tape a_v_reader a_v_images a_v_sheets a_v_odds a_v_search_least a_v_search_bestPlaces a_v_search_startsLeft v_lastFault v_lastTorn o1.2.1 o1.2.2.1 o1.2.2.2.1 o1.2.2.2.2 v_seen_used v_seen_hours v_seen_oclocks v_seen_rooms v_shop_boxes v_shop_startsAt v_shop_facts v_shop_places)) ⟨hx, hb, hml, hown, hts⟩ (c_X3_startsAsSeen l D cy sa a_v_search a_v_search_draft a_v_search_draft_facts a_v_search_draft_places a_v_shop a_v_shop_facts a_v_shop_places a_v_seen a_v_seen_hours a_v_seen_oclocks a_v_seen_rooms a_v_search_least a_v_search_bestPlaces a_v_search_startsLeft v_search_draft_boxes v_search_draft_startsAt v_search_draft_facts v_search_draft_places v_shop_boxes v_shop_startsAt v_shop_facts v_shop_places v_seen_used v_seen_hours v_seen_oclocks v_seen_rooms o1 hc2) (cwV 2 hts gX9_starts_X3_startsAsSeen rfl rfl rfl (by decide +kernel) ⟨Nat.le_of_ble_eq_true rfl, Nat.le_of_ble_eq_true rfl⟩) rfl rfl rfl hE hP hDD rfl hS [1, 2, 3, 4, 9, 10, 11, 5, 6, 7, 8] rfl rfl rfl rfl hl.1 (Nat.le_of_ble_eq_true rfl) ⟨Nat.zero_le _, Nat.zero_le _⟩ rfl dX9_starts_12 rfl (fun H locs hP hS => ?_)
  obtain rfl := Option.some.inj h
  exact KR _ _ _ _ hP hS dX9_starts_15
abbrev wd_X9_kinds (cy : Nat → ClassId) (a_v : Nat) (a_v_search : Nat) (a_v_search_draft : Nat) (a_v_search_draft_facts : Nat) (a_v_search_draft_places : Nat) (a_v_seen : Nat) (a_v_seen_hours : Nat) (a_v_seen_oclocks : Nat) (a_v_seen_rooms : Nat) (a_v_shop : Nat) (a_v_shop_facts : Nat) (a_v_shop_places : Nat) (a_v_tape : Nat) (a_v_reader : Nat) (a_v_images : Nat) (a_v_sheets : Nat) (a_v_odds : Nat) (a_v_search_least : Nat) (a_v_search_bestPlaces : Nat) (a_v_search_startsLeft : Nat) (v_lastFault : Int) (v_lastTorn : Int) (v_search_draft_boxes : Int) (v_search_draft_startsAt : Int) (v_search_draft_facts : Nat → Int) (v_search_draft_places : Nat → Int) (v_seen_used : Int) (v_seen_hours : Nat → Int) (v_seen_oclocks : Nat → Int) (v_seen_rooms : Nat → Int) (v_shop_boxes : Int) (v_shop_startsAt : Int) (v_shop_facts : Nat → Int) (v_shop_places : Nat → Int) : va_W := [(a_v, .inr (9, [.ref a_v_tape, .ref a_v_reader, .ref a_v_shop, .ref a_v_seen, .ref a_v_images, .ref a_v_sheets, .ref a_v_search, .ref a_v_odds, .int (zI v_lastFault), .int (zI v_lastTorn)])), (a_v_search, .inr (3, [.ref a_v_search_draft, .ref a_v_search_least, .ref a_v_search_bestPlaces, .ref a_v_search_startsLeft])), (a_v_search_draft, .inr (5, [.ref a_v_search_draft_facts, .ref a_v_search_draft_places, .int (zI v_search_draft_boxes), .int (zI v_search_draft_startsAt)])), (a_v_search_draft_facts, .inl (cy 0, 30, .inl (fun j => zI (v_search_draft_facts j)))), (a_v_search_draft_places, .inl (cy 0, 5, .inl (fun j => zI (v_search_draft_places j)))), (a_v_seen, .inr (6, [.ref a_v_seen_rooms, .ref a_v_seen_hours, .ref a_v_seen_oclocks, .int (zI v_seen_used)])), (a_v_seen_hours, .inl (cy 0, 6, .inl (fun j => zI (v_seen_hours j)))), (a_v_seen_oclocks, .inl (cy 0, 6, .inl (fun j => zI (v_seen_oclocks j)))), (a_v_seen_rooms, .inl (cy 0, 6, .inl (fun j => zI (v_seen_rooms j)))), (a_v_shop, .inr (5, [.ref a_v_shop_facts, .ref a_v_shop_places, .int (zI v_shop_boxes), .int (zI v_shop_startsAt)])), (a_v_shop_facts, .inl (cy 0, 30, .inl (fun j => zI (v_shop_facts j)))), (a_v_shop_places, .inl (cy 0, 5, .inl (fun j => zI (v_shop_places j))))]
set_option maxHeartbeats 4000000 in
set_option maxRecDepth 100000 in
theorem c_X9_kinds (l : Launch) (D : va_G) (cy : Nat → ClassId) (sa : Nat → Nat) (a_v : Nat) (a_v_search : Nat) (a_v_search_draft : Nat) (a_v_search_draft_facts : Nat) (a_v_search_draft_places : Nat) (a_v_seen : Nat) (a_v_seen_hours : Nat) (a_v_seen_oclocks : Nat) (a_v_seen_rooms : Nat) (a_v_shop : Nat) (a_v_shop_facts : Nat) (a_v_shop_places : Nat) (a_v_tape : Nat) (a_v_reader : Nat) (a_v_images : Nat) (a_v_sheets : Nat) (a_v_odds : Nat) (a_v_search_least : Nat) (a_v_search_bestPlaces : Nat) (a_v_search_startsLeft : Nat) (v_lastFault : Int) (v_lastTorn : Int) (v_search_draft_boxes : Int) (v_search_draft_startsAt : Int) (v_search_draft_facts : Nat → Int) (v_search_draft_places : Nat → Int) (v_seen_used : Int) (v_seen_hours : Nat → Int) (v_seen_oclocks : Nat → Int) (v_seen_rooms : Nat → Int) (v_shop_boxes : Int) (v_shop_startsAt : Int) (v_shop_facts : Nat → Int) (v_shop_places : Nat → Int) (x1 : Int) (o : Int × Int × Int × (Nat → Int) × (Nat → Int)) (h : f_HH_kinds v_search_draft_boxes v_search_draft_startsAt v_search_draft_facts v_search_draft_places v_seen_used v_seen_hours v_seen_oclocks v_seen_rooms v_shop_boxes v_shop_startsAt v_shop_facts v_shop_places x1 = some o) : CtI l yX9_kinds wsX9_kinds ({ frames := 6, cells := 0, slots := 0, locals := 139 }) D cy sa [.ref a_v, .int (zI x1)] (wd_X9_kinds cy a_v a_v_search a_v_search_draft a_v_search_draft_facts a_v_search_draft_places a_v_seen a_v_seen_hours a_v_seen_oclocks a_v_seen_rooms a_v_shop a_v_shop_facts a_v_shop_places a_v_tape a_v_reader a_v_images a_v_sheets a_v_odds a_v_search_least a_v_search_bestPlaces a_v_search_startsLeft v_lastFault v_lastTorn v_search_draft_boxes v_search_draft_startsAt v_search_draft_facts v_search_draft_places v_seen_used v_seen_hours v_seen_oclocks v_seen_rooms v_shop_boxes v_shop_startsAt v_shop_facts v_shop_places) (wd_X9_kinds cy a_v a_v_search a_v_search_draft a_v_search_draft_facts a_v_search_draft_places a_v_seen a_v_seen_hours a_v_seen_oclocks a_v_seen_rooms a_v_shop a_v_shop_facts a_v_shop_places a_v_tape a_v_reader a_v_images a_v_sheets a_v_odds a_v_search_least a_v_search_bestPlaces a_v_search_startsLeft v_lastFault v_lastTorn o.2.1 o.2.2.1 o.2.2.2.1 o.2.2.2.2 v_seen_used v_seen_hours v_seen_oclocks v_seen_rooms v_shop_boxes v_shop_startsAt v_shop_facts v_shop_places) o.1 := by
  refine ct_I (cc := cX9_kinds) (maxL := 2) (plainFor_of_name (by decide)) rfl (Nat.le_of_ble_eq_true rfl) ?_
  intro p e s m below meth c A args QQ hx hb hml hown hts hE hDD hP KR ls hl
  have hl : lv_has ls 2 [(0, .ref a_v), (1, .int (zI x1))] := hl
  have hDD : DD A [a_v, a_v_search, a_v_search_draft, a_v_search_draft_facts, a_v_search_draft_places, a_v_seen, a_v_seen_hours, a_v_seen_oclocks, a_v_seen_rooms, a_v_shop, a_v_shop_facts, a_v_shop_places] := hDD
  have hS : va_S A s.heap s.heap [] := va_S.rf
  have q0 := hts (.fieldLink RX9 28 "HatHours" "shop" "LHatHours$Shop;") (List.mem_of_getElem? (i := 1) rfl)
  have q1 := hts (.fieldLink RX9 56 "HatHours" "search" "LHatHours$Search;") (List.mem_of_getElem? (i := 2) rfl)
  have q2 := hts (.fieldLink RX9 35 "HatHours" "seen" "LHatHours$Sightings;") (List.mem_of_getElem? (i := 3) rfl)
  have iX9 : ∀ w ∈ u_ws RX9 TX9 10, w ∈ wsX9_kinds := in_slice 82 10 rfl
  refine lv_aload_n hx hb dX9_kinds_0 rfl (lv_at hl 0 rfl) ?_
  refine wi_get (v := .ref a_v_shop) hx hb hts iX9 hown hE hP 0 rfl rfl 2 (by decide) q0 rfl dX9_kinds_1 ?_
  refine lv_iload_n hx hb dX9_kinds_4 rfl (lv_at hl 1 rfl) ?_
  obtain ⟨o1, hc2, h⟩ := bnd_some h
  refine cV_i (rest := []) (w2 := (wd_X9_kinds cy a_v a_v_search a_v_search_draft a_v_search_draft_facts a_v_search_draft_places a_v_seen a_v_seen_hours a_v_seen_oclocks a_v_seen_rooms a_v_shop a_v_shop_facts a_v_shop_places a_v_tape a_v_reader a_v_images a_v_sheets a_v_odds a_v_search_least a_v_search_bestPlaces a_v_search_startsLeft v_lastFault v_lastTorn v_search_draft_boxes v_search_draft_startsAt v_search_draft_facts v_search_draft_places v_seen_used v_seen_hours v_seen_oclocks v_seen_rooms v_shop_boxes v_shop_startsAt v_shop_facts v_shop_places)) ⟨hx, hb, hml, hown, hts⟩ (c_X5_has l D cy sa a_v_shop a_v_shop_facts a_v_shop_places v_shop_boxes v_shop_startsAt x1 o1 hc2) (cwV 1 hts gX9_kinds_X5_has rfl rfl rfl (by decide +kernel) ⟨Nat.le_of_ble_eq_true rfl, Nat.le_of_ble_eq_true rfl⟩) rfl rfl rfl hE hP hDD rfl hS [9] rfl rfl rfl rfl hl.1 (Nat.le_of_ble_eq_true rfl) ⟨Nat.zero_le _, Nat.zero_le _⟩ rfl dX9_kinds_5 rfl (fun H locs hP hS => ?_)
  obtain ⟨hr3, h⟩ := chk_some h
  refine wi_if_eq (tgt := 31) hx hb dX9_kinds_8 (by decide) hr3 (fun c5 => ?_) (fun c5 => ?_)
  · have h := ite_t c5 h
    refine wi_ic hx hb dX9_kinds_31 ?_
    obtain rfl := Option.some.inj h
    exact KR _ _ _ _ hP hS dX9_kinds_32
  · have h := ite_f c5 h
    refine lv_aload_n hx hb dX9_kinds_11 rfl (lv_at hl 0 rfl) ?_
    refine wi_get (v := .ref a_v_search) hx hb hts iX9 hown hE hP 0 rfl rfl 6 (by decide) q1 rfl dX9_kinds_12 ?_
    refine lv_aload_n hx hb dX9_kinds_15 rfl (lv_at hl 0 rfl) ?_
    refine wi_get (v := .ref a_v_shop) hx hb hts iX9 hown hE hP 0 rfl rfl 2 (by decide) q0 rfl dX9_kinds_16 ?_
    refine lv_aload_n hx hb dX9_kinds_19 rfl (lv_at hl 0 rfl) ?_
    refine wi_get (v := .ref a_v_seen) hx hb hts iX9 hown hE hP 0 rfl rfl 3 (by decide) q2 rfl dX9_kinds_20 ?_
    refine lv_iload_n hx hb dX9_kinds_23 rfl (lv_at hl 1 rfl) ?_
    refine wi_ic hx hb dX9_kinds_24 ?_
    obtain ⟨o6, hc7, h⟩ := bnd_some h
    refine cV_i (rest := []) (w2 := (wd_X9_kinds cy a_v a_v_search a_v_search_draft a_v_search_draft_facts a_v_search_draft_places a_v_seen a_v_seen_hours a_v_seen_oclocks a_v_seen_rooms a_v_shop a_v_shop_facts a_v_shop_places a_v_tape a_v_reader a_v_images a_v_sheets a_v_odds a_v_search_least a_v_search_bestPlaces a_v_search_startsLeft v_lastFault v_lastTorn o6.2.1 o6.2.2.1 o6.2.2.2.1 o6.2.2.2.2 v_seen_used v_seen_hours v_seen_oclocks v_seen_rooms v_shop_boxes v_shop_startsAt v_shop_facts v_shop_places)) ⟨hx, hb, hml, hown, hts⟩ (c_X3_factsAsSeen l D cy sa a_v_search a_v_search_draft a_v_search_draft_facts a_v_search_draft_places a_v_shop a_v_shop_facts a_v_shop_places a_v_seen a_v_seen_hours a_v_seen_oclocks a_v_seen_rooms a_v_search_least a_v_search_bestPlaces a_v_search_startsLeft v_search_draft_boxes v_search_draft_startsAt v_search_draft_facts v_search_draft_places v_shop_boxes v_shop_startsAt v_shop_facts v_shop_places v_seen_used v_seen_hours v_seen_oclocks v_seen_rooms x1 0 o6 hc7) (cwV 4 hts gX9_kinds_X3_factsAsSeen rfl rfl rfl (by decide +kernel) ⟨Nat.le_of_ble_eq_true rfl, Nat.le_of_ble_eq_true rfl⟩) rfl rfl rfl hE hP hDD rfl hS [1, 2, 3, 4, 9, 10, 11, 5, 6, 7, 8] rfl rfl rfl rfl hl.1 (Nat.le_of_ble_eq_true rfl) ⟨Nat.zero_le _, Nat.zero_le _⟩ rfl dX9_kinds_25 rfl (fun H locs hP hS => ?_)
    refine lv_goto (tgt := 32) hx hb dX9_kinds_28 (by decide) ?_
    obtain rfl := Option.some.inj h
    exact KR _ _ _ _ hP hS dX9_kinds_32
