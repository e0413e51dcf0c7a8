abbrev wd_X9_change (cy : Nat → ClassId) (a_v : Nat) (a_v_shop : Nat) (a_v_shop_places : Nat) (a_v_tape : Nat) (a_v_reader : Nat) (a_v_seen : Nat) (a_v_images : Nat) (a_v_sheets : Nat) (a_v_search : Nat) (a_v_odds : Nat) (a_v_shop_facts : Nat) (v_lastFault : Int) (v_lastTorn : Int) (v_shop_boxes : Int) (v_shop_startsAt : Int) (v_shop_places : Nat → Int) : va_W := [(a_v, .inr (9, [.ref a_v_tape, .ref a_v_reader, .ref a_v_shop, .ref a_v_seen, .ref a_v_images, .ref a_v_sheets, .ref a_v_search, .ref a_v_odds, .int (zI v_lastFault), .int (zI v_lastTorn)])), (a_v_shop, .inr (5, [.ref a_v_shop_facts, .ref a_v_shop_places, .int (zI v_shop_boxes), .int (zI v_shop_startsAt)])), (a_v_shop_places, .inl (cy 0, 5, .inl (fun j => zI (v_shop_places j))))]
set_option maxHeartbeats 4000000 in
set_option maxRecDepth 100000 in
theorem c_X9_change (l : Launch) (D : va_G) (cy : Nat → ClassId) (sa : Nat → Nat) (a_v : Nat) (a_v_shop : Nat) (a_v_shop_places : Nat) (a_v_tape : Nat) (a_v_reader : Nat) (a_v_seen : Nat) (a_v_images : Nat) (a_v_sheets : Nat) (a_v_search : Nat) (a_v_odds : Nat) (a_v_shop_facts : Nat) (v_lastFault : Int) (v_lastTorn : Int) (v_shop_boxes : Int) (v_shop_startsAt : Int) (v_shop_places : Nat → Int) (x1 : Int) (x2 : Int) (o : Int × (Nat → Int)) (h : f_HH_change v_shop_boxes v_shop_places x1 x2 = some o) : CtI l yX9_change wsX9_change ({ frames := 2, cells := 0, slots := 0, locals := 44 }) D cy sa [.ref a_v, .int (zI x1), .int (zI x2)] (wd_X9_change cy a_v a_v_shop a_v_shop_places a_v_tape a_v_reader a_v_seen a_v_images a_v_sheets a_v_search a_v_odds a_v_shop_facts v_lastFault v_lastTorn v_shop_boxes v_shop_startsAt v_shop_places) (wd_X9_change cy a_v a_v_shop a_v_shop_places a_v_tape a_v_reader a_v_seen a_v_images a_v_sheets a_v_search a_v_odds a_v_shop_facts v_lastFault v_lastTorn v_shop_boxes v_shop_startsAt o.2) o.1 := by
  refine ct_I (cc := cX9_change) (maxL := 4) (plainFor_of_name (by decide)) rfl (Nat.le_of_ble_eq_true rfl) ?_
  intro p e s m below meth c A args QQ hx hb hml hown hts hE hDD hP KR ls hl
  have hl : lv_has ls 4 [(0, .ref a_v), (1, .int (zI x1)), (2, .int (zI x2))] := hl
  have hDD : DD A [a_v, a_v_shop, a_v_shop_places] := hDD
  have hS : va_S A s.heap s.heap [] := va_S.rf
  have q0 := hts (.fieldLink RX9 28 "HatHours" "shop" "LHatHours$Shop;") (List.mem_of_getElem? (i := 1) rfl)
  have iX9 : ∀ w ∈ u_ws RX9 TX9 10, w ∈ wsX9_change := in_slice 18 10 rfl
  refine lv_aload_n hx hb dX9_change_0 rfl (lv_at hl 0 rfl) ?_
  refine wi_get (v := .ref a_v_shop) hx hb hts iX9 hown hE hP 0 rfl rfl 2 (by decide) q0 rfl dX9_change_1 ?_
  refine lv_iload_n hx hb dX9_change_4 rfl (lv_at hl 1 rfl) ?_
  obtain ⟨o1, hc2, h⟩ := bnd_some h
  refine cV_i (rest := []) (w2 := (wd_X9_change cy a_v a_v_shop a_v_shop_places a_v_tape a_v_reader a_v_seen a_v_images a_v_sheets a_v_search a_v_odds a_v_shop_facts v_lastFault v_lastTorn v_shop_boxes v_shop_startsAt v_shop_places)) ⟨hx, hb, hml, hown, hts⟩ (c_X5_has l D cy sa a_v_shop a_v_shop_facts a_v_shop_places v_shop_boxes v_shop_startsAt x1 o1 hc2) (cwV 1 hts gX9_change_X5_has rfl rfl rfl (by decide +kernel) ⟨Nat.le_of_ble_eq_true rfl, Nat.le_of_ble_eq_true rfl⟩) rfl rfl rfl hE hP hDD rfl hS [1] rfl rfl rfl rfl hl.1 (Nat.le_of_ble_eq_true rfl) ⟨Nat.zero_le _, Nat.zero_le _⟩ rfl dX9_change_5 rfl (fun H locs hP hS => ?_)
  obtain ⟨hr3, h⟩ := chk_some h
  refine wi_if_eq (tgt := 27) hx hb dX9_change_8 (by decide) hr3 (fun c5 => ?_) (fun c5 => ?_)
  · have h := ite_t c5 h
    refine wi_ic hx hb dX9_change_27 ?_
    obtain rfl := Option.some.inj h
    exact KR _ _ _ _ hP hS dX9_change_28
  · have h := ite_f c5 h
    refine lv_aload_n hx hb dX9_change_11 rfl (lv_at hl 0 rfl) ?_
    refine wi_get (v := .ref a_v_shop) hx hb hts iX9 hown hE hP 0 rfl rfl 2 (by decide) q0 rfl dX9_change_12 ?_
    refine lv_iload_n hx hb dX9_change_15 rfl (lv_at hl 2 rfl) ?_
    obtain ⟨o6, hc7, h⟩ := bnd_some h
    refine cV_i (rest := []) (w2 := (wd_X9_change cy a_v a_v_shop a_v_shop_places a_v_tape a_v_reader a_v_seen a_v_images a_v_sheets a_v_search a_v_odds a_v_shop_facts v_lastFault v_lastTorn v_shop_boxes v_shop_startsAt v_shop_places)) ⟨hx, hb, hml, hown, hts⟩ (c_X5_has l D cy sa a_v_shop a_v_shop_facts a_v_shop_places v_shop_boxes v_shop_startsAt x2 o6 hc7) (cwV 1 hts gX9_change_X5_has rfl rfl rfl (by decide +kernel) ⟨Nat.le_of_ble_eq_true rfl, Nat.le_of_ble_eq_true rfl⟩) rfl rfl rfl hE hP hDD rfl hS [1] rfl rfl rfl rfl hl.1 (Nat.le_of_ble_eq_true rfl) ⟨Nat.zero_le _, Nat.zero_le _⟩ rfl dX9_change_16 rfl (fun H locs hP hS => ?_)
    obtain ⟨hr8, h⟩ := chk_some h
    refine wi_if_eq (tgt := 27) hx hb dX9_change_19 (by decide) hr8 (fun c10 => ?_) (fun c10 => ?_)
    · have h := ite_t c10 h
      refine wi_ic hx hb dX9_change_27 ?_
      obtain rfl := Option.some.inj h
      exact KR _ _ _ _ hP hS dX9_change_28
    · have h := ite_f c10 h
      refine lv_iload_n hx hb dX9_change_22 rfl (lv_at hl 1 rfl) ?_
      refine lv_iload_n hx hb dX9_change_23 rfl (lv_at hl 2 rfl) ?_
      obtain ⟨hr11, h⟩ := chk_some h
      obtain ⟨hr12, h⟩ := chk_some h
      refine wi_ic_ne (tgt := 29) hx hb dX9_change_24 (by decide) hr11 hr12 (fun c14 => ?_) (fun c14 => ?_)
      · have h := ite_f c14 h
        refine lv_aload_n hx hb dX9_change_29 rfl (lv_at hl 0 rfl) ?_
        refine wi_get (v := .ref a_v_shop) hx hb hts iX9 hown hE hP 0 rfl rfl 2 (by decide) q0 rfl dX9_change_30 ?_
        refine lv_iload_n hx hb dX9_change_33 rfl (lv_at hl 1 rfl) ?_
        obtain ⟨o15, hc16, h⟩ := bnd_some h
        refine cV_i (rest := []) (w2 := (wd_X9_change cy a_v a_v_shop a_v_shop_places a_v_tape a_v_reader a_v_seen a_v_images a_v_sheets a_v_search a_v_odds a_v_shop_facts v_lastFault v_lastTorn v_shop_boxes v_shop_startsAt v_shop_places)) ⟨hx, hb, hml, hown, hts⟩ (c_X5_boxIn l D cy sa a_v_shop a_v_shop_places a_v_shop_facts v_shop_boxes v_shop_startsAt v_shop_places x1 o15 hc16) (cwV 1 hts gX9_change_X5_boxIn rfl rfl rfl (by decide +kernel) ⟨Nat.le_of_ble_eq_true rfl, Nat.le_of_ble_eq_true rfl⟩) rfl rfl rfl hE hP hDD rfl hS [1, 2] rfl rfl rfl rfl hl.1 (Nat.le_of_ble_eq_true rfl) ⟨Nat.zero_le _, Nat.zero_le _⟩ rfl dX9_change_34 rfl (fun H locs hP hS => ?_)
        refine lv_istore_n (lv' := [(3, .int (zI o15)), (0, .ref a_v), (1, .int (zI x1)), (2, .int (zI x2))]) hx hb dX9_change_37 rfl hl (by decide) rfl (fun ls hl => ?_)
        refine lv_aload_n hx hb dX9_change_38 rfl (lv_at hl 1 rfl) ?_
        refine wi_get (v := .ref a_v_shop) hx hb hts iX9 hown hE hP 0 rfl rfl 2 (by decide) q0 rfl dX9_change_39 ?_
        refine lv_iload_n hx hb dX9_change_42 rfl (lv_at hl 2 rfl) ?_
        refine lv_iload_n hx hb dX9_change_43 rfl (lv_at hl 3 rfl) ?_
        obtain ⟨o17, hc18, h⟩ := bnd_some h
        refine cV_v (rest := []) (w2 := (wd_X9_change cy a_v a_v_shop a_v_shop_places a_v_tape a_v_reader a_v_seen a_v_images a_v_sheets a_v_search a_v_odds a_v_shop_facts v_lastFault v_lastTorn v_shop_boxes v_shop_startsAt o17)) ⟨hx, hb, hml, hown, hts⟩ (c_X5_exchange l D cy sa a_v_shop a_v_shop_places a_v_shop_facts v_shop_boxes v_shop_startsAt v_shop_places x1 x2 o17 hc18) (cwV 2 hts gX9_change_X5_exchange rfl rfl rfl (by decide +kernel) ⟨Nat.le_of_ble_eq_true rfl, Nat.le_of_ble_eq_true rfl⟩) rfl rfl rfl hE hP hDD rfl hS [1, 2] rfl rfl rfl rfl hl.1 (Nat.le_of_ble_eq_true rfl) ⟨Nat.zero_le _, Nat.zero_le _⟩ rfl dX9_change_44 rfl (fun H locs hP hS => ?_)
        refine lv_iload_n hx hb dX9_change_47 rfl (lv_at hl 0 rfl) ?_
        obtain rfl := Option.some.inj h
        exact KR _ _ _ _ hP hS dX9_change_48
      · have h := ite_t c14 h
        refine wi_ic hx hb dX9_change_27 ?_
        obtain rfl := Option.some.inj h
        exact KR _ _ _ _ hP hS dX9_change_28
abbrev wd_X9_sew (cy : Nat → ClassId) (a_v : Nat) (a_v_shop : Nat) (a_v_shop_facts : Nat) (a_v_shop_places : Nat) (a_v_tape : Nat) (a_v_reader : Nat) (a_v_seen : Nat) (a_v_images : Nat) (a_v_sheets : Nat) (a_v_search : Nat) (a_v_odds : Nat) (v_lastFault : Int) (v_lastTorn : Int) (v_shop_boxes : Int) (v_shop_startsAt : Int) (v_shop_facts : Nat → Int) (v_shop_places : Nat → Int) : va_W := [(a_v, .inr (9, [.ref a_v_tape, .ref a_v_reader, .ref a_v_shop, .ref a_v_seen, .ref a_v_images, .ref a_v_sheets, .ref a_v_search, .ref a_v_odds, .int (zI v_lastFault), .int (zI v_lastTorn)])), (a_v_shop, .inr (5, [.ref a_v_shop_facts, .ref a_v_shop_places, .int (zI v_shop_boxes), .int (zI v_shop_startsAt)])), (a_v_shop_facts, .inl (cy 0, 30, .inl (fun j => zI (v_shop_facts j)))), (a_v_shop_places, .inl (cy 0, 5, .inl (fun j => zI (v_shop_places j))))]
set_option maxHeartbeats 4000000 in
set_option maxRecDepth 100000 in
theorem c_X9_sew (l : Launch) (D : va_G) (cy : Nat → ClassId) (sa : Nat → Nat) (a_v : Nat) (a_v_shop : Nat) (a_v_shop_facts : Nat) (a_v_shop_places : Nat) (a_v_tape : Nat) (a_v_reader : Nat) (a_v_seen : Nat) (a_v_images : Nat) (a_v_sheets : Nat) (a_v_search : Nat) (a_v_odds : Nat) (v_lastFault : Int) (v_lastTorn : Int) (v_shop_boxes : Int) (v_shop_startsAt : Int) (v_shop_facts : Nat → Int) (v_shop_places : Nat → Int) (x1 : Int) (x2 : Int) (x3 : Int) (o : Int × Int × (Nat → Int) × (Nat → Int)) (h : f_HH_sew v_shop_boxes v_shop_facts v_shop_places x1 x2 x3 = some o) : CtI l yX9_sew wsX9_sew ({ frames := 4, cells := 0, slots := 0, locals := 86 }) D cy sa [.ref a_v, .int (zI x1), .int (zI x2), .int (zI x3)] (wd_X9_sew cy a_v a_v_shop a_v_shop_facts a_v_shop_places a_v_tape a_v_reader a_v_seen a_v_images a_v_sheets a_v_search a_v_odds v_lastFault v_lastTorn v_shop_boxes v_shop_startsAt v_shop_facts v_shop_places) (wd_X9_sew cy a_v a_v_shop a_v_shop_facts a_v_shop_places a_v_tape a_v_reader a_v_seen a_v_images a_v_sheets a_v_search a_v_odds v_lastFault v_lastTorn o.2.1 v_shop_startsAt o.2.2.1 o.2.2.2) o.1 := by
  refine ct_I (cc := cX9_sew) (maxL := 5) (plainFor_of_name (by decide)) rfl (Nat.le_of_ble_eq_true rfl) ?_
  intro p e s m below meth c A args QQ hx hb hml hown hts hE hDD hP KR ls hl
  have hl : lv_has ls 5 [(0, .ref a_v), (1, .int (zI x1)), (2, .int (zI x2)), (3, .int (zI x3))] := hl
  have hDD : DD A [a_v, a_v_shop, a_v_shop_facts, a_v_shop_places] := hDD
  have hS : va_S A s.heap s.heap [] := va_S.rf
  have q0 := hts (.fieldLink RX9 28 "HatHours" "shop" "LHatHours$Shop;") (List.mem_of_getElem? (i := 1) rfl)
  have iX9 : ∀ w ∈ u_ws RX9 TX9 10, w ∈ wsX9_sew := in_slice 37 10 rfl
  refine lv_aload_n hx hb dX9_sew_0 rfl (lv_at hl 0 rfl) ?_
  refine wi_get (v := .ref a_v_shop) hx hb hts iX9 hown hE hP 0 rfl rfl 2 (by decide) q0 rfl dX9_sew_1 ?_
  refine lv_iload_n hx hb dX9_sew_4 rfl (lv_at hl 1 rfl) ?_
  refine lv_iload_n hx hb dX9_sew_5 rfl (lv_at hl 2 rfl) ?_
  refine lv_iload_n hx hb dX9_sew_6 rfl (lv_at hl 3 rfl) ?_
  obtain ⟨o1, hc2, h⟩ := bnd_some h
  refine cV_i (rest := []) (w2 := (wd_X9_sew cy a_v a_v_shop a_v_shop_facts a_v_shop_places a_v_tape a_v_reader a_v_seen a_v_images a_v_sheets a_v_search a_v_odds v_lastFault v_lastTorn v_shop_boxes v_shop_startsAt v_shop_facts v_shop_places)) ⟨hx, hb, hml, hown, hts⟩ (c_X5_refusal l D cy sa a_v_shop a_v_shop_facts a_v_shop_places v_shop_boxes v_shop_startsAt x1 x2 x3 o1 hc2) (cwV 3 hts gX9_sew_X5_refusal rfl rfl rfl (by decide +kernel) ⟨Nat.le_of_ble_eq_true rfl, Nat.le_of_ble_eq_true rfl⟩) rfl rfl rfl hE hP hDD rfl hS [1] rfl rfl rfl rfl hl.1 (Nat.le_of_ble_eq_true rfl) ⟨Nat.zero_le _, Nat.zero_le _⟩ rfl dX9_sew_7 rfl (fun H locs hP hS => ?_)
  refine lv_istore (lv' := [(4, .int (zI o1)), (0, .ref a_v), (1, .int (zI x1)), (2, .int (zI x2)), (3, .int (zI x3))]) hx hb dX9_sew_10 hl (by decide) rfl (fun ls hl => ?_)
  refine lv_iload hx hb dX9_sew_12 (lv_at hl 0 rfl) ?_
  obtain ⟨hr3, h⟩ := chk_some h
  refine wi_if_eq (tgt := 20) hx hb dX9_sew_14 (by decide) hr3 (fun c5 => ?_) (fun c5 => ?_)
  · have h := ite_t c5 h
    refine lv_aload_n hx hb dX9_sew_20 rfl (lv_at hl 1 rfl) ?_
    refine wi_get (v := .ref a_v_shop) hx hb hts iX9 hown hE hP 0 rfl rfl 2 (by decide) q0 rfl dX9_sew_21 ?_
    refine lv_iload_n hx hb dX9_sew_24 rfl (lv_at hl 2 rfl) ?_
    refine lv_iload_n hx hb dX9_sew_25 rfl (lv_at hl 3 rfl) ?_
    refine lv_iload_n hx hb dX9_sew_26 rfl (lv_at hl 4 rfl) ?_
    obtain ⟨o6, hc7, h⟩ := bnd_some h
    refine cV_i (rest := []) (w2 := (wd_X9_sew cy a_v a_v_shop a_v_shop_facts a_v_shop_places a_v_tape a_v_reader a_v_seen a_v_images a_v_sheets a_v_search a_v_odds v_lastFault v_lastTorn o6.2.1 v_shop_startsAt o6.2.2.1 o6.2.2.2)) ⟨hx, hb, hml, hown, hts⟩ (c_X5_addPlain l D cy sa a_v_shop a_v_shop_facts a_v_shop_places v_shop_boxes v_shop_startsAt v_shop_facts v_shop_places x1 x2 x3 o6 hc7) (cwV 3 hts gX9_sew_X5_addPlain rfl rfl rfl (by decide +kernel) ⟨Nat.le_of_ble_eq_true rfl, Nat.le_of_ble_eq_true rfl⟩) rfl rfl rfl hE hP hDD rfl hS [1, 2, 3] rfl rfl rfl rfl hl.1 (Nat.le_of_ble_eq_true rfl) ⟨Nat.zero_le _, Nat.zero_le _⟩ rfl dX9_sew_27 rfl (fun H locs hP hS => ?_)
    refine lv_pop hx hb dX9_sew_30 rfl ?_
    refine lv_aload_n hx hb dX9_sew_31 rfl (lv_at hl 1 rfl) ?_
    refine wi_get (v := .ref a_v_shop) hx hb hts iX9 hown hE hP 0 rfl rfl 2 (by decide) q0 rfl dX9_sew_32 ?_
    obtain ⟨o8, hc9, h⟩ := bnd_some h
    refine cV_i (rest := []) (w2 := (wd_X9_sew cy a_v a_v_shop a_v_shop_facts a_v_shop_places a_v_tape a_v_reader a_v_seen a_v_images a_v_sheets a_v_search a_v_odds v_lastFault v_lastTorn o6.2.1 v_shop_startsAt o6.2.2.1 o6.2.2.2)) ⟨hx, hb, hml, hown, hts⟩ (c_X5_size l D cy sa a_v_shop a_v_shop_facts a_v_shop_places o6.2.1 v_shop_startsAt o8 hc9) (cwV 0 hts gX9_sew_X5_size rfl rfl rfl (by decide +kernel) ⟨Nat.le_of_ble_eq_true rfl, Nat.le_of_ble_eq_true rfl⟩) rfl rfl rfl hE hP hDD rfl hS [1] rfl rfl rfl rfl hl.1 (Nat.le_of_ble_eq_true rfl) ⟨Nat.zero_le _, Nat.zero_le _⟩ rfl dX9_sew_35 rfl (fun H locs hP hS => ?_)
    obtain rfl := Option.some.inj h
    exact KR _ _ _ _ hP hS dX9_sew_38
  · have h := ite_f c5 h
    refine lv_iload hx hb dX9_sew_17 (lv_at hl 0 rfl) ?_
    obtain rfl := Option.some.inj h
    exact KR _ _ _ _ hP hS dX9_sew_19
abbrev wd_X9_clock (cy : Nat → ClassId) (a_v : Nat) (a_v_shop : Nat) (a_v_shop_facts : Nat) (a_v_shop_places : Nat) (a_v_tape : Nat) (a_v_reader : Nat) (a_v_seen : Nat) (a_v_images : Nat) (a_v_sheets : Nat) (a_v_search : Nat) (a_v_odds : Nat) (v_lastFault : Int) (v_lastTorn : Int) (v_shop_boxes : Int) (v_shop_startsAt : Int) (v_shop_facts : Nat → Int) (v_shop_places : Nat → Int) : va_W := [(a_v, .inr (9, [.ref a_v_tape, .ref a_v_reader, .ref a_v_shop, .ref a_v_seen, .ref a_v_images, .ref a_v_sheets, .ref a_v_search, .ref a_v_odds, .int (zI v_lastFault), .int (zI v_lastTorn)])), (a_v_shop, .inr (5, [.ref a_v_shop_facts, .ref a_v_shop_places, .int (zI v_shop_boxes), .int (zI v_shop_startsAt)])), (a_v_shop_facts, .inl (cy 0, 30, .inl (fun j => zI (v_shop_facts j)))), (a_v_shop_places, .inl (cy 0, 5, .inl (fun j => zI (v_shop_places j))))]
set_option maxHeartbeats 4000000 in
set_option maxRecDepth 100000 in
theorem c_X9_clock (l : Launch) (D : va_G) (cy : Nat → ClassId) (sa : Nat → Nat) (a_v : Nat) (a_v_shop : Nat) (a_v_shop_facts : Nat) (a_v_shop_places : Nat) (a_v_tape : Nat) (a_v_reader : Nat) (a_v_seen : Nat) (a_v_images : Nat) (a_v_sheets : Nat) (a_v_search : Nat) (a_v_odds : Nat) (v_lastFault : Int) (v_lastTorn : Int) (v_shop_boxes : Int) (v_shop_startsAt : Int) (v_shop_facts : Nat → Int) (v_shop_places : Nat → Int) (x1 : Int) (x2 : Int) (x3 : Int) (o : Int) (h : f_HH_clock v_shop_boxes v_shop_startsAt v_shop_facts v_shop_places x1 x2 x3 = some o) : CtI l yX9_clock wsX9_clock ({ frames := 4, cells := 0, slots := 0, locals := 91 }) D cy sa [.ref a_v, .int (zI x1), .int (zI x2), .int (zI x3)] (wd_X9_clock cy a_v a_v_shop a_v_shop_facts a_v_shop_places a_v_tape a_v_reader a_v_seen a_v_images a_v_sheets a_v_search a_v_odds v_lastFault v_lastTorn v_shop_boxes v_shop_startsAt v_shop_facts v_shop_places) (wd_X9_clock cy a_v a_v_shop a_v_shop_facts a_v_shop_places a_v_tape a_v_reader a_v_seen a_v_images a_v_sheets a_v_search a_v_odds v_lastFault v_lastTorn v_shop_boxes v_shop_startsAt v_shop_facts v_shop_places) o := by
  refine ct_I (cc := cX9_clock) (maxL := 4) (plainFor_of_name (by decide)) rfl (Nat.le_of_ble_eq_true rfl) ?_
  intro p e s m below meth c A args QQ hx hb hml hown hts hE hDD hP KR ls hl
  have hl : lv_has ls 4 [(0, .ref a_v), (1, .int (zI x1)), (2, .int (zI x2)), (3, .int (zI x3))] := hl
  have hDD : DD A [a_v, a_v_shop, a_v_shop_facts, a_v_shop_places] := hDD
  have hS : va_S A s.heap s.heap [] := va_S.rf
  have q0 := hts (.fieldLink RX9 28 "HatHours" "shop" "LHatHours$Shop;") (List.mem_of_getElem? (i := 1) rfl)
  have iX9 : ∀ w ∈ u_ws RX9 TX9 10, w ∈ wsX9_clock := in_slice 49 10 rfl
  refine lv_iload_n hx hb dX9_clock_0 rfl (lv_at hl 1 rfl) ?_
  obtain ⟨o1, hc2, h⟩ := bnd_some h
  refine cS_i (rest := []) (w2 := (wd_X9_clock cy a_v a_v_shop a_v_shop_facts a_v_shop_places a_v_tape a_v_reader a_v_seen a_v_images a_v_sheets a_v_search a_v_odds v_lastFault v_lastTorn v_shop_boxes v_shop_startsAt v_shop_facts v_shop_places)) ⟨hx, hb, hml, hown, hts⟩ (c_X9_isRoom l D cy sa x1 o1 hc2) (va_cwS 1 hts gX9_clock_X9_isRoom rfl rfl rfl (by decide +kernel) ⟨Nat.le_of_ble_eq_true rfl, Nat.le_of_ble_eq_true rfl⟩) hE hP hDD rfl hS [] rfl rfl rfl rfl hl.1 (Nat.le_of_ble_eq_true rfl) ⟨Nat.zero_le _, Nat.zero_le _⟩ rfl dX9_clock_1 rfl (fun H locs hP hS => ?_)
  obtain ⟨hr3, h⟩ := chk_some h
  refine wi_if_eq (tgt := 21) hx hb dX9_clock_4 (by decide) hr3 (fun c5 => ?_) (fun c5 => ?_)
  · have h := ite_t c5 h
    refine wi_ic hx hb dX9_clock_21 ?_
    obtain rfl := Option.some.inj h
    exact KR _ _ _ _ hP hS dX9_clock_22
  · have h := ite_f c5 h
    refine lv_iload_n hx hb dX9_clock_7 rfl (lv_at hl 2 rfl) ?_
    obtain ⟨o6, hc7, h⟩ := bnd_some h
    refine cS_i (rest := []) (w2 := (wd_X9_clock cy a_v a_v_shop a_v_shop_facts a_v_shop_places a_v_tape a_v_reader a_v_seen a_v_images a_v_sheets a_v_search a_v_odds v_lastFault v_lastTorn v_shop_boxes v_shop_startsAt v_shop_facts v_shop_places)) ⟨hx, hb, hml, hown, hts⟩ (c_X9_isHour l D cy sa x2 o6 hc7) (va_cwS 1 hts gX9_clock_X9_isHour rfl rfl rfl (by decide +kernel) ⟨Nat.le_of_ble_eq_true rfl, Nat.le_of_ble_eq_true rfl⟩) hE hP hDD rfl hS [] rfl rfl rfl rfl hl.1 (Nat.le_of_ble_eq_true rfl) ⟨Nat.zero_le _, Nat.zero_le _⟩ rfl dX9_clock_8 rfl (fun H locs hP hS => ?_)
    obtain ⟨hr8, h⟩ := chk_some h
    refine wi_if_eq (tgt := 21) hx hb dX9_clock_11 (by decide) hr8 (fun c10 => ?_) (fun c10 => ?_)
    · have h := ite_t c10 h
      refine wi_ic hx hb dX9_clock_21 ?_
      obtain rfl := Option.some.inj h
      exact KR _ _ _ _ hP hS dX9_clock_22
    · have h := ite_f c10 h
      refine lv_iload_n hx hb dX9_clock_14 rfl (lv_at hl 3 rfl) ?_
      obtain ⟨o11, hc12, h⟩ := bnd_some h
      refine cS_i (rest := []) (w2 := (wd_X9_clock cy a_v a_v_shop a_v_shop_facts a_v_shop_places a_v_tape a_v_reader a_v_seen a_v_images a_v_sheets a_v_search a_v_odds v_lastFault v_lastTorn v_shop_boxes v_shop_startsAt v_shop_facts v_shop_places)) ⟨hx, hb, hml, hown, hts⟩ (c_X9_isEither l D cy sa x3 o11 hc12) (va_cwS 1 hts gX9_clock_X9_isEither rfl rfl rfl (by decide +kernel) ⟨Nat.le_of_ble_eq_true rfl, Nat.le_of_ble_eq_true rfl⟩) hE hP hDD rfl hS [] rfl rfl rfl rfl hl.1 (Nat.le_of_ble_eq_true rfl) ⟨Nat.zero_le _, Nat.zero_le _⟩ rfl dX9_clock_15 rfl (fun H locs hP hS => ?_)
      obtain ⟨hr13, h⟩ := chk_some h
      refine wi_if_ne (tgt := 23) hx hb dX9_clock_18 (by decide) hr13 (fun c15 => ?_) (fun c15 => ?_)
      · have h := ite_f c15 h
        refine lv_iload_n hx hb dX9_clock_23 rfl (lv_at hl 3 rfl) ?_
        obtain ⟨hr16, h⟩ := chk_some h
        refine wi_if_ne (tgt := 39) hx hb dX9_clock_24 (by decide) hr16 (fun c18 => ?_) (fun c18 => ?_)
        · have h := ite_f c18 h
          refine lv_aload_n hx hb dX9_clock_39 rfl (lv_at hl 0 rfl) ?_
          refine wi_get (v := .ref a_v_shop) hx hb hts iX9 hown hE hP 0 rfl rfl 2 (by decide) q0 rfl dX9_clock_40 ?_
          refine lv_iload_n hx hb dX9_clock_43 rfl (lv_at hl 1 rfl) ?_
          refine lv_iload_n hx hb dX9_clock_44 rfl (lv_at hl 2 rfl) ?_
          obtain ⟨o19, hc20, h⟩ := bnd_some h
          refine cV_i (rest := []) (w2 := (wd_X9_clock cy a_v a_v_shop a_v_shop_facts a_v_shop_places a_v_tape a_v_reader a_v_seen a_v_images a_v_sheets a_v_search a_v_odds v_lastFault v_lastTorn v_shop_boxes v_shop_startsAt v_shop_facts v_shop_places)) ⟨hx, hb, hml, hown, hts⟩ (c_X5_boxAt l D cy sa a_v_shop a_v_shop_facts a_v_shop_places v_shop_boxes v_shop_startsAt v_shop_facts x1 x2 o19 hc20) (cwV 2 hts gX9_clock_X5_boxAt rfl rfl rfl (by decide +kernel) ⟨Nat.le_of_ble_eq_true rfl, Nat.le_of_ble_eq_true rfl⟩) rfl rfl rfl hE hP hDD rfl hS [1, 2] rfl rfl rfl rfl hl.1 (Nat.le_of_ble_eq_true rfl) ⟨Nat.zero_le _, Nat.zero_le _⟩ rfl dX9_clock_45 rfl (fun H locs hP hS => ?_)
          obtain rfl := Option.some.inj h
          exact KR _ _ _ _ hP hS dX9_clock_48
        · have h := ite_t c18 h
          refine lv_aload_n hx hb dX9_clock_27 rfl (lv_at hl 0 rfl) ?_
          refine wi_get (v := .ref a_v_shop) hx hb hts iX9 hown hE hP 0 rfl rfl 2 (by decide) q0 rfl dX9_clock_28 ?_
          refine lv_iload_n hx hb dX9_clock_31 rfl (lv_at hl 1 rfl) ?_
          refine lv_iload_n hx hb dX9_clock_32 rfl (lv_at hl 2 rfl) ?_
          obtain ⟨o21, hc22, h⟩ := bnd_some h
          refine cV_i (rest := []) (w2 := (wd_X9_clock cy a_v a_v_shop a_v_shop_facts a_v_shop_places a_v_tape a_v_reader a_v_seen a_v_images a_v_sheets a_v_search a_v_odds v_lastFault v_lastTorn v_shop_boxes v_shop_startsAt v_shop_facts v_shop_places)) ⟨hx, hb, hml, hown, hts⟩ (c_X5_oclock l D cy sa a_v_shop a_v_shop_facts a_v_shop_places v_shop_boxes v_shop_startsAt v_shop_facts v_shop_places x1 x2 o21 hc22) (cwV 2 hts gX9_clock_X5_oclock rfl rfl rfl (by decide +kernel) ⟨Nat.le_of_ble_eq_true rfl, Nat.le_of_ble_eq_true rfl⟩) rfl rfl rfl hE hP hDD rfl hS [1, 2, 3] rfl rfl rfl rfl hl.1 (Nat.le_of_ble_eq_true rfl) ⟨Nat.zero_le _, Nat.zero_le _⟩ rfl dX9_clock_33 rfl (fun H locs hP hS => ?_)
          refine lv_goto (tgt := 48) hx hb dX9_clock_36 (by decide) ?_
          obtain rfl := Option.some.inj h
          exact KR _ _ _ _ hP hS dX9_clock_48
      · have h := ite_t c15 h
        refine wi_ic hx hb dX9_clock_21 ?_
        obtain rfl := Option.some.inj h
        exact KR _ _ _ _ hP hS dX9_clock_22
abbrev wd_X9_room (cy : Nat → ClassId) (a_v : Nat) (a_v_shop : Nat) (a_v_shop_facts : Nat) (a_v_shop_places : Nat) (a_v_tape : Nat) (a_v_reader : Nat) (a_v_seen : Nat) (a_v_images : Nat) (a_v_sheets : Nat) (a_v_search : Nat) (a_v_odds : Nat) (v_lastFault : Int) (v_lastTorn : Int) (v_shop_boxes : Int) (v_shop_startsAt : Int) (v_shop_facts : Nat → Int) (v_shop_places : Nat → Int) : va_W := [(a_v, .inr (9, [.ref a_v_tape, .ref a_v_reader, .ref a_v_shop, .ref a_v_seen, .ref a_v_images, .ref a_v_sheets, .ref a_v_search, .ref a_v_odds, .int (zI v_lastFault), .int (zI v_lastTorn)])), (a_v_shop, .inr (5, [.ref a_v_shop_facts, .ref a_v_shop_places, .int (zI v_shop_boxes), .int (zI v_shop_startsAt)])), (a_v_shop_facts, .inl (cy 0, 30, .inl (fun j => zI (v_shop_facts j)))), (a_v_shop_places, .inl (cy 0, 5, .inl (fun j => zI (v_shop_places j))))]
set_option maxHeartbeats 4000000 in
set_option maxRecDepth 100000 in
theorem c_X9_room (l : Launch) (D : va_G) (cy : Nat → ClassId) (sa : Nat → Nat) (a_v : Nat) (a_v_shop : Nat) (a_v_shop_facts : Nat) (a_v_shop_places : Nat) (a_v_tape : Nat) (a_v_reader : Nat) (a_v_seen : Nat) (a_v_images : Nat) (a_v_sheets : Nat) (a_v_search : Nat) (a_v_odds : Nat) (v_lastFault : Int) (v_lastTorn : Int) (v_shop_boxes : Int) (v_shop_startsAt : Int) (v_shop_facts : Nat → Int) (v_shop_places : Nat → Int) (x1 : Int) (x2 : Int) (o : Int) (h : f_HH_room v_shop_boxes v_shop_startsAt v_shop_facts v_shop_places x1 x2 = some o) : CtI l yX9_room wsX9_room ({ frames := 5, cells := 0, slots := 0, locals := 114 }) D cy sa [.ref a_v, .int (zI x1), .int (zI x2)] (wd_X9_room cy a_v a_v_shop a_v_shop_facts a_v_shop_places a_v_tape a_v_reader a_v_seen a_v_images a_v_sheets a_v_search a_v_odds v_lastFault v_lastTorn v_shop_boxes v_shop_startsAt v_shop_facts v_shop_places) (wd_X9_room cy a_v a_v_shop a_v_shop_facts a_v_shop_places a_v_tape a_v_reader a_v_seen a_v_images a_v_sheets a_v_search a_v_odds v_lastFault v_lastTorn v_shop_boxes v_shop_startsAt v_shop_facts v_shop_places) o := by
  refine ct_I (cc := cX9_room) (maxL := 3) (plainFor_of_name (by decide)) rfl (Nat.le_of_ble_eq_true rfl) ?_
  intro p e s m below meth c A args QQ hx hb hml hown hts hE hDD hP KR ls hl
  have hl : lv_has ls 3 [(0, .ref a_v), (1, .int (zI x1)), (2, .int (zI x2))] := hl
  have hDD : DD A [a_v, a_v_shop, a_v_shop_facts, a_v_shop_places] := hDD
  have hS : va_S A s.heap s.heap [] := va_S.rf
  have q0 := hts (.fieldLink RX9 28 "HatHours" "shop" "LHatHours$Shop;") (List.mem_of_getElem? (i := 1) rfl)
  have iX9 : ∀ w ∈ u_ws RX9 TX9 10, w ∈ wsX9_room := in_slice 64 10 rfl
  refine lv_iload_n hx hb dX9_room_0 rfl (lv_at hl 1 rfl) ?_
  obtain ⟨o1, hc2, h⟩ := bnd_some h
  refine cS_i (rest := []) (w2 := (wd_X9_room cy a_v a_v_shop a_v_shop_facts a_v_shop_places a_v_tape a_v_reader a_v_seen a_v_images a_v_sheets a_v_search a_v_odds v_lastFault v_lastTorn v_shop_boxes v_shop_startsAt v_shop_facts v_shop_places)) ⟨hx, hb, hml, hown, hts⟩ (c_X9_isRoom l D cy sa x1 o1 hc2) (va_cwS 1 hts gX9_room_X9_isRoom rfl rfl rfl (by decide +kernel) ⟨Nat.le_of_ble_eq_true rfl, Nat.le_of_ble_eq_true rfl⟩) hE hP hDD rfl hS [] rfl rfl rfl rfl hl.1 (Nat.le_of_ble_eq_true rfl) ⟨Nat.zero_le _, Nat.zero_le _⟩ rfl dX9_room_1 rfl (fun H locs hP hS => ?_)
  obtain ⟨hr3, h⟩ := chk_some h
  refine wi_if_eq (tgt := 14) hx hb dX9_room_4 (by decide) hr3 (fun c5 => ?_) (fun c5 => ?_)
  · have h := ite_t c5 h
    refine wi_ic hx hb dX9_room_14 ?_
    obtain rfl := Option.some.inj h
    exact KR _ _ _ _ hP hS dX9_room_15
  · have h := ite_f c5 h
    refine lv_iload_n hx hb dX9_room_7 rfl (lv_at hl 2 rfl) ?_
    obtain ⟨o6, hc7, h⟩ := bnd_some h
    refine cS_i (rest := []) (w2 := (wd_X9_room cy a_v a_v_shop a_v_shop_facts a_v_shop_places a_v_tape a_v_reader a_v_seen a_v_images a_v_sheets a_v_search a_v_odds v_lastFault v_lastTorn v_shop_boxes v_shop_startsAt v_shop_facts v_shop_places)) ⟨hx, hb, hml, hown, hts⟩ (c_X9_isEither l D cy sa x2 o6 hc7) (va_cwS 1 hts gX9_room_X9_isEither rfl rfl rfl (by decide +kernel) ⟨Nat.le_of_ble_eq_true rfl, Nat.le_of_ble_eq_true rfl⟩) hE hP hDD rfl hS [] rfl rfl rfl rfl hl.1 (Nat.le_of_ble_eq_true rfl) ⟨Nat.zero_le _, Nat.zero_le _⟩ rfl dX9_room_8 rfl (fun H locs hP hS => ?_)
    obtain ⟨hr8, h⟩ := chk_some h
    refine wi_if_ne (tgt := 16) hx hb dX9_room_11 (by decide) hr8 (fun c10 => ?_) (fun c10 => ?_)
    · have h := ite_f c10 h
      refine lv_iload_n hx hb dX9_room_16 rfl (lv_at hl 2 rfl) ?_
      obtain ⟨hr11, h⟩ := chk_some h
      refine wi_if_ne (tgt := 31) hx hb dX9_room_17 (by decide) hr11 (fun c13 => ?_) (fun c13 => ?_)
      · have h := ite_f c13 h
        refine lv_aload_n hx hb dX9_room_31 rfl (lv_at hl 0 rfl) ?_
        refine wi_get (v := .ref a_v_shop) hx hb hts iX9 hown hE hP 0 rfl rfl 2 (by decide) q0 rfl dX9_room_32 ?_
        refine lv_iload_n hx hb dX9_room_35 rfl (lv_at hl 1 rfl) ?_
        obtain ⟨o14, hc15, h⟩ := bnd_some h
        refine cV_i (rest := []) (w2 := (wd_X9_room cy a_v a_v_shop a_v_shop_facts a_v_shop_places a_v_tape a_v_reader a_v_seen a_v_images a_v_sheets a_v_search a_v_odds v_lastFault v_lastTorn v_shop_boxes v_shop_startsAt v_shop_facts v_shop_places)) ⟨hx, hb, hml, hown, hts⟩ (c_X5_strangeHoursIn l D cy sa a_v_shop a_v_shop_facts a_v_shop_places v_shop_boxes v_shop_startsAt v_shop_facts v_shop_places x1 o14 hc15) (cwV 1 hts gX9_room_X5_strangeHoursIn rfl rfl rfl (by decide +kernel) ⟨Nat.le_of_ble_eq_true rfl, Nat.le_of_ble_eq_true rfl⟩) rfl rfl rfl hE hP hDD rfl hS [1, 2, 3] rfl rfl rfl rfl hl.1 (Nat.le_of_ble_eq_true rfl) ⟨Nat.zero_le _, Nat.zero_le _⟩ rfl dX9_room_36 rfl (fun H locs hP hS => ?_)
        obtain rfl := Option.some.inj h
        exact KR _ _ _ _ hP hS dX9_room_39
      · have h := ite_t c13 h
        refine lv_aload_n hx hb dX9_room_20 rfl (lv_at hl 0 rfl) ?_
        refine wi_get (v := .ref a_v_shop) hx hb hts iX9 hown hE hP 0 rfl rfl 2 (by decide) q0 rfl dX9_room_21 ?_
        refine lv_iload_n hx hb dX9_room_24 rfl (lv_at hl 1 rfl) ?_
        obtain ⟨o16, hc17, h⟩ := bnd_some h
        refine cV_i (rest := []) (w2 := (wd_X9_room cy a_v a_v_shop a_v_shop_facts a_v_shop_places a_v_tape a_v_reader a_v_seen a_v_images a_v_sheets a_v_search a_v_odds v_lastFault v_lastTorn v_shop_boxes v_shop_startsAt v_shop_facts v_shop_places)) ⟨hx, hb, hml, hown, hts⟩ (c_X5_yawnsIn l D cy sa a_v_shop a_v_shop_facts a_v_shop_places v_shop_boxes v_shop_startsAt v_shop_facts v_shop_places x1 o16 hc17) (cwV 1 hts gX9_room_X5_yawnsIn rfl rfl rfl (by decide +kernel) ⟨Nat.le_of_ble_eq_true rfl, Nat.le_of_ble_eq_true rfl⟩) rfl rfl rfl hE hP hDD rfl hS [1, 2, 3] rfl rfl rfl rfl hl.1 (Nat.le_of_ble_eq_true rfl) ⟨Nat.zero_le _, Nat.zero_le _⟩ rfl dX9_room_25 rfl (fun H locs hP hS => ?_)
        refine lv_goto (tgt := 39) hx hb dX9_room_28 (by decide) ?_
        obtain rfl := Option.some.inj h
        exact KR _ _ _ _ hP hS dX9_room_39
    · have h := ite_t c10 h
      refine wi_ic hx hb dX9_room_14 ?_
      obtain rfl := Option.some.inj h
      exact KR _ _ _ _ hP hS dX9_room_15
abbrev wd_X9_out (cy : Nat → ClassId) (a_v : Nat) (a_v_shop : Nat) (a_v_shop_facts : Nat) (a_v_tape : Nat) (a_v_reader : Nat) (a_v_seen : Nat) (a_v_images : Nat) (a_v_sheets : Nat) (a_v_search : Nat) (a_v_odds : Nat) (a_v_shop_places : Nat) (v_lastFault : Int) (v_lastTorn : Int) (v_shop_boxes : Int) (v_shop_startsAt : Int) (v_shop_facts : Nat → Int) : va_W := [(a_v, .inr (9, [.ref a_v_tape, .ref a_v_reader, .ref a_v_shop, .ref a_v_seen, .ref a_v_images, .ref a_v_sheets, .ref a_v_search, .ref a_v_odds, .int (zI v_lastFault), .int (zI v_lastTorn)])), (a_v_shop, .inr (5, [.ref a_v_shop_facts, .ref a_v_shop_places, .int (zI v_shop_boxes), .int (zI v_shop_startsAt)])), (a_v_shop_facts, .inl (cy 0, 30, .inl (fun j => zI (v_shop_facts j))))]
set_option maxHeartbeats 4000000 in
set_option maxRecDepth 100000 in
theorem c_X9_out (l : Launch) (D : va_G) (cy : Nat → ClassId) (sa : Nat → Nat) (a_v : Nat) (a_v_shop : Nat) (a_v_shop_facts : Nat) (a_v_tape : Nat) (a_v_reader : Nat) (a_v_seen : Nat) (a_v_images : Nat) (a_v_sheets : Nat) (a_v_search : Nat) (a_v_odds : Nat) (a_v_shop_places : Nat) (v_lastFault : Int) (v_lastTorn : Int) (v_shop_boxes : Int) (v_shop_startsAt : Int) (v_shop_facts : Nat → Int) (x1 : Int) (o : Int) (h : f_HH_out v_shop_boxes v_shop_facts x1 = some o) : CtI l yX9_out wsX9_out ({ frames := 3, cells := 0, slots := 0, locals := 76 }) D cy sa [.ref a_v, .int (zI x1)] (wd_X9_out cy a_v a_v_shop a_v_shop_facts a_v_tape a_v_reader a_v_seen a_v_images a_v_sheets a_v_search a_v_odds a_v_shop_places v_lastFault v_lastTorn v_shop_boxes v_shop_startsAt v_shop_facts) (wd_X9_out cy a_v a_v_shop a_v_shop_facts a_v_tape a_v_reader a_v_seen a_v_images a_v_sheets a_v_search a_v_odds a_v_shop_places v_lastFault v_lastTorn v_shop_boxes v_shop_startsAt v_shop_facts) o := by
  refine ct_I (cc := cX9_out) (maxL := 2) (plainFor_of_name (by decide)) rfl (Nat.le_of_ble_eq_true rfl) ?_
  intro p e s m below meth c A args QQ hx hb hml hown hts hE hDD hP KR ls hl
  have hl : lv_has ls 2 [(0, .ref a_v), (1, .int (zI x1))] := hl
  have hDD : DD A [a_v, a_v_shop, a_v_shop_facts] := hDD
  have hS : va_S A s.heap s.heap [] := va_S.rf
  have q0 := hts (.fieldLink RX9 28 "HatHours" "shop" "LHatHours$Shop;") (List.mem_of_getElem? (i := 1) rfl)
  have iX9 : ∀ w ∈ u_ws RX9 TX9 10, w ∈ wsX9_out := in_slice 32 10 rfl
  refine lv_aload_n hx hb dX9_out_0 rfl (lv_at hl 0 rfl) ?_
  refine wi_get (v := .ref a_v_shop) hx hb hts iX9 hown hE hP 0 rfl rfl 2 (by decide) q0 rfl dX9_out_1 ?_
  refine lv_iload_n hx hb dX9_out_4 rfl (lv_at hl 1 rfl) ?_
  obtain ⟨o1, hc2, h⟩ := bnd_some h
  refine cV_i (rest := []) (w2 := (wd_X9_out cy a_v a_v_shop a_v_shop_facts a_v_tape a_v_reader a_v_seen a_v_images a_v_sheets a_v_search a_v_odds a_v_shop_places v_lastFault v_lastTorn v_shop_boxes v_shop_startsAt v_shop_facts)) ⟨hx, hb, hml, hown, hts⟩ (c_X5_has l D cy sa a_v_shop a_v_shop_facts a_v_shop_places v_shop_boxes v_shop_startsAt x1 o1 hc2) (cwV 1 hts gX9_out_X5_has rfl rfl rfl (by decide +kernel) ⟨Nat.le_of_ble_eq_true rfl, Nat.le_of_ble_eq_true rfl⟩) rfl rfl rfl hE hP hDD rfl hS [1] rfl rfl rfl rfl hl.1 (Nat.le_of_ble_eq_true rfl) ⟨Nat.zero_le _, Nat.zero_le _⟩ rfl dX9_out_5 rfl (fun H locs hP hS => ?_)
  obtain ⟨hr3, h⟩ := chk_some h
  refine wi_if_eq (tgt := 22) hx hb dX9_out_8 (by decide) hr3 (fun c5 => ?_) (fun c5 => ?_)
  · have h := ite_t c5 h
    refine wi_ic hx hb dX9_out_22 ?_
    obtain rfl := Option.some.inj h
    exact KR _ _ _ _ hP hS dX9_out_23
  · have h := ite_f c5 h
    refine lv_aload_n hx hb dX9_out_11 rfl (lv_at hl 0 rfl) ?_
    refine wi_get (v := .ref a_v_shop) hx hb hts iX9 hown hE hP 0 rfl rfl 2 (by decide) q0 rfl dX9_out_12 ?_
    refine lv_iload_n hx hb dX9_out_15 rfl (lv_at hl 1 rfl) ?_
    obtain ⟨o6, hc7, h⟩ := bnd_some h
    refine cV_i (rest := []) (w2 := (wd_X9_out cy a_v a_v_shop a_v_shop_facts a_v_tape a_v_reader a_v_seen a_v_images a_v_sheets a_v_search a_v_odds a_v_shop_places v_lastFault v_lastTorn v_shop_boxes v_shop_startsAt v_shop_facts)) ⟨hx, hb, hml, hown, hts⟩ (c_X5_hoursBy l D cy sa a_v_shop a_v_shop_facts a_v_shop_places v_shop_boxes v_shop_startsAt v_shop_facts x1 o6 hc7) (cwV 1 hts gX9_out_X5_hoursBy rfl rfl rfl (by decide +kernel) ⟨Nat.le_of_ble_eq_true rfl, Nat.le_of_ble_eq_true rfl⟩) rfl rfl rfl hE hP hDD rfl hS [1, 2] rfl rfl rfl rfl hl.1 (Nat.le_of_ble_eq_true rfl) ⟨Nat.zero_le _, Nat.zero_le _⟩ rfl dX9_out_16 rfl (fun H locs hP hS => ?_)
    refine lv_goto (tgt := 23) hx hb dX9_out_19 (by decide) ?_
    obtain rfl := Option.some.inj h
    exact KR _ _ _ _ hP hS dX9_out_23
abbrev wd_X9_meet (cy : Nat → ClassId) (a_v : Nat) (a_v_shop : Nat) (a_v_shop_facts : Nat) (a_v_shop_places : Nat) (a_v_tape : Nat) (a_v_reader : Nat) (a_v_seen : Nat) (a_v_images : Nat) (a_v_sheets : Nat) (a_v_search : Nat) (a_v_odds : Nat) (v_lastFault : Int) (v_lastTorn : Int) (v_shop_boxes : Int) (v_shop_startsAt : Int) (v_shop_facts : Nat → Int) (v_shop_places : Nat → Int) : va_W := [(a_v, .inr (9, [.ref a_v_tape, .ref a_v_reader, .ref a_v_shop, .ref a_v_seen, .ref a_v_images, .ref a_v_sheets, .ref a_v_search, .ref a_v_odds, .int (zI v_lastFault), .int (zI v_lastTorn)])), (a_v_shop, .inr (5, [.ref a_v_shop_facts, .ref a_v_shop_places, .int (zI v_shop_boxes), .int (zI v_shop_startsAt)])), (a_v_shop_facts, .inl (cy 0, 30, .inl (fun j => zI (v_shop_facts j)))), (a_v_shop_places, .inl (cy 0, 5, .inl (fun j => zI (v_shop_places j))))]
set_option maxHeartbeats 4000000 in
set_option maxRecDepth 100000 in
theorem c_X9_meet (l : Launch) (D : va_G) (cy : Nat → ClassId) (sa : Nat → Nat) (a_v : Nat) (a_v_shop : Nat) (a_v_shop_facts : Nat) (a_v_shop_places : Nat) (a_v_tape : Nat) (a_v_reader : Nat) (a_v_seen : Nat) (a_v_images : Nat) (a_v_sheets : Nat) (a_v_search : Nat) (a_v_odds : Nat) (v_lastFault : Int) (v_lastTorn : Int) (v_shop_boxes : Int) (v_shop_startsAt : Int) (v_shop_facts : Nat → Int) (v_shop_places : Nat → Int) (x1 : Int) (x2 : Int) (o : Int) (h : f_HH_meet v_shop_boxes v_shop_startsAt v_shop_facts v_shop_places x1 x2 = some o) : CtI l yX9_meet wsX9_meet ({ frames := 4, cells := 0, slots := 0, locals := 91 }) D cy sa [.ref a_v, .int (zI x1), .int (zI x2)] (wd_X9_meet cy a_v a_v_shop a_v_shop_facts a_v_shop_places a_v_tape a_v_reader a_v_seen a_v_images a_v_sheets a_v_search a_v_odds v_lastFault v_lastTorn v_shop_boxes v_shop_startsAt v_shop_facts v_shop_places) (wd_X9_meet cy a_v a_v_shop a_v_shop_facts a_v_shop_places a_v_tape a_v_reader a_v_seen a_v_images a_v_sheets a_v_search a_v_odds v_lastFault v_lastTorn v_shop_boxes v_shop_startsAt v_shop_facts v_shop_places) o := by
  refine ct_I (cc := cX9_meet) (maxL := 5) (plainFor_of_name (by decide)) rfl (Nat.le_of_ble_eq_true rfl) ?_
  intro p e s m below meth c A args QQ hx hb hml hown hts hE hDD hP KR ls hl
  have hl : lv_has ls 5 [(0, .ref a_v), (1, .int (zI x1)), (2, .int (zI x2))] := hl
  have hDD : DD A [a_v, a_v_shop, a_v_shop_facts, a_v_shop_places] := hDD
  have hS : va_S A s.heap s.heap [] := va_S.rf
  have q0 := hts (.fieldLink RX9 28 "HatHours" "shop" "LHatHours$Shop;") (List.mem_of_getElem? (i := 1) rfl)
  have iX9 : ∀ w ∈ u_ws RX9 TX9 10, w ∈ wsX9_meet := in_slice 43 10 rfl
  have L23 : ∀ (fuel : Nat) (x1 : Int) (x2 : Int) (x3 : Int) (H : Heap) (locs : List Loc) (ls : Array Slot), va_P D vwCl (wd_X9_meet cy a_v a_v_shop a_v_shop_facts a_v_shop_places a_v_tape a_v_reader a_v_seen a_v_images a_v_sheets a_v_search a_v_odds v_lastFault v_lastTorn v_shop_boxes v_shop_startsAt v_shop_facts v_shop_places) H → va_S A s.heap H locs → lv_has ls 5 [(0, .ref a_v), (1, .int (zI x1)), (2, .int (zI x2)), (3, .int (zI x3))] → f_HH_meet_L23 fuel v_shop_boxes v_shop_startsAt v_shop_facts v_shop_places x1 x2 x3 = some o → W p l e { frames := 4, cells := 0, slots := 0, locals := 91 } s m args below meth c H locs 0 0 QQ (F0 m 23 ls []) := by
    intro fuel
    induction fuel with
    | zero => intro _ _ _ H locs ls hP hS hl h; cases h
    | succ fuel ih =>
      intro x1 x2 x3 H locs ls hP hS hl h
      refine lv_iload_n hx hb dX9_meet_23 rfl (lv_at hl 3 rfl) ?_
      refine wi_bi hx hb dX9_meet_24 (by decide) ?_
      obtain ⟨hr15, h⟩ := chk_some h
      refine wi_ic_ge (tgt := 98) hx hb dX9_meet_26 (by decide) hr15 (by decide) (fun c17 => ?_) (fun c17 => ?_)
      · have h := ite_t c17 h
        refine wi_bi hx hb dX9_meet_98 (by decide) ?_
        obtain rfl := Option.some.inj h
        exact KR _ _ _ _ hP hS dX9_meet_100
      · have h := ite_f c17 h
        refine lv_aload_n hx hb dX9_meet_29 rfl (lv_at hl 0 rfl) ?_
        refine wi_get (v := .ref a_v_shop) hx hb hts iX9 hown hE hP 0 rfl rfl 2 (by decide) q0 rfl dX9_meet_30 ?_
        refine lv_iload_n hx hb dX9_meet_33 rfl (lv_at hl 1 rfl) ?_
        refine lv_iload_n hx hb dX9_meet_34 rfl (lv_at hl 3 rfl) ?_
        obtain ⟨o18, hc19, h⟩ := bnd_some h
        refine cV_i (rest := []) (w2 := (wd_X9_meet cy a_v a_v_shop a_v_shop_facts a_v_shop_places a_v_tape a_v_reader a_v_seen a_v_images a_v_sheets a_v_search a_v_odds v_lastFault v_lastTorn v_shop_boxes v_shop_startsAt v_shop_facts v_shop_places)) ⟨hx, hb, hml, hown, hts⟩ (c_X5_boxAt l D cy sa a_v_shop a_v_shop_facts a_v_shop_places v_shop_boxes v_shop_startsAt v_shop_facts x1 x3 o18 hc19) (cwV 2 hts gX9_meet_X5_boxAt rfl rfl rfl (by decide +kernel) ⟨Nat.le_of_ble_eq_true rfl, Nat.le_of_ble_eq_true rfl⟩) rfl rfl rfl hE hP hDD rfl hS [1, 2] rfl rfl rfl rfl hl.1 (Nat.le_of_ble_eq_true rfl) ⟨Nat.zero_le _, Nat.zero_le _⟩ rfl dX9_meet_35 rfl (fun H locs hP hS => ?_)
        refine wi_bi hx hb dX9_meet_38 (by decide) ?_
        obtain ⟨hr20, h⟩ := chk_some h
        obtain ⟨o21, hx22, h⟩ := bnd_some h
        have J23 : ∀ (H : Heap) (locs : List Loc) (ls : Array Slot), va_P D vwCl (wd_X9_meet cy a_v a_v_shop a_v_shop_facts a_v_shop_places a_v_tape a_v_reader a_v_seen a_v_images a_v_sheets a_v_search a_v_odds v_lastFault v_lastTorn v_shop_boxes v_shop_startsAt v_shop_facts v_shop_places) H → va_S A s.heap H locs → lv_has ls 5 [(0, .ref a_v), (1, .int (zI x1)), (2, .int (zI x2)), (3, .int (zI x3))] → W p l e { frames := 4, cells := 0, slots := 0, locals := 91 } s m args below meth c H locs 0 0 QQ (F0 m 62 ls [.int (zI o21)]) := by
          intro H locs ls hP hS hl
          refine lv_istore (lv' := [(4, .int (zI o21)), (0, .ref a_v), (1, .int (zI x1)), (2, .int (zI x2)), (3, .int (zI x3))]) hx hb dX9_meet_62 hl (by decide) rfl (fun ls hl => ?_)
          refine lv_iload hx hb dX9_meet_64 (lv_at hl 0 rfl) ?_
          obtain ⟨hr24, h⟩ := chk_some h
          refine wi_if_eq (tgt := 92) hx hb dX9_meet_66 (by decide) hr24 (fun c26 => ?_) (fun c26 => ?_)
          · have h := ite_t c26 h
            refine wi_iinc (k := 4) (lv' := [(3, .int (zI (x3 + 1))), (4, .int (zI o21)), (0, .ref a_v), (1, .int (zI x1)), (2, .int (zI x2))]) hx hb dX9_meet_92 hl rfl (by decide) rfl (fun ls hl => ?_)
            refine lv_goto (tgt := 23) hx hb dX9_meet_95 (by decide) ?_
            exact ih x1 x2 (x3 + 1) _ _ _ hP hS (lv_sub hl [2, 3, 4, 0] rfl) h
          · have h := ite_f c26 h
            refine lv_aload_n hx hb dX9_meet_69 rfl (lv_at hl 1 rfl) ?_
            refine wi_get (v := .ref a_v_shop) hx hb hts iX9 hown hE hP 0 rfl rfl 2 (by decide) q0 rfl dX9_meet_70 ?_
            refine lv_iload_n hx hb dX9_meet_73 rfl (lv_at hl 2 rfl) ?_
            refine lv_iload_n hx hb dX9_meet_74 rfl (lv_at hl 4 rfl) ?_
            obtain ⟨o27, hc28, h⟩ := bnd_some h
            refine cV_i (rest := []) (w2 := (wd_X9_meet cy a_v a_v_shop a_v_shop_facts a_v_shop_places a_v_tape a_v_reader a_v_seen a_v_images a_v_sheets a_v_search a_v_odds v_lastFault v_lastTorn v_shop_boxes v_shop_startsAt v_shop_facts v_shop_places)) ⟨hx, hb, hml, hown, hts⟩ (c_X5_oclock l D cy sa a_v_shop a_v_shop_facts a_v_shop_places v_shop_boxes v_shop_startsAt v_shop_facts v_shop_places x1 x3 o27 hc28) (cwV 2 hts gX9_meet_X5_oclock rfl rfl rfl (by decide +kernel) ⟨Nat.le_of_ble_eq_true rfl, Nat.le_of_ble_eq_true rfl⟩) rfl rfl rfl hE hP hDD rfl hS [1, 2, 3] rfl rfl rfl rfl hl.1 (Nat.le_of_ble_eq_true rfl) ⟨Nat.zero_le _, Nat.zero_le _⟩ rfl dX9_meet_75 rfl (fun H locs hP hS => ?_)
            refine lv_aload_n hx hb dX9_meet_78 rfl (lv_at hl 1 rfl) ?_
            refine wi_get (v := .ref a_v_shop) hx hb hts iX9 hown hE hP 0 rfl rfl 2 (by decide) q0 rfl dX9_meet_79 ?_
            refine lv_iload_n hx hb dX9_meet_82 rfl (lv_at hl 3 rfl) ?_
            refine lv_iload_n hx hb dX9_meet_83 rfl (lv_at hl 4 rfl) ?_
            obtain ⟨o29, hc30, h⟩ := bnd_some h
            refine cV_i (rest := [.int (zI o27)]) (w2 := (wd_X9_meet cy a_v a_v_shop a_v_shop_facts a_v_shop_places a_v_tape a_v_reader a_v_seen a_v_images a_v_sheets a_v_search a_v_odds v_lastFault v_lastTorn v_shop_boxes v_shop_startsAt v_shop_facts v_shop_places)) ⟨hx, hb, hml, hown, hts⟩ (c_X5_oclock l D cy sa a_v_shop a_v_shop_facts a_v_shop_places v_shop_boxes v_shop_startsAt v_shop_facts v_shop_places x2 x3 o29 hc30) (cwV 2 hts gX9_meet_X5_oclock rfl rfl rfl (by decide +kernel) ⟨Nat.le_of_ble_eq_true rfl, Nat.le_of_ble_eq_true rfl⟩) rfl rfl rfl hE hP hDD rfl hS [1, 2, 3] rfl rfl rfl rfl hl.1 (Nat.le_of_ble_eq_true rfl) ⟨Nat.zero_le _, Nat.zero_le _⟩ rfl dX9_meet_84 rfl (fun H locs hP hS => ?_)
            obtain ⟨hr31, h⟩ := chk_some h
            obtain ⟨hr32, h⟩ := chk_some h
            refine wi_ic_ne (tgt := 92) hx hb dX9_meet_87 (by decide) hr31 hr32 (fun c34 => ?_) (fun c34 => ?_)
            · have h := ite_f c34 h
              refine wi_iinc (k := 4) (lv' := [(3, .int (zI (x3 + 1))), (4, .int (zI o21)), (0, .ref a_v), (1, .int (zI x1)), (2, .int (zI x2))]) hx hb dX9_meet_92 hl rfl (by decide) rfl (fun ls hl => ?_)
              refine lv_goto (tgt := 23) hx hb dX9_meet_95 (by decide) ?_
              exact ih x1 x2 (x3 + 1) _ _ _ hP hS (lv_sub hl [2, 3, 4, 0] rfl) h
            · have h := ite_t c34 h
              refine lv_iload_n hx hb dX9_meet_90 rfl (lv_at hl 4 rfl) ?_
              obtain rfl := Option.some.inj h
              exact KR _ _ _ _ hP hS dX9_meet_91
        clear h
        have h := hx22
        clear hx22
        refine wi_ic_eq (tgt := 61) hx hb dX9_meet_40 (by decide) hr20 (by decide) (fun c35 => ?_) (fun c35 => ?_)
        · have h := ite_t c35 h
          refine wi_ic hx hb dX9_meet_61 ?_
          obtain rfl := Option.some.inj h
          exact J23 _ _ _ hP hS (lv_sub hl [0, 1, 2, 3] rfl)
        · have h := ite_f c35 h
          refine lv_aload_n hx hb dX9_meet_43 rfl (lv_at hl 0 rfl) ?_
          refine wi_get (v := .ref a_v_shop) hx hb hts iX9 hown hE hP 0 rfl rfl 2 (by decide) q0 rfl dX9_meet_44 ?_
          refine lv_iload_n hx hb dX9_meet_47 rfl (lv_at hl 2 rfl) ?_
          refine lv_iload_n hx hb dX9_meet_48 rfl (lv_at hl 3 rfl) ?_
          obtain ⟨o36, hc37, h⟩ := bnd_some h
          refine cV_i (rest := []) (w2 := (wd_X9_meet cy a_v a_v_shop a_v_shop_facts a_v_shop_places a_v_tape a_v_reader a_v_seen a_v_images a_v_sheets a_v_search a_v_odds v_lastFault v_lastTorn v_shop_boxes v_shop_startsAt v_shop_facts v_shop_places)) ⟨hx, hb, hml, hown, hts⟩ (c_X5_boxAt l D cy sa a_v_shop a_v_shop_facts a_v_shop_places v_shop_boxes v_shop_startsAt v_shop_facts x2 x3 o36 hc37) (cwV 2 hts gX9_meet_X5_boxAt rfl rfl rfl (by decide +kernel) ⟨Nat.le_of_ble_eq_true rfl, Nat.le_of_ble_eq_true rfl⟩) rfl rfl rfl hE hP hDD rfl hS [1, 2] rfl rfl rfl rfl hl.1 (Nat.le_of_ble_eq_true rfl) ⟨Nat.zero_le _, Nat.zero_le _⟩ rfl dX9_meet_49 rfl (fun H locs hP hS => ?_)
          refine wi_bi hx hb dX9_meet_52 (by decide) ?_
          obtain ⟨hr38, h⟩ := chk_some h
          refine wi_ic_eq (tgt := 61) hx hb dX9_meet_54 (by decide) hr38 (by decide) (fun c40 => ?_) (fun c40 => ?_)
          · have h := ite_t c40 h
            refine wi_ic hx hb dX9_meet_61 ?_
            obtain rfl := Option.some.inj h
            exact J23 _ _ _ hP hS (lv_sub hl [0, 1, 2, 3] rfl)
          · have h := ite_f c40 h
            refine wi_ic hx hb dX9_meet_57 ?_
            refine lv_goto (tgt := 62) hx hb dX9_meet_58 (by decide) ?_
            obtain rfl := Option.some.inj h
            exact J23 _ _ _ hP hS (lv_sub hl [0, 1, 2, 3] rfl)
  refine lv_iload_n hx hb dX9_meet_0 rfl (lv_at hl 1 rfl) ?_
  obtain ⟨o1, hc2, h⟩ := bnd_some h
  refine cS_i (rest := []) (w2 := (wd_X9_meet cy a_v a_v_shop a_v_shop_facts a_v_shop_places a_v_tape a_v_reader a_v_seen a_v_images a_v_sheets a_v_search a_v_odds v_lastFault v_lastTorn v_shop_boxes v_shop_startsAt v_shop_facts v_shop_places)) ⟨hx, hb, hml, hown, hts⟩ (c_X9_isRoom l D cy sa x1 o1 hc2) (va_cwS 1 hts gX9_meet_X9_isRoom rfl rfl rfl (by decide +kernel) ⟨Nat.le_of_ble_eq_true rfl, Nat.le_of_ble_eq_true rfl⟩) hE hP hDD rfl hS [] rfl rfl rfl rfl hl.1 (Nat.le_of_ble_eq_true rfl) ⟨Nat.zero_le _, Nat.zero_le _⟩ rfl dX9_meet_1 rfl (fun H locs hP hS => ?_)
  obtain ⟨hr3, h⟩ := chk_some h
  refine wi_if_eq (tgt := 19) hx hb dX9_meet_4 (by decide) hr3 (fun c5 => ?_) (fun c5 => ?_)
  · have h := ite_t c5 h
    refine wi_ic hx hb dX9_meet_19 ?_
    obtain rfl := Option.some.inj h
    exact KR _ _ _ _ hP hS dX9_meet_20
  · have h := ite_f c5 h
    refine lv_iload_n hx hb dX9_meet_7 rfl (lv_at hl 2 rfl) ?_
    obtain ⟨o6, hc7, h⟩ := bnd_some h
    refine cS_i (rest := []) (w2 := (wd_X9_meet cy a_v a_v_shop a_v_shop_facts a_v_shop_places a_v_tape a_v_reader a_v_seen a_v_images a_v_sheets a_v_search a_v_odds v_lastFault v_lastTorn v_shop_boxes v_shop_startsAt v_shop_facts v_shop_places)) ⟨hx, hb, hml, hown, hts⟩ (c_X9_isRoom l D cy sa x2 o6 hc7) (va_cwS 1 hts gX9_meet_X9_isRoom rfl rfl rfl (by decide +kernel) ⟨Nat.le_of_ble_eq_true rfl, Nat.le_of_ble_eq_true rfl⟩) hE hP hDD rfl hS [] rfl rfl rfl rfl hl.1 (Nat.le_of_ble_eq_true rfl) ⟨Nat.zero_le _, Nat.zero_le _⟩ rfl dX9_meet_8 rfl (fun H locs hP hS => ?_)
    obtain ⟨hr8, h⟩ := chk_some h
    refine wi_if_eq (tgt := 19) hx hb dX9_meet_11 (by decide) hr8 (fun c10 => ?_) (fun c10 => ?_)
    · have h := ite_t c10 h
      refine wi_ic hx hb dX9_meet_19 ?_
      obtain rfl := Option.some.inj h
      exact KR _ _ _ _ hP hS dX9_meet_20
    · have h := ite_f c10 h
      refine lv_iload_n hx hb dX9_meet_14 rfl (lv_at hl 1 rfl) ?_
      refine lv_iload_n hx hb dX9_meet_15 rfl (lv_at hl 2 rfl) ?_
      obtain ⟨hr11, h⟩ := chk_some h
      obtain ⟨hr12, h⟩ := chk_some h
      refine wi_ic_ne (tgt := 21) hx hb dX9_meet_16 (by decide) hr11 hr12 (fun c14 => ?_) (fun c14 => ?_)
      · have h := ite_f c14 h
        refine wi_ic hx hb dX9_meet_21 ?_
        refine lv_istore_n (lv' := [(3, .int (zI 0)), (0, .ref a_v), (1, .int (zI x1)), (2, .int (zI x2))]) hx hb dX9_meet_22 rfl hl (by decide) rfl (fun ls hl => ?_)
        exact L23 5000 x1 x2 0 _ _ _ hP hS (lv_sub hl [1, 2, 3, 0] rfl) h
      · have h := ite_t c14 h
        refine wi_ic hx hb dX9_meet_19 ?_
        obtain rfl := Option.some.inj h
        exact KR _ _ _ _ hP hS dX9_meet_20
abbrev wd_X9_first (cy : Nat → ClassId) (a_v : Nat) (a_v_shop : Nat) (a_v_shop_facts : Nat) (a_v_shop_places : Nat) (a_v_tape : Nat) (a_v_reader : Nat) (a_v_seen : Nat) (a_v_images : Nat) (a_v_sheets : Nat) (a_v_search : Nat) (a_v_odds : Nat) (v_lastFault : Int) (v_lastTorn : Int) (v_shop_boxes : Int) (v_shop_startsAt : Int) (v_shop_facts : Nat → Int) (v_shop_places : Nat → Int) : va_W := [(a_v, .inr (9, [.ref a_v_tape, .ref a_v_reader, .ref a_v_shop, .ref a_v_seen, .ref a_v_images, .ref a_v_sheets, .ref a_v_search, .ref a_v_odds, .int (zI v_lastFault), .int (zI v_lastTorn)])), (a_v_shop, .inr (5, [.ref a_v_shop_facts, .ref a_v_shop_places, .int (zI v_shop_boxes), .int (zI v_shop_startsAt)])), (a_v_shop_facts, .inl (cy 0, 30, .inl (fun j => zI (v_shop_facts j)))), (a_v_shop_places, .inl (cy 0, 5, .inl (fun j => zI (v_shop_places j))))]
set_option maxHeartbeats 4000000 in
set_option maxRecDepth 100000 in
theorem c_X9_first (l : Launch) (D : va_G) (cy : Nat → ClassId) (sa : Nat → Nat) (a_v : Nat) (a_v_shop : Nat) (a_v_shop_facts : Nat) (a_v_shop_places : Nat) (a_v_tape : Nat) (a_v_reader : Nat) (a_v_seen : Nat) (a_v_images : Nat) (a_v_sheets : Nat) (a_v_search : Nat) (a_v_odds : Nat) (v_lastFault : Int) (v_lastTorn : Int) (v_shop_boxes : Int) (v_shop_startsAt : Int) (v_shop_facts : Nat → Int) (v_shop_places : Nat → Int) (x1 : Int) (x2 : Int) (o : Int) (h : f_HH_first v_shop_boxes v_shop_startsAt v_shop_facts v_shop_places x1 x2 = some o) : CtI l yX9_first wsX9_first ({ frames := 4, cells := 0, slots := 0, locals := 91 }) D cy sa [.ref a_v, .int (zI x1), .int (zI x2)] (wd_X9_first cy a_v a_v_shop a_v_shop_facts a_v_shop_places a_v_tape a_v_reader a_v_seen a_v_images a_v_sheets a_v_search a_v_odds v_lastFault v_lastTorn v_shop_boxes v_shop_startsAt v_shop_facts v_shop_places) (wd_X9_first cy a_v a_v_shop a_v_shop_facts a_v_shop_places a_v_tape a_v_reader a_v_seen a_v_images a_v_sheets a_v_search a_v_odds v_lastFault v_lastTorn v_shop_boxes v_shop_startsAt v_shop_facts v_shop_places) o := by
  refine ct_I (cc := cX9_first) (maxL := 4) (plainFor_of_name (by decide)) rfl (Nat.le_of_ble_eq_true rfl) ?_
  intro p e s m below meth c A args QQ hx hb hml hown hts hE hDD hP KR ls hl
  have hl : lv_has ls 4 [(0, .ref a_v), (1, .int (zI x1)), (2, .int (zI x2))] := hl
  have hDD : DD A [a_v, a_v_shop, a_v_shop_facts, a_v_shop_places] := hDD
  have hS : va_S A s.heap s.heap [] := va_S.rf
  have q0 := hts (.fieldLink RX9 28 "HatHours" "shop" "LHatHours$Shop;") (List.mem_of_getElem? (i := 1) rfl)
  have iX9 : ∀ w ∈ u_ws RX9 TX9 10, w ∈ wsX9_first := in_slice 45 10 rfl
  have L18 : ∀ (fuel : Nat) (x1 : Int) (x2 : Int) (x3 : Int) (H : Heap) (locs : List Loc) (ls : Array Slot), va_P D vwCl (wd_X9_first cy a_v a_v_shop a_v_shop_facts a_v_shop_places a_v_tape a_v_reader a_v_seen a_v_images a_v_sheets a_v_search a_v_odds v_lastFault v_lastTorn v_shop_boxes v_shop_startsAt v_shop_facts v_shop_places) H → va_S A s.heap H locs → lv_has ls 4 [(0, .ref a_v), (1, .int (zI x1)), (2, .int (zI x2)), (3, .int (zI x3))] → f_HH_first_L18 fuel v_shop_boxes v_shop_startsAt v_shop_facts v_shop_places x1 x2 x3 = some o → W p l e { frames := 4, cells := 0, slots := 0, locals := 91 } s m args below meth c H locs 0 0 QQ (F0 m 18 ls []) := by
    intro fuel
    induction fuel with
    | zero => intro _ _ _ H locs ls hP hS hl h; cases h
    | succ fuel ih =>
      intro x1 x2 x3 H locs ls hP hS hl h
      refine lv_iload_n hx hb dX9_first_18 rfl (lv_at hl 3 rfl) ?_
      refine wi_bi hx hb dX9_first_19 (by decide) ?_
      obtain ⟨hr11, h⟩ := chk_some h
      refine wi_ic_ge (tgt := 45) hx hb dX9_first_21 (by decide) hr11 (by decide) (fun c13 => ?_) (fun c13 => ?_)
      · have h := ite_t c13 h
        refine wi_bi hx hb dX9_first_45 (by decide) ?_
        obtain rfl := Option.some.inj h
        exact KR _ _ _ _ hP hS dX9_first_47
      · have h := ite_f c13 h
        refine lv_aload_n hx hb dX9_first_24 rfl (lv_at hl 0 rfl) ?_
        refine wi_get (v := .ref a_v_shop) hx hb hts iX9 hown hE hP 0 rfl rfl 2 (by decide) q0 rfl dX9_first_25 ?_
        refine lv_iload_n hx hb dX9_first_28 rfl (lv_at hl 1 rfl) ?_
        refine lv_iload_n hx hb dX9_first_29 rfl (lv_at hl 3 rfl) ?_
        obtain ⟨o14, hc15, h⟩ := bnd_some h
        refine cV_i (rest := []) (w2 := (wd_X9_first cy a_v a_v_shop a_v_shop_facts a_v_shop_places a_v_tape a_v_reader a_v_seen a_v_images a_v_sheets a_v_search a_v_odds v_lastFault v_lastTorn v_shop_boxes v_shop_startsAt v_shop_facts v_shop_places)) ⟨hx, hb, hml, hown, hts⟩ (c_X5_oclock l D cy sa a_v_shop a_v_shop_facts a_v_shop_places v_shop_boxes v_shop_startsAt v_shop_facts v_shop_places x1 x3 o14 hc15) (cwV 2 hts gX9_first_X5_oclock rfl rfl rfl (by decide +kernel) ⟨Nat.le_of_ble_eq_true rfl, Nat.le_of_ble_eq_true rfl⟩) rfl rfl rfl hE hP hDD rfl hS [1, 2, 3] rfl rfl rfl rfl hl.1 (Nat.le_of_ble_eq_true rfl) ⟨Nat.zero_le _, Nat.zero_le _⟩ rfl dX9_first_30 rfl (fun H locs hP hS => ?_)
        refine lv_iload_n hx hb dX9_first_33 rfl (lv_at hl 2 rfl) ?_
        obtain ⟨hr16, h⟩ := chk_some h
        obtain ⟨hr17, h⟩ := chk_some h
        refine wi_ic_ne (tgt := 39) hx hb dX9_first_34 (by decide) hr16 hr17 (fun c19 => ?_) (fun c19 => ?_)
        · have h := ite_f c19 h
          refine wi_iinc (k := 3) (lv' := [(3, .int (zI (x3 + 1))), (0, .ref a_v), (1, .int (zI x1)), (2, .int (zI x2))]) hx hb dX9_first_39 hl rfl (by decide) rfl (fun ls hl => ?_)
          refine lv_goto (tgt := 18) hx hb dX9_first_42 (by decide) ?_
          exact ih x1 x2 (x3 + 1) _ _ _ hP hS (lv_sub hl [1, 2, 3, 0] rfl) h
        · have h := ite_t c19 h
          refine lv_iload_n hx hb dX9_first_37 rfl (lv_at hl 3 rfl) ?_
          obtain rfl := Option.some.inj h
          exact KR _ _ _ _ hP hS dX9_first_38
  refine lv_iload_n hx hb dX9_first_0 rfl (lv_at hl 1 rfl) ?_
  obtain ⟨o1, hc2, h⟩ := bnd_some h
  refine cS_i (rest := []) (w2 := (wd_X9_first cy a_v a_v_shop a_v_shop_facts a_v_shop_places a_v_tape a_v_reader a_v_seen a_v_images a_v_sheets a_v_search a_v_odds v_lastFault v_lastTorn v_shop_boxes v_shop_startsAt v_shop_facts v_shop_places)) ⟨hx, hb, hml, hown, hts⟩ (c_X9_isRoom l D cy sa x1 o1 hc2) (va_cwS 1 hts gX9_first_X9_isRoom rfl rfl rfl (by decide +kernel) ⟨Nat.le_of_ble_eq_true rfl, Nat.le_of_ble_eq_true rfl⟩) hE hP hDD rfl hS [] rfl rfl rfl rfl hl.1 (Nat.le_of_ble_eq_true rfl) ⟨Nat.zero_le _, Nat.zero_le _⟩ rfl dX9_first_1 rfl (fun H locs hP hS => ?_)
  obtain ⟨hr3, h⟩ := chk_some h
  refine wi_if_eq (tgt := 14) hx hb dX9_first_4 (by decide) hr3 (fun c5 => ?_) (fun c5 => ?_)
  · have h := ite_t c5 h
    refine wi_ic hx hb dX9_first_14 ?_
    obtain rfl := Option.some.inj h
    exact KR _ _ _ _ hP hS dX9_first_15
  · have h := ite_f c5 h
    refine lv_iload_n hx hb dX9_first_7 rfl (lv_at hl 2 rfl) ?_
    obtain ⟨o6, hc7, h⟩ := bnd_some h
    refine cS_i (rest := []) (w2 := (wd_X9_first cy a_v a_v_shop a_v_shop_facts a_v_shop_places a_v_tape a_v_reader a_v_seen a_v_images a_v_sheets a_v_search a_v_odds v_lastFault v_lastTorn v_shop_boxes v_shop_startsAt v_shop_facts v_shop_places)) ⟨hx, hb, hml, hown, hts⟩ (c_X9_isHour l D cy sa x2 o6 hc7) (va_cwS 1 hts gX9_first_X9_isHour rfl rfl rfl (by decide +kernel) ⟨Nat.le_of_ble_eq_true rfl, Nat.le_of_ble_eq_true rfl⟩) hE hP hDD rfl hS [] rfl rfl rfl rfl hl.1 (Nat.le_of_ble_eq_true rfl) ⟨Nat.zero_le _, Nat.zero_le _⟩ rfl dX9_first_8 rfl (fun H locs hP hS => ?_)
    obtain ⟨hr8, h⟩ := chk_some h
    refine wi_if_ne (tgt := 16) hx hb dX9_first_11 (by decide) hr8 (fun c10 => ?_) (fun c10 => ?_)
    · have h := ite_f c10 h
      refine wi_ic hx hb dX9_first_16 ?_
      refine lv_istore_n (lv' := [(3, .int (zI 0)), (0, .ref a_v), (1, .int (zI x1)), (2, .int (zI x2))]) hx hb dX9_first_17 rfl hl (by decide) rfl (fun ls hl => ?_)
      exact L18 5000 x1 x2 0 _ _ _ hP hS (lv_sub hl [1, 2, 3, 0] rfl) h
    · have h := ite_t c10 h
      refine wi_ic hx hb dX9_first_14 ?_
      obtain rfl := Option.some.inj h
      exact KR _ _ _ _ hP hS dX9_first_15
abbrev wd_X9_best (cy : Nat → ClassId) (a_v : Nat) (a_v_search : Nat) (a_v_search_bestPlaces : Nat) (a_v_search_draft : Nat) (a_v_search_draft_facts : Nat) (a_v_search_draft_places : Nat) (a_v_search_least : Nat) (a_v_shop : Nat) (a_v_shop_facts : Nat) (a_v_shop_places : Nat) (a_v_tape : Nat) (a_v_reader : Nat) (a_v_seen : Nat) (a_v_images : Nat) (a_v_sheets : Nat) (a_v_odds : Nat) (a_v_search_startsLeft : Nat) (v_lastFault : Int) (v_lastTorn : Int) (v_search_bestPlaces : Nat → Int) (v_search_draft_boxes : Int) (v_search_draft_startsAt : Int) (v_search_draft_facts : Nat → Int) (v_search_draft_places : Nat → Int) (v_search_least_at : Int) (v_search_least_value : Int) (v_shop_boxes : Int) (v_shop_startsAt : Int) (v_shop_facts : Nat → Int) (v_shop_places : Nat → Int) : va_W := [(a_v, .inr (9, [.ref a_v_tape, .ref a_v_reader, .ref a_v_shop, .ref a_v_seen, .ref a_v_images, .ref a_v_sheets, .ref a_v_search, .ref a_v_odds, .int (zI v_lastFault), .int (zI v_lastTorn)])), (a_v_search, .inr (3, [.ref a_v_search_draft, .ref a_v_search_least, .ref a_v_search_bestPlaces, .ref a_v_search_startsLeft])), (a_v_search_bestPlaces, .inl (cy 0, 5, .inl (fun j => zI (v_search_bestPlaces j)))), (a_v_search_draft, .inr (5, [.ref a_v_search_draft_facts, .ref a_v_search_draft_places, .int (zI v_search_draft_boxes), .int (zI v_search_draft_startsAt)])), (a_v_search_draft_facts, .inl (cy 0, 30, .inl (fun j => zI (v_search_draft_facts j)))), (a_v_search_draft_places, .inl (cy 0, 5, .inl (fun j => zI (v_search_draft_places j)))), (a_v_search_least, .inr (1, [.int (zI v_search_least_at), .int (zI v_search_least_value)])), (a_v_shop, .inr (5, [.ref a_v_shop_facts, .ref a_v_shop_places, .int (zI v_shop_boxes), .int (zI v_shop_startsAt)])), (a_v_shop_facts, .inl (cy 0, 30, .inl (fun j => zI (v_shop_facts j)))), (a_v_shop_places, .inl (cy 0, 5, .inl (fun j => zI (v_shop_places j))))]
set_option maxHeartbeats 4000000 in
set_option maxRecDepth 100000 in
theorem c_X9_best (l : Launch) (D : va_G) (cy : Nat → ClassId) (sa : Nat → Nat) (a_v : Nat) (a_v_search : Nat) (a_v_search_bestPlaces : Nat) (a_v_search_draft : Nat) (a_v_search_draft_facts : Nat) (a_v_search_draft_places : Nat) (a_v_search_least : Nat) (a_v_shop : Nat) (a_v_shop_facts : Nat) (a_v_shop_places : Nat) (a_v_tape : Nat) (a_v_reader : Nat) (a_v_seen : Nat) (a_v_images : Nat) (a_v_sheets : Nat) (a_v_odds : Nat) (a_v_search_startsLeft : Nat) (v_lastFault : Int) (v_lastTorn : Int) (v_search_bestPlaces : Nat → Int) (v_search_draft_boxes : Int) (v_search_draft_startsAt : Int) (v_search_draft_facts : Nat → Int) (v_search_draft_places : Nat → Int) (v_search_least_at : Int) (v_search_least_value : Int) (v_shop_boxes : Int) (v_shop_startsAt : Int) (v_shop_facts : Nat → Int) (v_shop_places : Nat → Int) (x1 : Int) (o : Int × (Nat → Int) × Int × Int × (Nat → Int) × (Nat → Int) × Int × Int) (h : f_HH_best v_search_bestPlaces v_search_draft_boxes v_search_draft_startsAt v_search_draft_facts v_search_draft_places v_search_least_at v_search_least_value v_shop_boxes v_shop_startsAt v_shop_facts v_shop_places x1 = some o) : CtI l yX9_best wsX9_best ({ frames := 4, cells := 0, slots := 0, locals := 104 }) D cy sa [.ref a_v, .int (zI x1)] (wd_X9_best cy a_v a_v_search a_v_search_bestPlaces a_v_search_draft a_v_search_draft_facts a_v_search_draft_places a_v_search_least a_v_shop a_v_shop_facts a_v_shop_places a_v_tape a_v_reader a_v_seen a_v_images a_v_sheets a_v_odds a_v_search_startsLeft v_lastFault v_lastTorn v_search_bestPlaces v_search_draft_boxes v_search_draft_startsAt v_search_draft_facts v_search_draft_places v_search_least_at v_search_least_value v_shop_boxes v_shop_startsAt v_shop_facts v_shop_places) (wd_X9_best cy a_v a_v_search a_v_search_bestPlaces a_v_search_draft a_v_search_draft_facts a_v_search_draft_places a_v_search_least a_v_shop a_v_shop_facts a_v_shop_places a_v_tape a_v_reader a_v_seen a_v_images a_v_sheets a_v_odds a_v_search_startsLeft v_lastFault v_lastTorn o.2.1 o.2.2.1 o.2.2.2.1 o.2.2.2.2.1 o.2.2.2.2.2.1 o.2.2.2.2.2.2.1 o.2.2.2.2.2.2.2 v_shop_boxes v_shop_startsAt v_shop_facts v_shop_places) o.1 := by
  refine ct_I (cc := cX9_best) (maxL := 3) (plainFor_of_name (by decide)) rfl (Nat.le_of_ble_eq_true rfl) ?_
  intro p e s m below meth c A args QQ hx hb hml hown hts hE hDD hP KR ls hl
  have hl : lv_has ls 3 [(0, .ref a_v), (1, .int (zI x1))] := hl
  have hDD : DD A [a_v, a_v_search, a_v_search_bestPlaces, a_v_search_draft, a_v_search_draft_facts, a_v_search_draft_places, a_v_search_least, a_v_shop, a_v_shop_facts, a_v_shop_places] := hDD
  have hS : va_S A s.heap s.heap [] := va_S.rf
  have q0 := hts (.fieldLink RX9 56 "HatHours" "search" "LHatHours$Search;") (List.mem_of_getElem? (i := 2) rfl)
  have q1 := hts (.fieldLink RX9 28 "HatHours" "shop" "LHatHours$Shop;") (List.mem_of_getElem? (i := 1) rfl)
  have iX9 : ∀ w ∈ u_ws RX9 TX9 10, w ∈ wsX9_best := in_slice 104 10 rfl
  have B28 : ∀ (v_search_bestPlaces : Nat → Int) (v_search_draft_boxes : Int) (v_search_draft_startsAt : Int) (v_search_draft_facts : Nat → Int) (v_search_draft_places : Nat → Int) (v_search_least_at : Int) (v_search_least_value : Int) (x1 : Int) (x2 : Int) (H : Heap) (locs : List Loc) (ls : Array Slot), va_P D vwCl (wd_X9_best cy a_v a_v_search a_v_search_bestPlaces a_v_search_draft a_v_search_draft_facts a_v_search_draft_places a_v_search_least a_v_shop a_v_shop_facts a_v_shop_places a_v_tape a_v_reader a_v_seen a_v_images a_v_sheets a_v_odds a_v_search_startsLeft v_lastFault v_lastTorn v_search_bestPlaces v_search_draft_boxes v_search_draft_startsAt v_search_draft_facts v_search_draft_places v_search_least_at v_search_least_value v_shop_boxes v_shop_startsAt v_shop_facts v_shop_places) H → va_S A s.heap H locs → lv_has ls 3 [(0, .ref a_v), (1, .int (zI x1)), (2, .int (zI x2))] → f_HH_best_b28 v_search_bestPlaces v_search_draft_boxes v_search_draft_startsAt v_search_draft_facts v_search_draft_places v_search_least_at v_search_least_value v_shop_boxes v_shop_startsAt v_shop_facts v_shop_places x1 x2 = some o → W p l e { frames := 4, cells := 0, slots := 0, locals := 104 } s m args below meth c H locs 0 0 QQ (F0 m 28 ls []) := by
    intro v_search_bestPlaces v_search_draft_boxes v_search_draft_startsAt v_search_draft_facts v_search_draft_places v_search_least_at v_search_least_value x1 x2 H locs ls hP hS hl h
    refine lv_aload_n hx hb dX9_best_28 rfl (lv_at hl 0 rfl) ?_
    refine wi_get (v := .ref a_v_search) hx hb hts iX9 hown hE hP 0 rfl rfl 6 (by decide) q0 rfl dX9_best_29 ?_
    refine lv_aload_n hx hb dX9_best_32 rfl (lv_at hl 0 rfl) ?_
    refine wi_get (v := .ref a_v_shop) hx hb hts iX9 hown hE hP 0 rfl rfl 2 (by decide) q1 rfl dX9_best_33 ?_
    obtain ⟨o4, hc5, h⟩ := bnd_some h
    refine cV_v (rest := []) (w2 := (wd_X9_best cy a_v a_v_search a_v_search_bestPlaces a_v_search_draft a_v_search_draft_facts a_v_search_draft_places a_v_search_least a_v_shop a_v_shop_facts a_v_shop_places a_v_tape a_v_reader a_v_seen a_v_images a_v_sheets a_v_odds a_v_search_startsLeft v_lastFault v_lastTorn o4.1 o4.2.1 o4.2.2.1 o4.2.2.2.1 o4.2.2.2.2.1 o4.2.2.2.2.2.1 o4.2.2.2.2.2.2 v_shop_boxes v_shop_startsAt v_shop_facts v_shop_places)) ⟨hx, hb, hml, hown, hts⟩ (c_X3_bestOrder l D cy sa a_v_search a_v_search_bestPlaces a_v_search_draft a_v_search_draft_facts a_v_search_draft_places a_v_search_least a_v_shop a_v_shop_facts a_v_shop_places a_v_search_startsLeft v_search_bestPlaces v_search_draft_boxes v_search_draft_startsAt v_search_draft_facts v_search_draft_places v_search_least_at v_search_least_value v_shop_boxes v_shop_startsAt v_shop_facts v_shop_places o4 hc5) (cwV 1 hts gX9_best_X3_bestOrder rfl rfl rfl (by decide +kernel) ⟨Nat.le_of_ble_eq_true rfl, Nat.le_of_ble_eq_true rfl⟩) rfl rfl rfl hE hP hDD rfl hS [1, 2, 3, 4, 5, 6, 7, 8, 9] rfl rfl rfl rfl hl.1 (Nat.le_of_ble_eq_true rfl) ⟨Nat.zero_le _, Nat.zero_le _⟩ rfl dX9_best_36 rfl (fun H locs hP hS => ?_)
    refine lv_iload_n hx hb dX9_best_39 rfl (lv_at hl 1 rfl) ?_
    obtain ⟨hr6, h⟩ := chk_some h
    refine wi_if_ne (tgt := 54) hx hb dX9_best_40 (by decide) hr6 (fun c8 => ?_) (fun c8 => ?_)
    · have h := ite_f c8 h
      refine lv_aload_n hx hb dX9_best_54 rfl (lv_at hl 0 rfl) ?_
      refine wi_get (v := .ref a_v_search) hx hb hts iX9 hown hE hP 0 rfl rfl 6 (by decide) q0 rfl dX9_best_55 ?_
      refine lv_iload_n hx hb dX9_best_58 rfl (lv_at hl 2 rfl) ?_
      obtain ⟨o9, hc10, h⟩ := bnd_some h
      refine cV_i (rest := []) (w2 := (wd_X9_best cy a_v a_v_search a_v_search_bestPlaces a_v_search_draft a_v_search_draft_facts a_v_search_draft_places a_v_search_least a_v_shop a_v_shop_facts a_v_shop_places a_v_tape a_v_reader a_v_seen a_v_images a_v_sheets a_v_odds a_v_search_startsLeft v_lastFault v_lastTorn o4.1 o4.2.1 o4.2.2.1 o4.2.2.2.1 o4.2.2.2.2.1 o4.2.2.2.2.2.1 o4.2.2.2.2.2.2 v_shop_boxes v_shop_startsAt v_shop_facts v_shop_places)) ⟨hx, hb, hml, hown, hts⟩ (c_X3_bestBoxIn l D cy sa a_v_search a_v_search_bestPlaces a_v_search_draft a_v_search_least a_v_search_startsLeft o4.1 x2 o9 hc10) (cwV 1 hts gX9_best_X3_bestBoxIn rfl rfl rfl (by decide +kernel) ⟨Nat.le_of_ble_eq_true rfl, Nat.le_of_ble_eq_true rfl⟩) rfl rfl rfl hE hP hDD rfl hS [1, 2] rfl rfl rfl rfl hl.1 (Nat.le_of_ble_eq_true rfl) ⟨Nat.zero_le _, Nat.zero_le _⟩ rfl dX9_best_59 rfl (fun H locs hP hS => ?_)
      obtain rfl := Option.some.inj h
      exact KR _ _ _ _ hP hS dX9_best_62
    · have h := ite_t c8 h
      refine lv_aload_n hx hb dX9_best_43 rfl (lv_at hl 0 rfl) ?_
      refine wi_get (v := .ref a_v_search) hx hb hts iX9 hown hE hP 0 rfl rfl 6 (by decide) q0 rfl dX9_best_44 ?_
      refine wi_ic hx hb dX9_best_47 ?_
      obtain ⟨o11, hc12, h⟩ := bnd_some h
      refine cV_i (rest := []) (w2 := (wd_X9_best cy a_v a_v_search a_v_search_bestPlaces a_v_search_draft a_v_search_draft_facts a_v_search_draft_places a_v_search_least a_v_shop a_v_shop_facts a_v_shop_places a_v_tape a_v_reader a_v_seen a_v_images a_v_sheets a_v_odds a_v_search_startsLeft v_lastFault v_lastTorn o4.1 o4.2.1 o4.2.2.1 o4.2.2.2.1 o4.2.2.2.2.1 o4.2.2.2.2.2.1 o4.2.2.2.2.2.2 v_shop_boxes v_shop_startsAt v_shop_facts v_shop_places)) ⟨hx, hb, hml, hown, hts⟩ (c_X3_told l D cy sa a_v_search a_v_search_least a_v_search_draft a_v_search_bestPlaces a_v_search_startsLeft o4.2.2.2.2.2.1 o4.2.2.2.2.2.2 1 o11 hc12) (cwV 1 hts gX9_best_X3_told rfl rfl rfl (by decide +kernel) ⟨Nat.le_of_ble_eq_true rfl, Nat.le_of_ble_eq_true rfl⟩) rfl rfl rfl hE hP hDD rfl hS [1, 6] rfl rfl rfl rfl hl.1 (Nat.le_of_ble_eq_true rfl) ⟨Nat.zero_le _, Nat.zero_le _⟩ rfl dX9_best_48 rfl (fun H locs hP hS => ?_)
      refine lv_goto (tgt := 62) hx hb dX9_best_51 (by decide) ?_
      obtain rfl := Option.some.inj h
      exact KR _ _ _ _ hP hS dX9_best_62
  refine lv_iload_n hx hb dX9_best_0 rfl (lv_at hl 1 rfl) ?_
  refine wi_bi hx hb dX9_best_1 (by decide) ?_
  refine wi_isub hx hb dX9_best_3 ?_
  refine lv_istore_n (lv' := [(2, .int (zI (x1 - 10))), (0, .ref a_v), (1, .int (zI x1))]) hx hb dX9_best_4 rfl hl (by decide) rfl (fun ls hl => ?_)
  refine lv_iload_n hx hb dX9_best_5 rfl (lv_at hl 2 rfl) ?_
  obtain ⟨hr1, h⟩ := chk_some h
  refine wi_if_eq (tgt := 28) hx hb dX9_best_6 (by decide) hr1 (fun c3 => ?_) (fun c3 => ?_)
  · have h := ite_t c3 h
    exact B28 v_search_bestPlaces v_search_draft_boxes v_search_draft_startsAt v_search_draft_facts v_search_draft_places v_search_least_at v_search_least_value x1 (x1 - 10) _ _ _ hP hS (lv_sub hl [1, 2, 0] rfl) h
  · have h := ite_f c3 h
    refine lv_iload_n hx hb dX9_best_9 rfl (lv_at hl 2 rfl) ?_
    refine wi_bi hx hb dX9_best_10 (by decide) ?_
    refine wi_ic_lt (tgt := 26) hx hb dX9_best_12 (by decide) hr1 (by decide) (fun c14 => ?_) (fun c14 => ?_)
    · have h := ite_t c14 h
      refine wi_ic hx hb dX9_best_26 ?_
      obtain rfl := Option.some.inj h
      exact KR _ _ _ _ hP hS dX9_best_27
    · have h := ite_f c14 h
      refine lv_aload_n hx hb dX9_best_15 rfl (lv_at hl 1 rfl) ?_
      refine wi_get (v := .ref a_v_shop) hx hb hts iX9 hown hE hP 0 rfl rfl 2 (by decide) q1 rfl dX9_best_16 ?_
      refine lv_iload_n hx hb dX9_best_19 rfl (lv_at hl 0 rfl) ?_
      obtain ⟨o15, hc16, h⟩ := bnd_some h
      refine cV_i (rest := []) (w2 := (wd_X9_best cy a_v a_v_search a_v_search_bestPlaces a_v_search_draft a_v_search_draft_facts a_v_search_draft_places a_v_search_least a_v_shop a_v_shop_facts a_v_shop_places a_v_tape a_v_reader a_v_seen a_v_images a_v_sheets a_v_odds a_v_search_startsLeft v_lastFault v_lastTorn v_search_bestPlaces v_search_draft_boxes v_search_draft_startsAt v_search_draft_facts v_search_draft_places v_search_least_at v_search_least_value v_shop_boxes v_shop_startsAt v_shop_facts v_shop_places)) ⟨hx, hb, hml, hown, hts⟩ (c_X5_has l D cy sa a_v_shop a_v_shop_facts a_v_shop_places v_shop_boxes v_shop_startsAt (x1 - 10) o15 hc16) (cwV 1 hts gX9_best_X5_has rfl rfl rfl (by decide +kernel) ⟨Nat.le_of_ble_eq_true rfl, Nat.le_of_ble_eq_true rfl⟩) rfl rfl rfl hE hP hDD rfl hS [7] rfl rfl rfl rfl hl.1 (Nat.le_of_ble_eq_true rfl) ⟨Nat.zero_le _, Nat.zero_le _⟩ rfl dX9_best_20 rfl (fun H locs hP hS => ?_)
      obtain ⟨hr17, h⟩ := chk_some h
      refine wi_if_ne (tgt := 28) hx hb dX9_best_23 (by decide) hr17 (fun c19 => ?_) (fun c19 => ?_)
      · have h := ite_f c19 h
        exact B28 v_search_bestPlaces v_search_draft_boxes v_search_draft_startsAt v_search_draft_facts v_search_draft_places v_search_least_at v_search_least_value x1 (x1 - 10) _ _ _ hP hS (lv_sub hl [1, 2, 0] rfl) h
      · have h := ite_t c19 h
        refine wi_ic hx hb dX9_best_26 ?_
        obtain rfl := Option.some.inj h
        exact KR _ _ _ _ hP hS dX9_best_27
abbrev wd_X9_begin (cy : Nat → ClassId) (a_v : Nat) (a_v_search : Nat) (a_v_search_draft : Nat) (a_v_search_draft_facts : Nat) (a_v_search_draft_places : Nat) (a_v_search_least : Nat) (a_v_shop : Nat) (a_v_shop_facts : Nat) (a_v_shop_places : Nat) (a_v_tape : Nat) (a_v_reader : Nat) (a_v_seen : Nat) (a_v_images : Nat) (a_v_sheets : Nat) (a_v_odds : Nat) (a_v_search_bestPlaces : Nat) (a_v_search_startsLeft : Nat) (v_lastFault : Int) (v_lastTorn : Int) (v_search_draft_boxes : Int) (v_search_draft_startsAt : Int) (v_search_draft_facts : Nat → Int) (v_search_draft_places : Nat → Int) (v_search_least_at : Int) (v_search_least_value : Int) (v_shop_boxes : Int) (v_shop_startsAt : Int) (v_shop_facts : Nat → Int) (v_shop_places : Nat → Int) : va_W := [(a_v, .inr (9, [.ref a_v_tape, .ref a_v_reader, .ref a_v_shop, .ref a_v_seen, .ref a_v_images, .ref a_v_sheets, .ref a_v_search, .ref a_v_odds, .int (zI v_lastFault), .int (zI v_lastTorn)])), (a_v_search, .inr (3, [.ref a_v_search_draft, .ref a_v_search_least, .ref a_v_search_bestPlaces, .ref a_v_search_startsLeft])), (a_v_search_draft, .inr (5, [.ref a_v_search_draft_facts, .ref a_v_search_draft_places, .int (zI v_search_draft_boxes), .int (zI v_search_draft_startsAt)])), (a_v_search_draft_facts, .inl (cy 0, 30, .inl (fun j => zI (v_search_draft_facts j)))), (a_v_search_draft_places, .inl (cy 0, 5, .inl (fun j => zI (v_search_draft_places j)))), (a_v_search_least, .inr (1, [.int (zI v_search_least_at), .int (zI v_search_least_value)])), (a_v_shop, .inr (5, [.ref a_v_shop_facts, .ref a_v_shop_places, .int (zI v_shop_boxes), .int (zI v_shop_startsAt)])), (a_v_shop_facts, .inl (cy 0, 30, .inl (fun j => zI (v_shop_facts j)))), (a_v_shop_places, .inl (cy 0, 5, .inl (fun j => zI (v_shop_places j))))]
set_option maxHeartbeats 4000000 in
set_option maxRecDepth 100000 in
theorem c_X9_begin (l : Launch) (D : va_G) (cy : Nat → ClassId) (sa : Nat → Nat) (a_v : Nat) (a_v_search : Nat) (a_v_search_draft : Nat) (a_v_search_draft_facts : Nat) (a_v_search_draft_places : Nat) (a_v_search_least : Nat) (a_v_shop : Nat) (a_v_shop_facts : Nat) (a_v_shop_places : Nat) (a_v_tape : Nat) (a_v_reader : Nat) (a_v_seen : Nat) (a_v_images : Nat) (a_v_sheets : Nat) (a_v_odds : Nat) (a_v_search_bestPlaces : Nat) (a_v_search_startsLeft : Nat) (v_lastFault : Int) (v_lastTorn : Int) (v_search_draft_boxes : Int) (v_search_draft_startsAt : Int) (v_search_draft_facts : Nat → Int) (v_search_draft_places : Nat → Int) (v_search_least_at : Int) (v_search_least_value : Int) (v_shop_boxes : Int) (v_shop_startsAt : Int) (v_shop_facts : Nat → Int) (v_shop_places : Nat → Int) (x1 : Int) (o : Int × Int × Int × (Nat → Int) × (Nat → Int) × Int × Int) (h : f_HH_begin v_search_draft_boxes v_search_draft_startsAt v_search_draft_facts v_search_draft_places v_search_least_at v_search_least_value v_shop_boxes v_shop_startsAt v_shop_facts v_shop_places x1 = some o) : CtI l yX9_begin wsX9_begin ({ frames := 4, cells := 0, slots := 0, locals := 103 }) D cy sa [.ref a_v, .int (zI x1)] (wd_X9_begin cy a_v a_v_search a_v_search_draft a_v_search_draft_facts a_v_search_draft_places a_v_search_least a_v_shop a_v_shop_facts a_v_shop_places a_v_tape a_v_reader a_v_seen a_v_images a_v_sheets a_v_odds a_v_search_bestPlaces a_v_search_startsLeft v_lastFault v_lastTorn v_search_draft_boxes v_search_draft_startsAt v_search_draft_facts v_search_draft_places v_search_least_at v_search_least_value v_shop_boxes v_shop_startsAt v_shop_facts v_shop_places) (wd_X9_begin cy a_v a_v_search a_v_search_draft a_v_search_draft_facts a_v_search_draft_places a_v_search_least a_v_shop a_v_shop_facts a_v_shop_places a_v_tape a_v_reader a_v_seen a_v_images a_v_sheets a_v_odds a_v_search_bestPlaces a_v_search_startsLeft v_lastFault v_lastTorn o.2.1 o.2.2.1 o.2.2.2.1 o.2.2.2.2.1 o.2.2.2.2.2.1 o.2.2.2.2.2.2 v_shop_boxes v_shop_startsAt v_shop_facts v_shop_places) o.1 := by
  refine ct_I (cc := cX9_begin) (maxL := 2) (plainFor_of_name (by decide)) rfl (Nat.le_of_ble_eq_true rfl) ?_
  intro p e s m below meth c A args QQ hx hb hml hown hts hE hDD hP KR ls hl
  have hl : lv_has ls 2 [(0, .ref a_v), (1, .int (zI x1))] := hl
  have hDD : DD A [a_v, a_v_search, a_v_search_draft, a_v_search_draft_facts, a_v_search_draft_places, a_v_search_least, a_v_shop, a_v_shop_facts, a_v_shop_places] := hDD
  have hS : va_S A s.heap s.heap [] := va_S.rf
  have q0 := hts (.fieldLink RX9 56 "HatHours" "search" "LHatHours$Search;") (List.mem_of_getElem? (i := 1) rfl)
  have q1 := hts (.fieldLink RX9 28 "HatHours" "shop" "LHatHours$Shop;") (List.mem_of_getElem? (i := 2) rfl)
  have iX9 : ∀ w ∈ u_ws RX9 TX9 10, w ∈ wsX9_begin := in_slice 75 10 rfl
  refine lv_iload_n hx hb dX9_begin_0 rfl (lv_at hl 1 rfl) ?_
  obtain ⟨o1, hc2, h⟩ := bnd_some h
  refine cS_i (rest := []) (w2 := (wd_X9_begin cy a_v a_v_search a_v_search_draft a_v_search_draft_facts a_v_search_draft_places a_v_search_least a_v_shop a_v_shop_facts a_v_shop_places a_v_tape a_v_reader a_v_seen a_v_images a_v_sheets a_v_odds a_v_search_bestPlaces a_v_search_startsLeft v_lastFault v_lastTorn v_search_draft_boxes v_search_draft_startsAt v_search_draft_facts v_search_draft_places v_search_least_at v_search_least_value v_shop_boxes v_shop_startsAt v_shop_facts v_shop_places)) ⟨hx, hb, hml, hown, hts⟩ (c_X9_isEither l D cy sa x1 o1 hc2) (va_cwS 1 hts gX9_begin_X9_isEither rfl rfl rfl (by decide +kernel) ⟨Nat.le_of_ble_eq_true rfl, Nat.le_of_ble_eq_true rfl⟩) hE hP hDD rfl hS [] rfl rfl rfl rfl hl.1 (Nat.le_of_ble_eq_true rfl) ⟨Nat.zero_le _, Nat.zero_le _⟩ rfl dX9_begin_1 rfl (fun H locs hP hS => ?_)
  obtain ⟨hr3, h⟩ := chk_some h
  refine wi_if_ne (tgt := 9) hx hb dX9_begin_4 (by decide) hr3 (fun c5 => ?_) (fun c5 => ?_)
  · have h := ite_f c5 h
    refine lv_aload_n hx hb dX9_begin_9 rfl (lv_at hl 0 rfl) ?_
    refine wi_get (v := .ref a_v_search) hx hb hts iX9 hown hE hP 0 rfl rfl 6 (by decide) q0 rfl dX9_begin_10 ?_
    refine lv_aload_n hx hb dX9_begin_13 rfl (lv_at hl 0 rfl) ?_
    refine wi_get (v := .ref a_v_shop) hx hb hts iX9 hown hE hP 0 rfl rfl 2 (by decide) q1 rfl dX9_begin_14 ?_
    obtain ⟨o6, hc7, h⟩ := bnd_some h
    refine cV_v (rest := []) (w2 := (wd_X9_begin cy a_v a_v_search a_v_search_draft a_v_search_draft_facts a_v_search_draft_places a_v_search_least a_v_shop a_v_shop_facts a_v_shop_places a_v_tape a_v_reader a_v_seen a_v_images a_v_sheets a_v_odds a_v_search_bestPlaces a_v_search_startsLeft v_lastFault v_lastTorn o6.1 o6.2.1 o6.2.2.1 o6.2.2.2.1 o6.2.2.2.2.1 o6.2.2.2.2.2 v_shop_boxes v_shop_startsAt v_shop_facts v_shop_places)) ⟨hx, hb, hml, hown, hts⟩ (c_X3_bestStart l D cy sa a_v_search a_v_search_draft a_v_search_draft_facts a_v_search_draft_places a_v_search_least a_v_shop a_v_shop_facts a_v_shop_places a_v_search_bestPlaces a_v_search_startsLeft v_search_draft_boxes v_search_draft_startsAt v_search_draft_facts v_search_draft_places v_search_least_at v_search_least_value v_shop_boxes v_shop_startsAt v_shop_facts v_shop_places o6 hc7) (cwV 1 hts gX9_begin_X3_bestStart rfl rfl rfl (by decide +kernel) ⟨Nat.le_of_ble_eq_true rfl, Nat.le_of_ble_eq_true rfl⟩) rfl rfl rfl hE hP hDD rfl hS [1, 2, 3, 4, 5, 6, 7, 8] rfl rfl rfl rfl hl.1 (Nat.le_of_ble_eq_true rfl) ⟨Nat.zero_le _, Nat.zero_le _⟩ rfl dX9_begin_17 rfl (fun H locs hP hS => ?_)
    refine lv_aload_n hx hb dX9_begin_20 rfl (lv_at hl 0 rfl) ?_
    refine wi_get (v := .ref a_v_search) hx hb hts iX9 hown hE hP 0 rfl rfl 6 (by decide) q0 rfl dX9_begin_21 ?_
    refine lv_iload_n hx hb dX9_begin_24 rfl (lv_at hl 1 rfl) ?_
    obtain ⟨o8, hc9, h⟩ := bnd_some h
    refine cV_i (rest := []) (w2 := (wd_X9_begin cy a_v a_v_search a_v_search_draft a_v_search_draft_facts a_v_search_draft_places a_v_search_least a_v_shop a_v_shop_facts a_v_shop_places a_v_tape a_v_reader a_v_seen a_v_images a_v_sheets a_v_odds a_v_search_bestPlaces a_v_search_startsLeft v_lastFault v_lastTorn o6.1 o6.2.1 o6.2.2.1 o6.2.2.2.1 o6.2.2.2.2.1 o6.2.2.2.2.2 v_shop_boxes v_shop_startsAt v_shop_facts v_shop_places)) ⟨hx, hb, hml, hown, hts⟩ (c_X3_told l D cy sa a_v_search a_v_search_least a_v_search_draft a_v_search_bestPlaces a_v_search_startsLeft o6.2.2.2.2.1 o6.2.2.2.2.2 x1 o8 hc9) (cwV 1 hts gX9_begin_X3_told rfl rfl rfl (by decide +kernel) ⟨Nat.le_of_ble_eq_true rfl, Nat.le_of_ble_eq_true rfl⟩) rfl rfl rfl hE hP hDD rfl hS [1, 5] rfl rfl rfl rfl hl.1 (Nat.le_of_ble_eq_true rfl) ⟨Nat.zero_le _, Nat.zero_le _⟩ rfl dX9_begin_25 rfl (fun H locs hP hS => ?_)
    obtain rfl := Option.some.inj h
    exact KR _ _ _ _ hP hS dX9_begin_28
  · have h := ite_t c5 h
    refine wi_ic hx hb dX9_begin_7 ?_
    obtain rfl := Option.some.inj h
    exact KR _ _ _ _ hP hS dX9_begin_8
abbrev wd_X9_swap (cy : Nat → ClassId) (a_v : Nat) (a_v_search : Nat) (a_v_search_draft : Nat) (a_v_search_draft_facts : Nat) (a_v_search_draft_places : Nat) (a_v_search_least : Nat) (a_v_shop : Nat) (a_v_shop_facts : Nat) (a_v_shop_places : Nat) (a_v_tape : Nat) (a_v_reader : Nat) (a_v_seen : Nat) (a_v_images : Nat) (a_v_sheets : Nat) (a_v_odds : Nat) (a_v_search_bestPlaces : Nat) (a_v_search_startsLeft : Nat) (v_lastFault : Int) (v_lastTorn : Int) (v_search_draft_boxes : Int) (v_search_draft_startsAt : Int) (v_search_draft_facts : Nat → Int) (v_search_draft_places : Nat → Int) (v_search_least_at : Int) (v_search_least_value : Int) (v_shop_boxes : Int) (v_shop_startsAt : Int) (v_shop_facts : Nat → Int) (v_shop_places : Nat → Int) : va_W := [(a_v, .inr (9, [.ref a_v_tape, .ref a_v_reader, .ref a_v_shop, .ref a_v_seen, .ref a_v_images, .ref a_v_sheets, .ref a_v_search, .ref a_v_odds, .int (zI v_lastFault), .int (zI v_lastTorn)])), (a_v_search, .inr (3, [.ref a_v_search_draft, .ref a_v_search_least, .ref a_v_search_bestPlaces, .ref a_v_search_startsLeft])), (a_v_search_draft, .inr (5, [.ref a_v_search_draft_facts, .ref a_v_search_draft_places, .int (zI v_search_draft_boxes), .int (zI v_search_draft_startsAt)])), (a_v_search_draft_facts, .inl (cy 0, 30, .inl (fun j => zI (v_search_draft_facts j)))), (a_v_search_draft_places, .inl (cy 0, 5, .inl (fun j => zI (v_search_draft_places j)))), (a_v_search_least, .inr (1, [.int (zI v_search_least_at), .int (zI v_search_least_value)])), (a_v_shop, .inr (5, [.ref a_v_shop_facts, .ref a_v_shop_places, .int (zI v_shop_boxes), .int (zI v_shop_startsAt)])), (a_v_shop_facts, .inl (cy 0, 30, .inl (fun j => zI (v_shop_facts j)))), (a_v_shop_places, .inl (cy 0, 5, .inl (fun j => zI (v_shop_places j))))]
set_option maxHeartbeats 4000000 in
set_option maxRecDepth 100000 in
theorem c_X9_swap (l : Launch) (D : va_G) (cy : Nat → ClassId) (sa : Nat → Nat) (a_v : Nat) (a_v_search : Nat) (a_v_search_draft : Nat) (a_v_search_draft_facts : Nat) (a_v_search_draft_places : Nat) (a_v_search_least : Nat) (a_v_shop : Nat) (a_v_shop_facts : Nat) (a_v_shop_places : Nat) (a_v_tape : Nat) (a_v_reader : Nat) (a_v_seen : Nat) (a_v_images : Nat) (a_v_sheets : Nat) (a_v_odds : Nat) (a_v_search_bestPlaces : Nat) (a_v_search_startsLeft : Nat) (v_lastFault : Int) (v_lastTorn : Int) (v_search_draft_boxes : Int) (v_search_draft_startsAt : Int) (v_search_draft_facts : Nat → Int) (v_search_draft_places : Nat → Int) (v_search_least_at : Int) (v_search_least_value : Int) (v_shop_boxes : Int) (v_shop_startsAt : Int) (v_shop_facts : Nat → Int) (v_shop_places : Nat → Int) (x1 : Int) (o : Int × Int × Int × (Nat → Int) × (Nat → Int) × Int × Int) (h : f_HH_swap v_search_draft_boxes v_search_draft_startsAt v_search_draft_facts v_search_draft_places v_search_least_at v_search_least_value v_shop_boxes v_shop_startsAt v_shop_facts v_shop_places x1 = some o) : CtI l yX9_swap wsX9_swap ({ frames := 4, cells := 0, slots := 0, locals := 104 }) D cy sa [.ref a_v, .int (zI x1)] (wd_X9_swap cy a_v a_v_search a_v_search_draft a_v_search_draft_facts a_v_search_draft_places a_v_search_least a_v_shop a_v_shop_facts a_v_shop_places a_v_tape a_v_reader a_v_seen a_v_images a_v_sheets a_v_odds a_v_search_bestPlaces a_v_search_startsLeft v_lastFault v_lastTorn v_search_draft_boxes v_search_draft_startsAt v_search_draft_facts v_search_draft_places v_search_least_at v_search_least_value v_shop_boxes v_shop_startsAt v_shop_facts v_shop_places) (wd_X9_swap cy a_v a_v_search a_v_search_draft a_v_search_draft_facts a_v_search_draft_places a_v_search_least a_v_shop a_v_shop_facts a_v_shop_places a_v_tape a_v_reader a_v_seen a_v_images a_v_sheets a_v_odds a_v_search_bestPlaces a_v_search_startsLeft v_lastFault v_lastTorn o.2.1 o.2.2.1 o.2.2.2.1 o.2.2.2.2.1 o.2.2.2.2.2.1 o.2.2.2.2.2.2 v_shop_boxes v_shop_startsAt v_shop_facts v_shop_places) o.1 := by
  refine ct_I (cc := cX9_swap) (maxL := 2) (plainFor_of_name (by decide)) rfl (Nat.le_of_ble_eq_true rfl) ?_
  intro p e s m below meth c A args QQ hx hb hml hown hts hE hDD hP KR ls hl
  have hl : lv_has ls 2 [(0, .ref a_v), (1, .int (zI x1))] := hl
  have hDD : DD A [a_v, a_v_search, a_v_search_draft, a_v_search_draft_facts, a_v_search_draft_places, a_v_search_least, a_v_shop, a_v_shop_facts, a_v_shop_places] := hDD
  have hS : va_S A s.heap s.heap [] := va_S.rf
  have q0 := hts (.fieldLink RX9 56 "HatHours" "search" "LHatHours$Search;") (List.mem_of_getElem? (i := 1) rfl)
  have q1 := hts (.fieldLink RX9 28 "HatHours" "shop" "LHatHours$Shop;") (List.mem_of_getElem? (i := 2) rfl)
  have iX9 : ∀ w ∈ u_ws RX9 TX9 10, w ∈ wsX9_swap := in_slice 82 10 rfl
  refine lv_iload_n hx hb dX9_swap_0 rfl (lv_at hl 1 rfl) ?_
  obtain ⟨o1, hc2, h⟩ := bnd_some h
  refine cS_i (rest := []) (w2 := (wd_X9_swap cy a_v a_v_search a_v_search_draft a_v_search_draft_facts a_v_search_draft_places a_v_search_least a_v_shop a_v_shop_facts a_v_shop_places a_v_tape a_v_reader a_v_seen a_v_images a_v_sheets a_v_odds a_v_search_bestPlaces a_v_search_startsLeft v_lastFault v_lastTorn v_search_draft_boxes v_search_draft_startsAt v_search_draft_facts v_search_draft_places v_search_least_at v_search_least_value v_shop_boxes v_shop_startsAt v_shop_facts v_shop_places)) ⟨hx, hb, hml, hown, hts⟩ (c_X9_isEither l D cy sa x1 o1 hc2) (va_cwS 1 hts gX9_swap_X9_isEither rfl rfl rfl (by decide +kernel) ⟨Nat.le_of_ble_eq_true rfl, Nat.le_of_ble_eq_true rfl⟩) hE hP hDD rfl hS [] rfl rfl rfl rfl hl.1 (Nat.le_of_ble_eq_true rfl) ⟨Nat.zero_le _, Nat.zero_le _⟩ rfl dX9_swap_1 rfl (fun H locs hP hS => ?_)
  obtain ⟨hr3, h⟩ := chk_some h
  refine wi_if_ne (tgt := 9) hx hb dX9_swap_4 (by decide) hr3 (fun c5 => ?_) (fun c5 => ?_)
  · have h := ite_f c5 h
    refine lv_aload_n hx hb dX9_swap_9 rfl (lv_at hl 0 rfl) ?_
    refine wi_get (v := .ref a_v_search) hx hb hts iX9 hown hE hP 0 rfl rfl 6 (by decide) q0 rfl dX9_swap_10 ?_
    refine lv_aload_n hx hb dX9_swap_13 rfl (lv_at hl 0 rfl) ?_
    refine wi_get (v := .ref a_v_shop) hx hb hts iX9 hown hE hP 0 rfl rfl 2 (by decide) q1 rfl dX9_swap_14 ?_
    obtain ⟨o6, hc7, h⟩ := bnd_some h
    refine cV_v (rest := []) (w2 := (wd_X9_swap cy a_v a_v_search a_v_search_draft a_v_search_draft_facts a_v_search_draft_places a_v_search_least a_v_shop a_v_shop_facts a_v_shop_places a_v_tape a_v_reader a_v_seen a_v_images a_v_sheets a_v_odds a_v_search_bestPlaces a_v_search_startsLeft v_lastFault v_lastTorn o6.1 o6.2.1 o6.2.2.1 o6.2.2.2.1 o6.2.2.2.2.1 o6.2.2.2.2.2 v_shop_boxes v_shop_startsAt v_shop_facts v_shop_places)) ⟨hx, hb, hml, hown, hts⟩ (c_X3_bestExchange l D cy sa a_v_search a_v_search_draft a_v_search_draft_facts a_v_search_draft_places a_v_search_least a_v_shop a_v_shop_facts a_v_shop_places a_v_search_bestPlaces a_v_search_startsLeft v_search_draft_boxes v_search_draft_startsAt v_search_draft_facts v_search_draft_places v_search_least_at v_search_least_value v_shop_boxes v_shop_startsAt v_shop_facts v_shop_places o6 hc7) (cwV 1 hts gX9_swap_X3_bestExchange rfl rfl rfl (by decide +kernel) ⟨Nat.le_of_ble_eq_true rfl, Nat.le_of_ble_eq_true rfl⟩) rfl rfl rfl hE hP hDD rfl hS [1, 2, 3, 4, 5, 6, 7, 8] rfl rfl rfl rfl hl.1 (Nat.le_of_ble_eq_true rfl) ⟨Nat.zero_le _, Nat.zero_le _⟩ rfl dX9_swap_17 rfl (fun H locs hP hS => ?_)
    refine lv_aload_n hx hb dX9_swap_20 rfl (lv_at hl 0 rfl) ?_
    refine wi_get (v := .ref a_v_search) hx hb hts iX9 hown hE hP 0 rfl rfl 6 (by decide) q0 rfl dX9_swap_21 ?_
    refine lv_iload_n hx hb dX9_swap_24 rfl (lv_at hl 1 rfl) ?_
    obtain ⟨o8, hc9, h⟩ := bnd_some h
    refine cV_i (rest := []) (w2 := (wd_X9_swap cy a_v a_v_search a_v_search_draft a_v_search_draft_facts a_v_search_draft_places a_v_search_least a_v_shop a_v_shop_facts a_v_shop_places a_v_tape a_v_reader a_v_seen a_v_images a_v_sheets a_v_odds a_v_search_bestPlaces a_v_search_startsLeft v_lastFault v_lastTorn o6.1 o6.2.1 o6.2.2.1 o6.2.2.2.1 o6.2.2.2.2.1 o6.2.2.2.2.2 v_shop_boxes v_shop_startsAt v_shop_facts v_shop_places)) ⟨hx, hb, hml, hown, hts⟩ (c_X3_told l D cy sa a_v_search a_v_search_least a_v_search_draft a_v_search_bestPlaces a_v_search_startsLeft o6.2.2.2.2.1 o6.2.2.2.2.2 x1 o8 hc9) (cwV 1 hts gX9_swap_X3_told rfl rfl rfl (by decide +kernel) ⟨Nat.le_of_ble_eq_true rfl, Nat.le_of_ble_eq_true rfl⟩) rfl rfl rfl hE hP hDD rfl hS [1, 5] rfl rfl rfl rfl hl.1 (Nat.le_of_ble_eq_true rfl) ⟨Nat.zero_le _, Nat.zero_le _⟩ rfl dX9_swap_25 rfl (fun H locs hP hS => ?_)
    obtain rfl := Option.some.inj h
    exact KR _ _ _ _ hP hS dX9_swap_28
  · have h := ite_t c5 h
    refine wi_ic hx hb dX9_swap_7 ?_
    obtain rfl := Option.some.inj h
    exact KR _ _ _ _ hP hS dX9_swap_8
