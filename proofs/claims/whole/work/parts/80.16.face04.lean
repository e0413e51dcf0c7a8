abbrev wd_X9_back (cy : Nat → ClassId) (a_v : Nat) (a_v_images : Nat) (a_v_images0 : Nat) (a_v_images0_seen : Nat) (a_v_images0_seen_hours : Nat) (a_v_images0_seen_oclocks : Nat) (a_v_images0_seen_rooms : Nat) (a_v_images0_shop : Nat) (a_v_images0_shop_facts : Nat) (a_v_images0_shop_places : Nat) (a_v_images1 : Nat) (a_v_images1_seen : Nat) (a_v_images1_seen_hours : Nat) (a_v_images1_seen_oclocks : Nat) (a_v_images1_seen_rooms : Nat) (a_v_images1_shop : Nat) (a_v_images1_shop_facts : Nat) (a_v_images1_shop_places : Nat) (a_v_seen : Nat) (a_v_seen_hours : Nat) (a_v_seen_oclocks : Nat) (a_v_seen_rooms : Nat) (a_v_shop : Nat) (a_v_shop_facts : Nat) (a_v_shop_places : Nat) (a_v_tape : Nat) (a_v_reader : Nat) (a_v_sheets : Nat) (a_v_search : Nat) (a_v_odds : Nat) (v_lastFault : Int) (v_lastTorn : Int) (v_images0_there : Int) (v_images0_seen_used : Int) (v_images0_seen_hours : Nat → Int) (v_images0_seen_oclocks : Nat → Int) (v_images0_seen_rooms : Nat → Int) (v_images0_shop_boxes : Int) (v_images0_shop_startsAt : Int) (v_images0_shop_facts : Nat → Int) (v_images0_shop_places : Nat → Int) (v_images1_there : Int) (v_images1_seen_used : Int) (v_images1_seen_hours : Nat → Int) (v_images1_seen_oclocks : Nat → Int) (v_images1_seen_rooms : Nat → Int) (v_images1_shop_boxes : Int) (v_images1_shop_startsAt : Int) (v_images1_shop_facts : Nat → Int) (v_images1_shop_places : Nat → Int) (v_seen_used : Int) (v_seen_hours : Nat → Int) (v_seen_oclocks : Nat → Int) (v_seen_rooms : Nat → Int) (v_shop_boxes : Int) (v_shop_startsAt : Int) (v_shop_facts : Nat → Int) (v_shop_places : Nat → Int) : va_W := [(a_v, .inr (9, [.ref a_v_tape, .ref a_v_reader, .ref a_v_shop, .ref a_v_seen, .ref a_v_images, .ref a_v_sheets, .ref a_v_search, .ref a_v_odds, .int (zI v_lastFault), .int (zI v_lastTorn)])), (a_v_images, .inl (cy 4, 2, .inr (.inr (.inr (.inr (imF a_v_images0 a_v_images1)))))), (a_v_images0, .inr (0, [.ref a_v_images0_shop, .ref a_v_images0_seen, .int (zI v_images0_there)])), (a_v_images0_seen, .inr (6, [.ref a_v_images0_seen_rooms, .ref a_v_images0_seen_hours, .ref a_v_images0_seen_oclocks, .int (zI v_images0_seen_used)])), (a_v_images0_seen_hours, .inl (cy 0, 6, .inl (fun j => zI (v_images0_seen_hours j)))), (a_v_images0_seen_oclocks, .inl (cy 0, 6, .inl (fun j => zI (v_images0_seen_oclocks j)))), (a_v_images0_seen_rooms, .inl (cy 0, 6, .inl (fun j => zI (v_images0_seen_rooms j)))), (a_v_images0_shop, .inr (5, [.ref a_v_images0_shop_facts, .ref a_v_images0_shop_places, .int (zI v_images0_shop_boxes), .int (zI v_images0_shop_startsAt)])), (a_v_images0_shop_facts, .inl (cy 0, 30, .inl (fun j => zI (v_images0_shop_facts j)))), (a_v_images0_shop_places, .inl (cy 0, 5, .inl (fun j => zI (v_images0_shop_places j)))), (a_v_images1, .inr (0, [.ref a_v_images1_shop, .ref a_v_images1_seen, .int (zI v_images1_there)])), (a_v_images1_seen, .inr (6, [.ref a_v_images1_seen_rooms, .ref a_v_images1_seen_hours, .ref a_v_images1_seen_oclocks, .int (zI v_images1_seen_used)])), (a_v_images1_seen_hours, .inl (cy 0, 6, .inl (fun j => zI (v_images1_seen_hours j)))), (a_v_images1_seen_oclocks, .inl (cy 0, 6, .inl (fun j => zI (v_images1_seen_oclocks j)))), (a_v_images1_seen_rooms, .inl (cy 0, 6, .inl (fun j => zI (v_images1_seen_rooms j)))), (a_v_images1_shop, .inr (5, [.ref a_v_images1_shop_facts, .ref a_v_images1_shop_places, .int (zI v_images1_shop_boxes), .int (zI v_images1_shop_startsAt)])), (a_v_images1_shop_facts, .inl (cy 0, 30, .inl (fun j => zI (v_images1_shop_facts j)))), (a_v_images1_shop_places, .inl (cy 0, 5, .inl (fun j => zI (v_images1_shop_places j)))), (a_v_seen, .inr (6, [.ref a_v_seen_rooms, .ref a_v_seen_hours, .ref a_v_seen_oclocks, .int (zI v_seen_used)])), (a_v_seen_hours, .inl (cy 0, 6, .inl (fun j => zI (v_seen_hours j)))), (a_v_seen_oclocks, .inl (cy 0, 6, .inl (fun j => zI (v_seen_oclocks j)))), (a_v_seen_rooms, .inl (cy 0, 6, .inl (fun j => zI (v_seen_rooms j)))), (a_v_shop, .inr (5, [.ref a_v_shop_facts, .ref a_v_shop_places, .int (zI v_shop_boxes), .int (zI v_shop_startsAt)])), (a_v_shop_facts, .inl (cy 0, 30, .inl (fun j => zI (v_shop_facts j)))), (a_v_shop_places, .inl (cy 0, 5, .inl (fun j => zI (v_shop_places j))))]
set_option maxHeartbeats 4000000 in
set_option maxRecDepth 100000 in
theorem c_X9_back (l : Launch) (D : va_G) (cy : Nat → ClassId) (sa : Nat → Nat) (a_v : Nat) (a_v_images : Nat) (a_v_images0 : Nat) (a_v_images0_seen : Nat) (a_v_images0_seen_hours : Nat) (a_v_images0_seen_oclocks : Nat) (a_v_images0_seen_rooms : Nat) (a_v_images0_shop : Nat) (a_v_images0_shop_facts : Nat) (a_v_images0_shop_places : Nat) (a_v_images1 : Nat) (a_v_images1_seen : Nat) (a_v_images1_seen_hours : Nat) (a_v_images1_seen_oclocks : Nat) (a_v_images1_seen_rooms : Nat) (a_v_images1_shop : Nat) (a_v_images1_shop_facts : Nat) (a_v_images1_shop_places : Nat) (a_v_seen : Nat) (a_v_seen_hours : Nat) (a_v_seen_oclocks : Nat) (a_v_seen_rooms : Nat) (a_v_shop : Nat) (a_v_shop_facts : Nat) (a_v_shop_places : Nat) (a_v_tape : Nat) (a_v_reader : Nat) (a_v_sheets : Nat) (a_v_search : Nat) (a_v_odds : Nat) (v_lastFault : Int) (v_lastTorn : Int) (v_images0_there : Int) (v_images0_seen_used : Int) (v_images0_seen_hours : Nat → Int) (v_images0_seen_oclocks : Nat → Int) (v_images0_seen_rooms : Nat → Int) (v_images0_shop_boxes : Int) (v_images0_shop_startsAt : Int) (v_images0_shop_facts : Nat → Int) (v_images0_shop_places : Nat → Int) (v_images1_there : Int) (v_images1_seen_used : Int) (v_images1_seen_hours : Nat → Int) (v_images1_seen_oclocks : Nat → Int) (v_images1_seen_rooms : Nat → Int) (v_images1_shop_boxes : Int) (v_images1_shop_startsAt : Int) (v_images1_shop_facts : Nat → Int) (v_images1_shop_places : Nat → Int) (v_seen_used : Int) (v_seen_hours : Nat → Int) (v_seen_oclocks : Nat → Int) (v_seen_rooms : Nat → Int) (v_shop_boxes : Int) (v_shop_startsAt : Int) (v_shop_facts : Nat → Int) (v_shop_places : Nat → Int) (x1 : Int) (o : Int × Int × (Nat → Int) × (Nat → Int) × (Nat → Int) × Int × Int × (Nat → Int) × (Nat → Int)) (h : f_HH_back v_images0_there v_images0_seen_used v_images0_seen_hours v_images0_seen_oclocks v_images0_seen_rooms v_images0_shop_boxes v_images0_shop_startsAt v_images0_shop_facts v_images0_shop_places v_images1_there v_images1_seen_used v_images1_seen_hours v_images1_seen_oclocks v_images1_seen_rooms v_images1_shop_boxes v_images1_shop_startsAt v_images1_shop_facts v_images1_shop_places v_seen_used v_seen_hours v_seen_oclocks v_seen_rooms v_shop_boxes v_shop_startsAt v_shop_facts v_shop_places x1 = some o) : CtI l yX9_back wsX9_back ({ frames := 3, cells := 0, slots := 0, locals := 103 }) D cy sa [.ref a_v, .int (zI x1)] (wd_X9_back cy a_v a_v_images a_v_images0 a_v_images0_seen a_v_images0_seen_hours a_v_images0_seen_oclocks a_v_images0_seen_rooms a_v_images0_shop a_v_images0_shop_facts a_v_images0_shop_places a_v_images1 a_v_images1_seen a_v_images1_seen_hours a_v_images1_seen_oclocks a_v_images1_seen_rooms a_v_images1_shop a_v_images1_shop_facts a_v_images1_shop_places a_v_seen a_v_seen_hours a_v_seen_oclocks a_v_seen_rooms a_v_shop a_v_shop_facts a_v_shop_places a_v_tape a_v_reader a_v_sheets a_v_search a_v_odds v_lastFault v_lastTorn v_images0_there v_images0_seen_used v_images0_seen_hours v_images0_seen_oclocks v_images0_seen_rooms v_images0_shop_boxes v_images0_shop_startsAt v_images0_shop_facts v_images0_shop_places v_images1_there v_images1_seen_used v_images1_seen_hours v_images1_seen_oclocks v_images1_seen_rooms v_images1_shop_boxes v_images1_shop_startsAt v_images1_shop_facts v_images1_shop_places v_seen_used v_seen_hours v_seen_oclocks v_seen_rooms v_shop_boxes v_shop_startsAt v_shop_facts v_shop_places) (wd_X9_back cy a_v a_v_images a_v_images0 a_v_images0_seen a_v_images0_seen_hours a_v_images0_seen_oclocks a_v_images0_seen_rooms a_v_images0_shop a_v_images0_shop_facts a_v_images0_shop_places a_v_images1 a_v_images1_seen a_v_images1_seen_hours a_v_images1_seen_oclocks a_v_images1_seen_rooms a_v_images1_shop a_v_images1_shop_facts a_v_images1_shop_places a_v_seen a_v_seen_hours a_v_seen_oclocks a_v_seen_rooms a_v_shop a_v_shop_facts a_v_shop_places a_v_tape a_v_reader a_v_sheets a_v_search a_v_odds v_lastFault v_lastTorn v_images0_there v_images0_seen_used v_images0_seen_hours v_images0_seen_oclocks v_images0_seen_rooms v_images0_shop_boxes v_images0_shop_startsAt v_images0_shop_facts v_images0_shop_places v_images1_there v_images1_seen_used v_images1_seen_hours v_images1_seen_oclocks v_images1_seen_rooms v_images1_shop_boxes v_images1_shop_startsAt v_images1_shop_facts v_images1_shop_places o.2.1 o.2.2.1 o.2.2.2.1 o.2.2.2.2.1 o.2.2.2.2.2.1 o.2.2.2.2.2.2.1 o.2.2.2.2.2.2.2.1 o.2.2.2.2.2.2.2.2) o.1 := by
  refine ct_I (cc := cX9_back) (maxL := 2) (plainFor_of_name (by decide)) rfl (Nat.le_of_ble_eq_true rfl) ?_
  intro p e s m below meth c A args QQ hx hb hml hown hts hE hDD hP KR ls hl
  have hl : lv_has ls 2 [(0, .ref a_v), (1, .int (zI x1))] := hl
  have hDD : DD A [a_v, a_v_images, a_v_images0, a_v_images0_seen, a_v_images0_seen_hours, a_v_images0_seen_oclocks, a_v_images0_seen_rooms, a_v_images0_shop, a_v_images0_shop_facts, a_v_images0_shop_places, a_v_images1, a_v_images1_seen, a_v_images1_seen_hours, a_v_images1_seen_oclocks, a_v_images1_seen_rooms, a_v_images1_shop, a_v_images1_shop_facts, a_v_images1_shop_places, a_v_seen, a_v_seen_hours, a_v_seen_oclocks, a_v_seen_rooms, a_v_shop, a_v_shop_facts, a_v_shop_places] := hDD
  have hS : va_S A s.heap s.heap [] := va_S.rf
  have q0 := hts (.fieldLink RX9 42 "HatHours" "images" "[LHatHours$Image;") (List.mem_of_getElem? (i := 1) rfl)
  have q1 := hts (.fieldLink RX9 28 "HatHours" "shop" "LHatHours$Shop;") (List.mem_of_getElem? (i := 2) rfl)
  have q2 := hts (.fieldLink RX9 35 "HatHours" "seen" "LHatHours$Sightings;") (List.mem_of_getElem? (i := 3) rfl)
  have iX9 : ∀ w ∈ u_ws RX9 TX9 10, w ∈ wsX9_back := in_slice 47 10 rfl
  refine lv_iload_n hx hb dX9_back_0 rfl (lv_at hl 1 rfl) ?_
  obtain ⟨o1, hc2, h⟩ := bnd_some h
  refine cS_i (rest := []) (w2 := (wd_X9_back cy a_v a_v_images a_v_images0 a_v_images0_seen a_v_images0_seen_hours a_v_images0_seen_oclocks a_v_images0_seen_rooms a_v_images0_shop a_v_images0_shop_facts a_v_images0_shop_places a_v_images1 a_v_images1_seen a_v_images1_seen_hours a_v_images1_seen_oclocks a_v_images1_seen_rooms a_v_images1_shop a_v_images1_shop_facts a_v_images1_shop_places a_v_seen a_v_seen_hours a_v_seen_oclocks a_v_seen_rooms a_v_shop a_v_shop_facts a_v_shop_places a_v_tape a_v_reader a_v_sheets a_v_search a_v_odds v_lastFault v_lastTorn v_images0_there v_images0_seen_used v_images0_seen_hours v_images0_seen_oclocks v_images0_seen_rooms v_images0_shop_boxes v_images0_shop_startsAt v_images0_shop_facts v_images0_shop_places v_images1_there v_images1_seen_used v_images1_seen_hours v_images1_seen_oclocks v_images1_seen_rooms v_images1_shop_boxes v_images1_shop_startsAt v_images1_shop_facts v_images1_shop_places v_seen_used v_seen_hours v_seen_oclocks v_seen_rooms v_shop_boxes v_shop_startsAt v_shop_facts v_shop_places)) ⟨hx, hb, hml, hown, hts⟩ (c_X9_isEither l D cy sa x1 o1 hc2) (va_cwS 1 hts gX9_back_X9_isEither rfl rfl rfl (by decide +kernel) ⟨Nat.le_of_ble_eq_true rfl, Nat.le_of_ble_eq_true rfl⟩) hE hP hDD rfl hS [] rfl rfl rfl rfl hl.1 (Nat.le_of_ble_eq_true rfl) ⟨Nat.zero_le _, Nat.zero_le _⟩ rfl dX9_back_1 rfl (fun H locs hP hS => ?_)
  obtain ⟨hr3, h⟩ := chk_some h
  refine wi_if_ne (tgt := 9) hx hb dX9_back_4 (by decide) hr3 (fun c5 => ?_) (fun c5 => ?_)
  · have h := ite_f c5 h
    refine lv_aload_n hx hb dX9_back_9 rfl (lv_at hl 0 rfl) ?_
    refine wi_get (v := .ref a_v_images) hx hb hts iX9 hown hE hP 0 rfl rfl 4 (by decide) q0 rfl dX9_back_10 ?_
    refine lv_iload_n hx hb dX9_back_13 rfl (lv_at hl 1 rfl) ?_
    obtain ⟨hk6, h⟩ := chk_some h
    refine wi_ald hx hb hE hP 1 rfl hk6 dX9_back_14 (fun c1 => ?_) (fun c1 => ?_)
    · have h := ite_t c1 h
      obtain ⟨o7, hc8, h⟩ := bnd_some h
      refine cV_i (rest := []) (w2 := (wd_X9_back cy a_v a_v_images a_v_images0 a_v_images0_seen a_v_images0_seen_hours a_v_images0_seen_oclocks a_v_images0_seen_rooms a_v_images0_shop a_v_images0_shop_facts a_v_images0_shop_places a_v_images1 a_v_images1_seen a_v_images1_seen_hours a_v_images1_seen_oclocks a_v_images1_seen_rooms a_v_images1_shop a_v_images1_shop_facts a_v_images1_shop_places a_v_seen a_v_seen_hours a_v_seen_oclocks a_v_seen_rooms a_v_shop a_v_shop_facts a_v_shop_places a_v_tape a_v_reader a_v_sheets a_v_search a_v_odds v_lastFault v_lastTorn v_images0_there v_images0_seen_used v_images0_seen_hours v_images0_seen_oclocks v_images0_seen_rooms v_images0_shop_boxes v_images0_shop_startsAt v_images0_shop_facts v_images0_shop_places v_images1_there v_images1_seen_used v_images1_seen_hours v_images1_seen_oclocks v_images1_seen_rooms v_images1_shop_boxes v_images1_shop_startsAt v_images1_shop_facts v_images1_shop_places v_seen_used v_seen_hours v_seen_oclocks v_seen_rooms v_shop_boxes v_shop_startsAt v_shop_facts v_shop_places)) ⟨hx, hb, hml, hown, hts⟩ (c_X0_isThere l D cy sa a_v_images0 a_v_images0_shop a_v_images0_seen v_images0_there o7 hc8) (cwV 0 hts gX9_back_X0_isThere rfl rfl rfl (by decide +kernel) ⟨Nat.le_of_ble_eq_true rfl, Nat.le_of_ble_eq_true rfl⟩) rfl rfl rfl hE hP hDD rfl hS [2] rfl rfl rfl rfl hl.1 (Nat.le_of_ble_eq_true rfl) ⟨Nat.zero_le _, Nat.zero_le _⟩ rfl dX9_back_15 rfl (fun H locs hP hS => ?_)
      obtain ⟨hr9, h⟩ := chk_some h
      refine wi_if_ne (tgt := 24) hx hb dX9_back_18 (by decide) hr9 (fun c11 => ?_) (fun c11 => ?_)
      · have h := ite_f c11 h
        refine lv_aload_n hx hb dX9_back_24 rfl (lv_at hl 0 rfl) ?_
        refine wi_get (v := .ref a_v_images) hx hb hts iX9 hown hE hP 0 rfl rfl 4 (by decide) q0 rfl dX9_back_25 ?_
        refine lv_iload_n hx hb dX9_back_28 rfl (lv_at hl 1 rfl) ?_
        refine wi_ald hx hb hE hP 1 rfl hk6 dX9_back_29 (fun c1 => ?_) (fun c1 => ?_)
        · have h := ite_t c1 h
          refine lv_aload_n hx hb dX9_back_30 rfl (lv_at hl 0 rfl) ?_
          refine wi_get (v := .ref a_v_shop) hx hb hts iX9 hown hE hP 0 rfl rfl 2 (by decide) q1 rfl dX9_back_31 ?_
          refine lv_aload_n hx hb dX9_back_34 rfl (lv_at hl 0 rfl) ?_
          refine wi_get (v := .ref a_v_seen) hx hb hts iX9 hown hE hP 0 rfl rfl 3 (by decide) q2 rfl dX9_back_35 ?_
          obtain ⟨o12, hc13, h⟩ := bnd_some h
          refine cV_v (rest := []) (w2 := (wd_X9_back cy a_v a_v_images a_v_images0 a_v_images0_seen a_v_images0_seen_hours a_v_images0_seen_oclocks a_v_images0_seen_rooms a_v_images0_shop a_v_images0_shop_facts a_v_images0_shop_places a_v_images1 a_v_images1_seen a_v_images1_seen_hours a_v_images1_seen_oclocks a_v_images1_seen_rooms a_v_images1_shop a_v_images1_shop_facts a_v_images1_shop_places a_v_seen a_v_seen_hours a_v_seen_oclocks a_v_seen_rooms a_v_shop a_v_shop_facts a_v_shop_places a_v_tape a_v_reader a_v_sheets a_v_search a_v_odds v_lastFault v_lastTorn v_images0_there v_images0_seen_used v_images0_seen_hours v_images0_seen_oclocks v_images0_seen_rooms v_images0_shop_boxes v_images0_shop_startsAt v_images0_shop_facts v_images0_shop_places v_images1_there v_images1_seen_used v_images1_seen_hours v_images1_seen_oclocks v_images1_seen_rooms v_images1_shop_boxes v_images1_shop_startsAt v_images1_shop_facts v_images1_shop_places o12.2.2.2.2.1 o12.2.2.2.2.2.1 o12.2.2.2.2.2.2.1 o12.2.2.2.2.2.2.2 o12.1 o12.2.1 o12.2.2.1 o12.2.2.2.1)) ⟨hx, hb, hml, hown, hts⟩ (c_X0_giveBack l D cy sa a_v_images0 a_v_images0_seen a_v_images0_seen_hours a_v_images0_seen_oclocks a_v_images0_seen_rooms a_v_images0_shop a_v_images0_shop_facts a_v_images0_shop_places a_v_shop a_v_shop_facts a_v_shop_places a_v_seen a_v_seen_hours a_v_seen_oclocks a_v_seen_rooms v_images0_there v_images0_seen_used v_images0_seen_hours v_images0_seen_oclocks v_images0_seen_rooms v_images0_shop_boxes v_images0_shop_startsAt v_images0_shop_facts v_images0_shop_places v_shop_boxes v_shop_startsAt v_shop_facts v_shop_places v_seen_used v_seen_hours v_seen_oclocks v_seen_rooms o12 hc13) (cwV 2 hts gX9_back_X0_giveBack rfl rfl rfl (by decide +kernel) ⟨Nat.le_of_ble_eq_true rfl, Nat.le_of_ble_eq_true rfl⟩) rfl rfl rfl hE hP hDD rfl hS [2, 3, 4, 5, 6, 7, 8, 9, 22, 23, 24, 18, 19, 20, 21] rfl rfl rfl rfl hl.1 (Nat.le_of_ble_eq_true rfl) ⟨Nat.zero_le _, Nat.zero_le _⟩ rfl dX9_back_38 rfl (fun H locs hP hS => ?_)
          refine lv_aload_n hx hb dX9_back_41 rfl (lv_at hl 0 rfl) ?_
          refine wi_get (v := .ref a_v_shop) hx hb hts iX9 hown hE hP 0 rfl rfl 2 (by decide) q1 rfl dX9_back_42 ?_
          obtain ⟨o14, hc15, h⟩ := bnd_some h
          refine cV_i (rest := []) (w2 := (wd_X9_back cy a_v a_v_images a_v_images0 a_v_images0_seen a_v_images0_seen_hours a_v_images0_seen_oclocks a_v_images0_seen_rooms a_v_images0_shop a_v_images0_shop_facts a_v_images0_shop_places a_v_images1 a_v_images1_seen a_v_images1_seen_hours a_v_images1_seen_oclocks a_v_images1_seen_rooms a_v_images1_shop a_v_images1_shop_facts a_v_images1_shop_places a_v_seen a_v_seen_hours a_v_seen_oclocks a_v_seen_rooms a_v_shop a_v_shop_facts a_v_shop_places a_v_tape a_v_reader a_v_sheets a_v_search a_v_odds v_lastFault v_lastTorn v_images0_there v_images0_seen_used v_images0_seen_hours v_images0_seen_oclocks v_images0_seen_rooms v_images0_shop_boxes v_images0_shop_startsAt v_images0_shop_facts v_images0_shop_places v_images1_there v_images1_seen_used v_images1_seen_hours v_images1_seen_oclocks v_images1_seen_rooms v_images1_shop_boxes v_images1_shop_startsAt v_images1_shop_facts v_images1_shop_places o12.2.2.2.2.1 o12.2.2.2.2.2.1 o12.2.2.2.2.2.2.1 o12.2.2.2.2.2.2.2 o12.1 o12.2.1 o12.2.2.1 o12.2.2.2.1)) ⟨hx, hb, hml, hown, hts⟩ (c_X5_startHour l D cy sa a_v_shop a_v_shop_facts a_v_shop_places o12.1 o12.2.1 o14 hc15) (cwV 0 hts gX9_back_X5_startHour rfl rfl rfl (by decide +kernel) ⟨Nat.le_of_ble_eq_true rfl, Nat.le_of_ble_eq_true rfl⟩) rfl rfl rfl hE hP hDD rfl hS [22] rfl rfl rfl rfl hl.1 (Nat.le_of_ble_eq_true rfl) ⟨Nat.zero_le _, Nat.zero_le _⟩ rfl dX9_back_45 rfl (fun H locs hP hS => ?_)
          obtain rfl := Option.some.inj h
          exact KR _ _ _ _ hP hS dX9_back_48
        · have h := ite_f c1 h
          refine lv_aload_n hx hb dX9_back_30 rfl (lv_at hl 0 rfl) ?_
          refine wi_get (v := .ref a_v_shop) hx hb hts iX9 hown hE hP 0 rfl rfl 2 (by decide) q1 rfl dX9_back_31 ?_
          refine lv_aload_n hx hb dX9_back_34 rfl (lv_at hl 0 rfl) ?_
          refine wi_get (v := .ref a_v_seen) hx hb hts iX9 hown hE hP 0 rfl rfl 3 (by decide) q2 rfl dX9_back_35 ?_
          obtain ⟨o16, hc17, h⟩ := bnd_some h
          refine cV_v (rest := []) (w2 := (wd_X9_back cy a_v a_v_images a_v_images0 a_v_images0_seen a_v_images0_seen_hours a_v_images0_seen_oclocks a_v_images0_seen_rooms a_v_images0_shop a_v_images0_shop_facts a_v_images0_shop_places a_v_images1 a_v_images1_seen a_v_images1_seen_hours a_v_images1_seen_oclocks a_v_images1_seen_rooms a_v_images1_shop a_v_images1_shop_facts a_v_images1_shop_places a_v_seen a_v_seen_hours a_v_seen_oclocks a_v_seen_rooms a_v_shop a_v_shop_facts a_v_shop_places a_v_tape a_v_reader a_v_sheets a_v_search a_v_odds v_lastFault v_lastTorn v_images0_there v_images0_seen_used v_images0_seen_hours v_images0_seen_oclocks v_images0_seen_rooms v_images0_shop_boxes v_images0_shop_startsAt v_images0_shop_facts v_images0_shop_places v_images1_there v_images1_seen_used v_images1_seen_hours v_images1_seen_oclocks v_images1_seen_rooms v_images1_shop_boxes v_images1_shop_startsAt v_images1_shop_facts v_images1_shop_places o16.2.2.2.2.1 o16.2.2.2.2.2.1 o16.2.2.2.2.2.2.1 o16.2.2.2.2.2.2.2 o16.1 o16.2.1 o16.2.2.1 o16.2.2.2.1)) ⟨hx, hb, hml, hown, hts⟩ (c_X0_giveBack l D cy sa a_v_images1 a_v_images1_seen a_v_images1_seen_hours a_v_images1_seen_oclocks a_v_images1_seen_rooms a_v_images1_shop a_v_images1_shop_facts a_v_images1_shop_places a_v_shop a_v_shop_facts a_v_shop_places a_v_seen a_v_seen_hours a_v_seen_oclocks a_v_seen_rooms v_images1_there v_images1_seen_used v_images1_seen_hours v_images1_seen_oclocks v_images1_seen_rooms v_images1_shop_boxes v_images1_shop_startsAt v_images1_shop_facts v_images1_shop_places v_shop_boxes v_shop_startsAt v_shop_facts v_shop_places v_seen_used v_seen_hours v_seen_oclocks v_seen_rooms o16 hc17) (cwV 2 hts gX9_back_X0_giveBack rfl rfl rfl (by decide +kernel) ⟨Nat.le_of_ble_eq_true rfl, Nat.le_of_ble_eq_true rfl⟩) rfl rfl rfl hE hP hDD rfl hS [10, 11, 12, 13, 14, 15, 16, 17, 22, 23, 24, 18, 19, 20, 21] rfl rfl rfl rfl hl.1 (Nat.le_of_ble_eq_true rfl) ⟨Nat.zero_le _, Nat.zero_le _⟩ rfl dX9_back_38 rfl (fun H locs hP hS => ?_)
          refine lv_aload_n hx hb dX9_back_41 rfl (lv_at hl 0 rfl) ?_
          refine wi_get (v := .ref a_v_shop) hx hb hts iX9 hown hE hP 0 rfl rfl 2 (by decide) q1 rfl dX9_back_42 ?_
          obtain ⟨o18, hc19, h⟩ := bnd_some h
          refine cV_i (rest := []) (w2 := (wd_X9_back cy a_v a_v_images a_v_images0 a_v_images0_seen a_v_images0_seen_hours a_v_images0_seen_oclocks a_v_images0_seen_rooms a_v_images0_shop a_v_images0_shop_facts a_v_images0_shop_places a_v_images1 a_v_images1_seen a_v_images1_seen_hours a_v_images1_seen_oclocks a_v_images1_seen_rooms a_v_images1_shop a_v_images1_shop_facts a_v_images1_shop_places a_v_seen a_v_seen_hours a_v_seen_oclocks a_v_seen_rooms a_v_shop a_v_shop_facts a_v_shop_places a_v_tape a_v_reader a_v_sheets a_v_search a_v_odds v_lastFault v_lastTorn v_images0_there v_images0_seen_used v_images0_seen_hours v_images0_seen_oclocks v_images0_seen_rooms v_images0_shop_boxes v_images0_shop_startsAt v_images0_shop_facts v_images0_shop_places v_images1_there v_images1_seen_used v_images1_seen_hours v_images1_seen_oclocks v_images1_seen_rooms v_images1_shop_boxes v_images1_shop_startsAt v_images1_shop_facts v_images1_shop_places o16.2.2.2.2.1 o16.2.2.2.2.2.1 o16.2.2.2.2.2.2.1 o16.2.2.2.2.2.2.2 o16.1 o16.2.1 o16.2.2.1 o16.2.2.2.1)) ⟨hx, hb, hml, hown, hts⟩ (c_X5_startHour l D cy sa a_v_shop a_v_shop_facts a_v_shop_places o16.1 o16.2.1 o18 hc19) (cwV 0 hts gX9_back_X5_startHour rfl rfl rfl (by decide +kernel) ⟨Nat.le_of_ble_eq_true rfl, Nat.le_of_ble_eq_true rfl⟩) rfl rfl rfl hE hP hDD rfl hS [22] rfl rfl rfl rfl hl.1 (Nat.le_of_ble_eq_true rfl) ⟨Nat.zero_le _, Nat.zero_le _⟩ rfl dX9_back_45 rfl (fun H locs hP hS => ?_)
          obtain rfl := Option.some.inj h
          exact KR _ _ _ _ hP hS dX9_back_48
      · have h := ite_t c11 h
        refine wi_bi hx hb dX9_back_21 (by decide) ?_
        obtain rfl := Option.some.inj h
        exact KR _ _ _ _ hP hS dX9_back_23
    · have h := ite_f c1 h
      obtain ⟨o20, hc21, h⟩ := bnd_some h
      refine cV_i (rest := []) (w2 := (wd_X9_back cy a_v a_v_images a_v_images0 a_v_images0_seen a_v_images0_seen_hours a_v_images0_seen_oclocks a_v_images0_seen_rooms a_v_images0_shop a_v_images0_shop_facts a_v_images0_shop_places a_v_images1 a_v_images1_seen a_v_images1_seen_hours a_v_images1_seen_oclocks a_v_images1_seen_rooms a_v_images1_shop a_v_images1_shop_facts a_v_images1_shop_places a_v_seen a_v_seen_hours a_v_seen_oclocks a_v_seen_rooms a_v_shop a_v_shop_facts a_v_shop_places a_v_tape a_v_reader a_v_sheets a_v_search a_v_odds v_lastFault v_lastTorn v_images0_there v_images0_seen_used v_images0_seen_hours v_images0_seen_oclocks v_images0_seen_rooms v_images0_shop_boxes v_images0_shop_startsAt v_images0_shop_facts v_images0_shop_places v_images1_there v_images1_seen_used v_images1_seen_hours v_images1_seen_oclocks v_images1_seen_rooms v_images1_shop_boxes v_images1_shop_startsAt v_images1_shop_facts v_images1_shop_places v_seen_used v_seen_hours v_seen_oclocks v_seen_rooms v_shop_boxes v_shop_startsAt v_shop_facts v_shop_places)) ⟨hx, hb, hml, hown, hts⟩ (c_X0_isThere l D cy sa a_v_images1 a_v_images1_shop a_v_images1_seen v_images1_there o20 hc21) (cwV 0 hts gX9_back_X0_isThere rfl rfl rfl (by decide +kernel) ⟨Nat.le_of_ble_eq_true rfl, Nat.le_of_ble_eq_true rfl⟩) rfl rfl rfl hE hP hDD rfl hS [10] rfl rfl rfl rfl hl.1 (Nat.le_of_ble_eq_true rfl) ⟨Nat.zero_le _, Nat.zero_le _⟩ rfl dX9_back_15 rfl (fun H locs hP hS => ?_)
      obtain ⟨hr22, h⟩ := chk_some h
      refine wi_if_ne (tgt := 24) hx hb dX9_back_18 (by decide) hr22 (fun c24 => ?_) (fun c24 => ?_)
      · have h := ite_f c24 h
        refine lv_aload_n hx hb dX9_back_24 rfl (lv_at hl 0 rfl) ?_
        refine wi_get (v := .ref a_v_images) hx hb hts iX9 hown hE hP 0 rfl rfl 4 (by decide) q0 rfl dX9_back_25 ?_
        refine lv_iload_n hx hb dX9_back_28 rfl (lv_at hl 1 rfl) ?_
        refine wi_ald hx hb hE hP 1 rfl hk6 dX9_back_29 (fun c1 => ?_) (fun c1 => ?_)
        · have h := ite_t c1 h
          refine lv_aload_n hx hb dX9_back_30 rfl (lv_at hl 0 rfl) ?_
          refine wi_get (v := .ref a_v_shop) hx hb hts iX9 hown hE hP 0 rfl rfl 2 (by decide) q1 rfl dX9_back_31 ?_
          refine lv_aload_n hx hb dX9_back_34 rfl (lv_at hl 0 rfl) ?_
          refine wi_get (v := .ref a_v_seen) hx hb hts iX9 hown hE hP 0 rfl rfl 3 (by decide) q2 rfl dX9_back_35 ?_
          obtain ⟨o25, hc26, h⟩ := bnd_some h
          refine cV_v (rest := []) (w2 := (wd_X9_back cy a_v a_v_images a_v_images0 a_v_images0_seen a_v_images0_seen_hours a_v_images0_seen_oclocks a_v_images0_seen_rooms a_v_images0_shop a_v_images0_shop_facts a_v_images0_shop_places a_v_images1 a_v_images1_seen a_v_images1_seen_hours a_v_images1_seen_oclocks a_v_images1_seen_rooms a_v_images1_shop a_v_images1_shop_facts a_v_images1_shop_places a_v_seen a_v_seen_hours a_v_seen_oclocks a_v_seen_rooms a_v_shop a_v_shop_facts a_v_shop_places a_v_tape a_v_reader a_v_sheets a_v_search a_v_odds v_lastFault v_lastTorn v_images0_there v_images0_seen_used v_images0_seen_hours v_images0_seen_oclocks v_images0_seen_rooms v_images0_shop_boxes v_images0_shop_startsAt v_images0_shop_facts v_images0_shop_places v_images1_there v_images1_seen_used v_images1_seen_hours v_images1_seen_oclocks v_images1_seen_rooms v_images1_shop_boxes v_images1_shop_startsAt v_images1_shop_facts v_images1_shop_places o25.2.2.2.2.1 o25.2.2.2.2.2.1 o25.2.2.2.2.2.2.1 o25.2.2.2.2.2.2.2 o25.1 o25.2.1 o25.2.2.1 o25.2.2.2.1)) ⟨hx, hb, hml, hown, hts⟩ (c_X0_giveBack l D cy sa a_v_images0 a_v_images0_seen a_v_images0_seen_hours a_v_images0_seen_oclocks a_v_images0_seen_rooms a_v_images0_shop a_v_images0_shop_facts a_v_images0_shop_places a_v_shop a_v_shop_facts a_v_shop_places a_v_seen a_v_seen_hours a_v_seen_oclocks a_v_seen_rooms v_images0_there v_images0_seen_used v_images0_seen_hours v_images0_seen_oclocks v_images0_seen_rooms v_images0_shop_boxes v_images0_shop_startsAt v_images0_shop_facts v_images0_shop_places v_shop_boxes v_shop_startsAt v_shop_facts v_shop_places v_seen_used v_seen_hours v_seen_oclocks v_seen_rooms o25 hc26) (cwV 2 hts gX9_back_X0_giveBack rfl rfl rfl (by decide +kernel) ⟨Nat.le_of_ble_eq_true rfl, Nat.le_of_ble_eq_true rfl⟩) rfl rfl rfl hE hP hDD rfl hS [2, 3, 4, 5, 6, 7, 8, 9, 22, 23, 24, 18, 19, 20, 21] rfl rfl rfl rfl hl.1 (Nat.le_of_ble_eq_true rfl) ⟨Nat.zero_le _, Nat.zero_le _⟩ rfl dX9_back_38 rfl (fun H locs hP hS => ?_)
          refine lv_aload_n hx hb dX9_back_41 rfl (lv_at hl 0 rfl) ?_
          refine wi_get (v := .ref a_v_shop) hx hb hts iX9 hown hE hP 0 rfl rfl 2 (by decide) q1 rfl dX9_back_42 ?_
          obtain ⟨o27, hc28, h⟩ := bnd_some h
          refine cV_i (rest := []) (w2 := (wd_X9_back cy a_v a_v_images a_v_images0 a_v_images0_seen a_v_images0_seen_hours a_v_images0_seen_oclocks a_v_images0_seen_rooms a_v_images0_shop a_v_images0_shop_facts a_v_images0_shop_places a_v_images1 a_v_images1_seen a_v_images1_seen_hours a_v_images1_seen_oclocks a_v_images1_seen_rooms a_v_images1_shop a_v_images1_shop_facts a_v_images1_shop_places a_v_seen a_v_seen_hours a_v_seen_oclocks a_v_seen_rooms a_v_shop a_v_shop_facts a_v_shop_places a_v_tape a_v_reader a_v_sheets a_v_search a_v_odds v_lastFault v_lastTorn v_images0_there v_images0_seen_used v_images0_seen_hours v_images0_seen_oclocks v_images0_seen_rooms v_images0_shop_boxes v_images0_shop_startsAt v_images0_shop_facts v_images0_shop_places v_images1_there v_images1_seen_used v_images1_seen_hours v_images1_seen_oclocks v_images1_seen_rooms v_images1_shop_boxes v_images1_shop_startsAt v_images1_shop_facts v_images1_shop_places o25.2.2.2.2.1 o25.2.2.2.2.2.1 o25.2.2.2.2.2.2.1 o25.2.2.2.2.2.2.2 o25.1 o25.2.1 o25.2.2.1 o25.2.2.2.1)) ⟨hx, hb, hml, hown, hts⟩ (c_X5_startHour l D cy sa a_v_shop a_v_shop_facts a_v_shop_places o25.1 o25.2.1 o27 hc28) (cwV 0 hts gX9_back_X5_startHour rfl rfl rfl (by decide +kernel) ⟨Nat.le_of_ble_eq_true rfl, Nat.le_of_ble_eq_true rfl⟩) rfl rfl rfl hE hP hDD rfl hS [22] rfl rfl rfl rfl hl.1 (Nat.le_of_ble_eq_true rfl) ⟨Nat.zero_le _, Nat.zero_le _⟩ rfl dX9_back_45 rfl (fun H locs hP hS => ?_)
          obtain rfl := Option.some.inj h
          exact KR _ _ _ _ hP hS dX9_back_48
        · have h := ite_f c1 h
          refine lv_aload_n hx hb dX9_back_30 rfl (lv_at hl 0 rfl) ?_
          refine wi_get (v := .ref a_v_shop) hx hb hts iX9 hown hE hP 0 rfl rfl 2 (by decide) q1 rfl dX9_back_31 ?_
          refine lv_aload_n hx hb dX9_back_34 rfl (lv_at hl 0 rfl) ?_
          refine wi_get (v := .ref a_v_seen) hx hb hts iX9 hown hE hP 0 rfl rfl 3 (by decide) q2 rfl dX9_back_35 ?_
          obtain ⟨o29, hc30, h⟩ := bnd_some h
          refine cV_v (rest := []) (w2 := (wd_X9_back cy a_v a_v_images a_v_images0 a_v_images0_seen a_v_images0_seen_hours a_v_images0_seen_oclocks a_v_images0_seen_rooms a_v_images0_shop a_v_images0_shop_facts a_v_images0_shop_places a_v_images1 a_v_images1_seen a_v_images1_seen_hours a_v_images1_seen_oclocks a_v_images1_seen_rooms a_v_images1_shop a_v_images1_shop_facts a_v_images1_shop_places a_v_seen a_v_seen_hours a_v_seen_oclocks a_v_seen_rooms a_v_shop a_v_shop_facts a_v_shop_places a_v_tape a_v_reader a_v_sheets a_v_search a_v_odds v_lastFault v_lastTorn v_images0_there v_images0_seen_used v_images0_seen_hours v_images0_seen_oclocks v_images0_seen_rooms v_images0_shop_boxes v_images0_shop_startsAt v_images0_shop_facts v_images0_shop_places v_images1_there v_images1_seen_used v_images1_seen_hours v_images1_seen_oclocks v_images1_seen_rooms v_images1_shop_boxes v_images1_shop_startsAt v_images1_shop_facts v_images1_shop_places o29.2.2.2.2.1 o29.2.2.2.2.2.1 o29.2.2.2.2.2.2.1 o29.2.2.2.2.2.2.2 o29.1 o29.2.1 o29.2.2.1 o29.2.2.2.1)) ⟨hx, hb, hml, hown, hts⟩ (c_X0_giveBack l D cy sa a_v_images1 a_v_images1_seen a_v_images1_seen_hours a_v_images1_seen_oclocks a_v_images1_seen_rooms a_v_images1_shop a_v_images1_shop_facts a_v_images1_shop_places a_v_shop a_v_shop_facts a_v_shop_places a_v_seen a_v_seen_hours a_v_seen_oclocks a_v_seen_rooms v_images1_there v_images1_seen_used v_images1_seen_hours v_images1_seen_oclocks v_images1_seen_rooms v_images1_shop_boxes v_images1_shop_startsAt v_images1_shop_facts v_images1_shop_places v_shop_boxes v_shop_startsAt v_shop_facts v_shop_places v_seen_used v_seen_hours v_seen_oclocks v_seen_rooms o29 hc30) (cwV 2 hts gX9_back_X0_giveBack rfl rfl rfl (by decide +kernel) ⟨Nat.le_of_ble_eq_true rfl, Nat.le_of_ble_eq_true rfl⟩) rfl rfl rfl hE hP hDD rfl hS [10, 11, 12, 13, 14, 15, 16, 17, 22, 23, 24, 18, 19, 20, 21] rfl rfl rfl rfl hl.1 (Nat.le_of_ble_eq_true rfl) ⟨Nat.zero_le _, Nat.zero_le _⟩ rfl dX9_back_38 rfl (fun H locs hP hS => ?_)
          refine lv_aload_n hx hb dX9_back_41 rfl (lv_at hl 0 rfl) ?_
          refine wi_get (v := .ref a_v_shop) hx hb hts iX9 hown hE hP 0 rfl rfl 2 (by decide) q1 rfl dX9_back_42 ?_
          obtain ⟨o31, hc32, h⟩ := bnd_some h
          refine cV_i (rest := []) (w2 := (wd_X9_back cy a_v a_v_images a_v_images0 a_v_images0_seen a_v_images0_seen_hours a_v_images0_seen_oclocks a_v_images0_seen_rooms a_v_images0_shop a_v_images0_shop_facts a_v_images0_shop_places a_v_images1 a_v_images1_seen a_v_images1_seen_hours a_v_images1_seen_oclocks a_v_images1_seen_rooms a_v_images1_shop a_v_images1_shop_facts a_v_images1_shop_places a_v_seen a_v_seen_hours a_v_seen_oclocks a_v_seen_rooms a_v_shop a_v_shop_facts a_v_shop_places a_v_tape a_v_reader a_v_sheets a_v_search a_v_odds v_lastFault v_lastTorn v_images0_there v_images0_seen_used v_images0_seen_hours v_images0_seen_oclocks v_images0_seen_rooms v_images0_shop_boxes v_images0_shop_startsAt v_images0_shop_facts v_images0_shop_places v_images1_there v_images1_seen_used v_images1_seen_hours v_images1_seen_oclocks v_images1_seen_rooms v_images1_shop_boxes v_images1_shop_startsAt v_images1_shop_facts v_images1_shop_places o29.2.2.2.2.1 o29.2.2.2.2.2.1 o29.2.2.2.2.2.2.1 o29.2.2.2.2.2.2.2 o29.1 o29.2.1 o29.2.2.1 o29.2.2.2.1)) ⟨hx, hb, hml, hown, hts⟩ (c_X5_startHour l D cy sa a_v_shop a_v_shop_facts a_v_shop_places o29.1 o29.2.1 o31 hc32) (cwV 0 hts gX9_back_X5_startHour rfl rfl rfl (by decide +kernel) ⟨Nat.le_of_ble_eq_true rfl, Nat.le_of_ble_eq_true rfl⟩) rfl rfl rfl hE hP hDD rfl hS [22] rfl rfl rfl rfl hl.1 (Nat.le_of_ble_eq_true rfl) ⟨Nat.zero_le _, Nat.zero_le _⟩ rfl dX9_back_45 rfl (fun H locs hP hS => ?_)
          obtain rfl := Option.some.inj h
          exact KR _ _ _ _ hP hS dX9_back_48
      · have h := ite_t c24 h
        refine wi_bi hx hb dX9_back_21 (by decide) ?_
        obtain rfl := Option.some.inj h
        exact KR _ _ _ _ hP hS dX9_back_23
  · have h := ite_t c5 h
    refine wi_ic hx hb dX9_back_7 ?_
    obtain rfl := Option.some.inj h
    exact KR _ _ _ _ hP hS dX9_back_8
abbrev wd_X9_sheet (cy : Nat → ClassId) (a_v : Nat) (a_v_sheets : Nat) (a_v_sheets_cells : Nat) (a_v_sheets_lanes : Nat) (a_v_sheets_sizes : Nat) (a_v_tape : Nat) (a_v_reader : Nat) (a_v_shop : Nat) (a_v_seen : Nat) (a_v_images : Nat) (a_v_search : Nat) (a_v_odds : Nat) (v_lastFault : Int) (v_lastTorn : Int) (v_sheets_cells : Nat → Int) (v_sheets_lanes : Nat → Int) (v_sheets_sizes : Nat → Int) : va_W := [(a_v, .inr (9, [.ref a_v_tape, .ref a_v_reader, .ref a_v_shop, .ref a_v_seen, .ref a_v_images, .ref a_v_sheets, .ref a_v_search, .ref a_v_odds, .int (zI v_lastFault), .int (zI v_lastTorn)])), (a_v_sheets, .inr (4, [.ref a_v_sheets_cells, .ref a_v_sheets_lanes, .ref a_v_sheets_sizes])), (a_v_sheets_cells, .inl (cy 0, 160, .inl (fun j => zI (v_sheets_cells j)))), (a_v_sheets_lanes, .inl (cy 0, 4, .inl (fun j => zI (v_sheets_lanes j)))), (a_v_sheets_sizes, .inl (cy 0, 4, .inl (fun j => zI (v_sheets_sizes j))))]
set_option maxHeartbeats 4000000 in
set_option maxRecDepth 100000 in
theorem c_X9_sheet (l : Launch) (D : va_G) (cy : Nat → ClassId) (sa : Nat → Nat) (a_v : Nat) (a_v_sheets : Nat) (a_v_sheets_cells : Nat) (a_v_sheets_lanes : Nat) (a_v_sheets_sizes : Nat) (a_v_tape : Nat) (a_v_reader : Nat) (a_v_shop : Nat) (a_v_seen : Nat) (a_v_images : Nat) (a_v_search : Nat) (a_v_odds : Nat) (v_lastFault : Int) (v_lastTorn : Int) (v_sheets_cells : Nat → Int) (v_sheets_lanes : Nat → Int) (v_sheets_sizes : Nat → Int) (x1 : Int) (x2 : Int) (x3 : Int) (o : Int × (Nat → Int) × (Nat → Int) × (Nat → Int)) (h : f_HH_sheet v_sheets_cells v_sheets_lanes v_sheets_sizes x1 x2 x3 = some o) : CtI l yX9_sheet wsX9_sheet ({ frames := 3, cells := 0, slots := 0, locals := 66 }) D cy sa [.ref a_v, .int (zI x1), .int (zI x2), .int (zI x3)] (wd_X9_sheet cy a_v a_v_sheets a_v_sheets_cells a_v_sheets_lanes a_v_sheets_sizes a_v_tape a_v_reader a_v_shop a_v_seen a_v_images a_v_search a_v_odds v_lastFault v_lastTorn v_sheets_cells v_sheets_lanes v_sheets_sizes) (wd_X9_sheet cy a_v a_v_sheets a_v_sheets_cells a_v_sheets_lanes a_v_sheets_sizes a_v_tape a_v_reader a_v_shop a_v_seen a_v_images a_v_search a_v_odds v_lastFault v_lastTorn o.2.1 o.2.2.1 o.2.2.2) o.1 := by
  refine ct_I (cc := cX9_sheet) (maxL := 4) (plainFor_of_name (by decide)) rfl (Nat.le_of_ble_eq_true rfl) ?_
  intro p e s m below meth c A args QQ hx hb hml hown hts hE hDD hP KR ls hl
  have hl : lv_has ls 4 [(0, .ref a_v), (1, .int (zI x1)), (2, .int (zI x2)), (3, .int (zI x3))] := hl
  have hDD : DD A [a_v, a_v_sheets, a_v_sheets_cells, a_v_sheets_lanes, a_v_sheets_sizes] := hDD
  have hS : va_S A s.heap s.heap [] := va_S.rf
  have q0 := hts (.fieldLink RX9 49 "HatHours" "sheets" "LHatHours$Sheets;") (List.mem_of_getElem? (i := 1) rfl)
  have iX9 : ∀ w ∈ u_ws RX9 TX9 10, w ∈ wsX9_sheet := in_slice 20 10 rfl
  refine lv_iload_n hx hb dX9_sheet_0 rfl (lv_at hl 1 rfl) ?_
  obtain ⟨o1, hc2, h⟩ := bnd_some h
  refine cS_i (rest := []) (w2 := (wd_X9_sheet cy a_v a_v_sheets a_v_sheets_cells a_v_sheets_lanes a_v_sheets_sizes a_v_tape a_v_reader a_v_shop a_v_seen a_v_images a_v_search a_v_odds v_lastFault v_lastTorn v_sheets_cells v_sheets_lanes v_sheets_sizes)) ⟨hx, hb, hml, hown, hts⟩ (c_X4_has l D cy sa x1 o1 hc2) (va_cwS 1 hts gX9_sheet_X4_has rfl rfl rfl (by decide +kernel) ⟨Nat.le_of_ble_eq_true rfl, Nat.le_of_ble_eq_true rfl⟩) hE hP hDD rfl hS [] rfl rfl rfl rfl hl.1 (Nat.le_of_ble_eq_true rfl) ⟨Nat.zero_le _, Nat.zero_le _⟩ rfl dX9_sheet_1 rfl (fun H locs hP hS => ?_)
  obtain ⟨hr3, h⟩ := chk_some h
  refine wi_if_eq (tgt := 20) hx hb dX9_sheet_4 (by decide) hr3 (fun c5 => ?_) (fun c5 => ?_)
  · have h := ite_t c5 h
    refine wi_ic hx hb dX9_sheet_20 ?_
    obtain rfl := Option.some.inj h
    exact KR _ _ _ _ hP hS dX9_sheet_21
  · have h := ite_f c5 h
    refine lv_iload_n hx hb dX9_sheet_7 rfl (lv_at hl 2 rfl) ?_
    obtain ⟨o6, hc7, h⟩ := bnd_some h
    refine cS_i (rest := []) (w2 := (wd_X9_sheet cy a_v a_v_sheets a_v_sheets_cells a_v_sheets_lanes a_v_sheets_sizes a_v_tape a_v_reader a_v_shop a_v_seen a_v_images a_v_search a_v_odds v_lastFault v_lastTorn v_sheets_cells v_sheets_lanes v_sheets_sizes)) ⟨hx, hb, hml, hown, hts⟩ (c_X4_isLane l D cy sa x2 o6 hc7) (va_cwS 1 hts gX9_sheet_X4_isLane rfl rfl rfl (by decide +kernel) ⟨Nat.le_of_ble_eq_true rfl, Nat.le_of_ble_eq_true rfl⟩) hE hP hDD rfl hS [] rfl rfl rfl rfl hl.1 (Nat.le_of_ble_eq_true rfl) ⟨Nat.zero_le _, Nat.zero_le _⟩ rfl dX9_sheet_8 rfl (fun H locs hP hS => ?_)
    obtain ⟨hr8, h⟩ := chk_some h
    refine wi_if_eq (tgt := 20) hx hb dX9_sheet_11 (by decide) hr8 (fun c10 => ?_) (fun c10 => ?_)
    · have h := ite_t c10 h
      refine wi_ic hx hb dX9_sheet_20 ?_
      obtain rfl := Option.some.inj h
      exact KR _ _ _ _ hP hS dX9_sheet_21
    · have h := ite_f c10 h
      refine lv_iload_n hx hb dX9_sheet_14 rfl (lv_at hl 3 rfl) ?_
      refine wi_bi hx hb dX9_sheet_15 (by decide) ?_
      obtain ⟨hr11, h⟩ := chk_some h
      refine wi_ic_le (tgt := 22) hx hb dX9_sheet_17 (by decide) hr11 (by decide) (fun c13 => ?_) (fun c13 => ?_)
      · have h := ite_t c13 h
        refine lv_iload_n hx hb dX9_sheet_22 rfl (lv_at hl 3 rfl) ?_
        refine wi_if_ge (tgt := 29) hx hb dX9_sheet_23 (by decide) hr11 (fun c15 => ?_) (fun c15 => ?_)
        · have h := ite_t c15 h
          refine lv_aload_n hx hb dX9_sheet_29 rfl (lv_at hl 0 rfl) ?_
          refine wi_get (v := .ref a_v_sheets) hx hb hts iX9 hown hE hP 0 rfl rfl 5 (by decide) q0 rfl dX9_sheet_30 ?_
          refine lv_iload_n hx hb dX9_sheet_33 rfl (lv_at hl 1 rfl) ?_
          refine lv_iload_n hx hb dX9_sheet_34 rfl (lv_at hl 2 rfl) ?_
          refine lv_iload_n hx hb dX9_sheet_35 rfl (lv_at hl 3 rfl) ?_
          obtain ⟨o16, hc17, h⟩ := bnd_some h
          refine cV_v (rest := []) (w2 := (wd_X9_sheet cy a_v a_v_sheets a_v_sheets_cells a_v_sheets_lanes a_v_sheets_sizes a_v_tape a_v_reader a_v_shop a_v_seen a_v_images a_v_search a_v_odds v_lastFault v_lastTorn o16.1 o16.2.1 o16.2.2)) ⟨hx, hb, hml, hown, hts⟩ (c_X4_renew l D cy sa a_v_sheets a_v_sheets_cells a_v_sheets_lanes a_v_sheets_sizes v_sheets_cells v_sheets_lanes v_sheets_sizes x1 x2 x3 o16 hc17) (cwV 3 hts gX9_sheet_X4_renew rfl rfl rfl (by decide +kernel) ⟨Nat.le_of_ble_eq_true rfl, Nat.le_of_ble_eq_true rfl⟩) rfl rfl rfl hE hP hDD rfl hS [1, 2, 3, 4] rfl rfl rfl rfl hl.1 (Nat.le_of_ble_eq_true rfl) ⟨Nat.zero_le _, Nat.zero_le _⟩ rfl dX9_sheet_36 rfl (fun H locs hP hS => ?_)
          refine wi_ic hx hb dX9_sheet_39 ?_
          obtain rfl := Option.some.inj h
          exact KR _ _ _ _ hP hS dX9_sheet_40
        · have h := ite_f c15 h
          refine wi_bi hx hb dX9_sheet_26 (by decide) ?_
          obtain rfl := Option.some.inj h
          exact KR _ _ _ _ hP hS dX9_sheet_28
      · have h := ite_f c13 h
        refine wi_ic hx hb dX9_sheet_20 ?_
        obtain rfl := Option.some.inj h
        exact KR _ _ _ _ hP hS dX9_sheet_21
abbrev wd_X9_lay (cy : Nat → ClassId) (a_v : Nat) (a_v_sheets : Nat) (a_v_sheets_cells : Nat) (a_v_sheets_lanes : Nat) (a_v_sheets_sizes : Nat) (a_v_tape : Nat) (a_v_reader : Nat) (a_v_shop : Nat) (a_v_seen : Nat) (a_v_images : Nat) (a_v_search : Nat) (a_v_odds : Nat) (v_lastFault : Int) (v_lastTorn : Int) (v_sheets_cells : Nat → Int) (v_sheets_lanes : Nat → Int) (v_sheets_sizes : Nat → Int) : va_W := [(a_v, .inr (9, [.ref a_v_tape, .ref a_v_reader, .ref a_v_shop, .ref a_v_seen, .ref a_v_images, .ref a_v_sheets, .ref a_v_search, .ref a_v_odds, .int (zI v_lastFault), .int (zI v_lastTorn)])), (a_v_sheets, .inr (4, [.ref a_v_sheets_cells, .ref a_v_sheets_lanes, .ref a_v_sheets_sizes])), (a_v_sheets_cells, .inl (cy 0, 160, .inl (fun j => zI (v_sheets_cells j)))), (a_v_sheets_lanes, .inl (cy 0, 4, .inl (fun j => zI (v_sheets_lanes j)))), (a_v_sheets_sizes, .inl (cy 0, 4, .inl (fun j => zI (v_sheets_sizes j))))]
set_option maxHeartbeats 4000000 in
set_option maxRecDepth 100000 in
theorem c_X9_lay (l : Launch) (D : va_G) (cy : Nat → ClassId) (sa : Nat → Nat) (a_v : Nat) (a_v_sheets : Nat) (a_v_sheets_cells : Nat) (a_v_sheets_lanes : Nat) (a_v_sheets_sizes : Nat) (a_v_tape : Nat) (a_v_reader : Nat) (a_v_shop : Nat) (a_v_seen : Nat) (a_v_images : Nat) (a_v_search : Nat) (a_v_odds : Nat) (v_lastFault : Int) (v_lastTorn : Int) (v_sheets_cells : Nat → Int) (v_sheets_lanes : Nat → Int) (v_sheets_sizes : Nat → Int) (x1 : Int) (x2 : Int) (x3 : Int) (o : Int × (Nat → Int)) (h : f_HH_lay v_sheets_cells v_sheets_lanes v_sheets_sizes x1 x2 x3 = some o) : CtI l yX9_lay wsX9_lay ({ frames := 4, cells := 0, slots := 0, locals := 87 }) D cy sa [.ref a_v, .int (zI x1), .int (zI x2), .int (zI x3)] (wd_X9_lay cy a_v a_v_sheets a_v_sheets_cells a_v_sheets_lanes a_v_sheets_sizes a_v_tape a_v_reader a_v_shop a_v_seen a_v_images a_v_search a_v_odds v_lastFault v_lastTorn v_sheets_cells v_sheets_lanes v_sheets_sizes) (wd_X9_lay cy a_v a_v_sheets a_v_sheets_cells a_v_sheets_lanes a_v_sheets_sizes a_v_tape a_v_reader a_v_shop a_v_seen a_v_images a_v_search a_v_odds v_lastFault v_lastTorn o.2 v_sheets_lanes v_sheets_sizes) o.1 := by
  refine ct_I (cc := cX9_lay) (maxL := 5) (plainFor_of_name (by decide)) rfl (Nat.le_of_ble_eq_true rfl) ?_
  intro p e s m below meth c A args QQ hx hb hml hown hts hE hDD hP KR ls hl
  have hl : lv_has ls 5 [(0, .ref a_v), (1, .int (zI x1)), (2, .int (zI x2)), (3, .int (zI x3))] := hl
  have hDD : DD A [a_v, a_v_sheets, a_v_sheets_cells, a_v_sheets_lanes, a_v_sheets_sizes] := hDD
  have hS : va_S A s.heap s.heap [] := va_S.rf
  have q0 := hts (.fieldLink RX9 49 "HatHours" "sheets" "LHatHours$Sheets;") (List.mem_of_getElem? (i := 1) rfl)
  have iX9 : ∀ w ∈ u_ws RX9 TX9 10, w ∈ wsX9_lay := in_slice 37 10 rfl
  refine lv_iload_n hx hb dX9_lay_0 rfl (lv_at hl 1 rfl) ?_
  obtain ⟨o1, hc2, h⟩ := bnd_some h
  refine cS_i (rest := []) (w2 := (wd_X9_lay cy a_v a_v_sheets a_v_sheets_cells a_v_sheets_lanes a_v_sheets_sizes a_v_tape a_v_reader a_v_shop a_v_seen a_v_images a_v_search a_v_odds v_lastFault v_lastTorn v_sheets_cells v_sheets_lanes v_sheets_sizes)) ⟨hx, hb, hml, hown, hts⟩ (c_X4_has l D cy sa x1 o1 hc2) (va_cwS 1 hts gX9_lay_X4_has rfl rfl rfl (by decide +kernel) ⟨Nat.le_of_ble_eq_true rfl, Nat.le_of_ble_eq_true rfl⟩) hE hP hDD rfl hS [] rfl rfl rfl rfl hl.1 (Nat.le_of_ble_eq_true rfl) ⟨Nat.zero_le _, Nat.zero_le _⟩ rfl dX9_lay_1 rfl (fun H locs hP hS => ?_)
  obtain ⟨hr3, h⟩ := chk_some h
  refine wi_if_ne (tgt := 9) hx hb dX9_lay_4 (by decide) hr3 (fun c5 => ?_) (fun c5 => ?_)
  · have h := ite_f c5 h
    refine lv_aload_n hx hb dX9_lay_9 rfl (lv_at hl 0 rfl) ?_
    refine wi_get (v := .ref a_v_sheets) hx hb hts iX9 hown hE hP 0 rfl rfl 5 (by decide) q0 rfl dX9_lay_10 ?_
    refine lv_iload_n hx hb dX9_lay_13 rfl (lv_at hl 1 rfl) ?_
    refine lv_aload_n hx hb dX9_lay_14 rfl (lv_at hl 0 rfl) ?_
    refine wi_get (v := .ref a_v_sheets) hx hb hts iX9 hown hE hP 0 rfl rfl 5 (by decide) q0 rfl dX9_lay_15 ?_
    refine lv_iload_n hx hb dX9_lay_18 rfl (lv_at hl 1 rfl) ?_
    obtain ⟨o6, hc7, h⟩ := bnd_some h
    refine cV_i (rest := [.int (zI x1), .ref a_v_sheets]) (w2 := (wd_X9_lay cy a_v a_v_sheets a_v_sheets_cells a_v_sheets_lanes a_v_sheets_sizes a_v_tape a_v_reader a_v_shop a_v_seen a_v_images a_v_search a_v_odds v_lastFault v_lastTorn v_sheets_cells v_sheets_lanes v_sheets_sizes)) ⟨hx, hb, hml, hown, hts⟩ (c_X4_laneOf l D cy sa a_v_sheets a_v_sheets_lanes a_v_sheets_cells a_v_sheets_sizes v_sheets_lanes x1 o6 hc7) (cwV 1 hts gX9_lay_X4_laneOf rfl rfl rfl (by decide +kernel) ⟨Nat.le_of_ble_eq_true rfl, Nat.le_of_ble_eq_true rfl⟩) rfl rfl rfl hE hP hDD rfl hS [1, 3] rfl rfl rfl rfl hl.1 (Nat.le_of_ble_eq_true rfl) ⟨Nat.zero_le _, Nat.zero_le _⟩ rfl dX9_lay_19 rfl (fun H locs hP hS => ?_)
    refine lv_iload_n hx hb dX9_lay_22 rfl (lv_at hl 2 rfl) ?_
    obtain ⟨o8, hc9, h⟩ := bnd_some h
    refine cV_i (rest := []) (w2 := (wd_X9_lay cy a_v a_v_sheets a_v_sheets_cells a_v_sheets_lanes a_v_sheets_sizes a_v_tape a_v_reader a_v_shop a_v_seen a_v_images a_v_search a_v_odds v_lastFault v_lastTorn v_sheets_cells v_sheets_lanes v_sheets_sizes)) ⟨hx, hb, hml, hown, hts⟩ (c_X4_faultAt l D cy sa a_v_sheets a_v_sheets_lanes a_v_sheets_sizes a_v_sheets_cells v_sheets_lanes v_sheets_sizes x1 o6 x2 o8 hc9) (cwV 3 hts gX9_lay_X4_faultAt rfl rfl rfl (by decide +kernel) ⟨Nat.le_of_ble_eq_true rfl, Nat.le_of_ble_eq_true rfl⟩) rfl rfl rfl hE hP hDD rfl hS [1, 3, 4] rfl rfl rfl rfl hl.1 (Nat.le_of_ble_eq_true rfl) ⟨Nat.zero_le _, Nat.zero_le _⟩ rfl dX9_lay_23 rfl (fun H locs hP hS => ?_)
    refine lv_istore (lv' := [(4, .int (zI o8)), (0, .ref a_v), (1, .int (zI x1)), (2, .int (zI x2)), (3, .int (zI x3))]) hx hb dX9_lay_26 hl (by decide) rfl (fun ls hl => ?_)
    refine lv_iload hx hb dX9_lay_28 (lv_at hl 0 rfl) ?_
    obtain ⟨hr10, h⟩ := chk_some h
    refine wi_if_eq (tgt := 39) hx hb dX9_lay_30 (by decide) hr10 (fun c12 => ?_) (fun c12 => ?_)
    · have h := ite_t c12 h
      refine lv_aload_n hx hb dX9_lay_39 rfl (lv_at hl 1 rfl) ?_
      refine wi_get (v := .ref a_v_sheets) hx hb hts iX9 hown hE hP 0 rfl rfl 5 (by decide) q0 rfl dX9_lay_40 ?_
      refine lv_iload_n hx hb dX9_lay_43 rfl (lv_at hl 2 rfl) ?_
      refine lv_iload_n hx hb dX9_lay_44 rfl (lv_at hl 3 rfl) ?_
      refine lv_iload_n hx hb dX9_lay_45 rfl (lv_at hl 4 rfl) ?_
      obtain ⟨o13, hc14, h⟩ := bnd_some h
      refine cV_v (rest := []) (w2 := (wd_X9_lay cy a_v a_v_sheets a_v_sheets_cells a_v_sheets_lanes a_v_sheets_sizes a_v_tape a_v_reader a_v_shop a_v_seen a_v_images a_v_search a_v_odds v_lastFault v_lastTorn o13 v_sheets_lanes v_sheets_sizes)) ⟨hx, hb, hml, hown, hts⟩ (c_X4_put l D cy sa a_v_sheets a_v_sheets_cells a_v_sheets_lanes a_v_sheets_sizes v_sheets_cells v_sheets_lanes v_sheets_sizes x1 x2 x3 o13 hc14) (cwV 3 hts gX9_lay_X4_put rfl rfl rfl (by decide +kernel) ⟨Nat.le_of_ble_eq_true rfl, Nat.le_of_ble_eq_true rfl⟩) rfl rfl rfl hE hP hDD rfl hS [1, 2, 3, 4] rfl rfl rfl rfl hl.1 (Nat.le_of_ble_eq_true rfl) ⟨Nat.zero_le _, Nat.zero_le _⟩ rfl dX9_lay_46 rfl (fun H locs hP hS => ?_)
      refine wi_ic hx hb dX9_lay_49 ?_
      obtain rfl := Option.some.inj h
      exact KR _ _ _ _ hP hS dX9_lay_50
    · have h := ite_f c12 h
      refine wi_bi hx hb dX9_lay_33 (by decide) ?_
      refine lv_iload hx hb dX9_lay_35 (lv_at hl 0 rfl) ?_
      refine wi_isub hx hb dX9_lay_37 ?_
      obtain rfl := Option.some.inj h
      exact KR _ _ _ _ hP hS dX9_lay_38
  · have h := ite_t c5 h
    refine wi_ic hx hb dX9_lay_7 ?_
    obtain rfl := Option.some.inj h
    exact KR _ _ _ _ hP hS dX9_lay_8
abbrev wd_X9_sewnFromCells (cy : Nat → ClassId) (a_v : Nat) (a_v_sheets : Nat) (a_v_sheets_cells : Nat) (a_v_sheets_sizes : Nat) (a_u1 : Nat) (a_u1_facts : Nat) (a_u1_places : Nat) (a_v_tape : Nat) (a_v_reader : Nat) (a_v_shop : Nat) (a_v_seen : Nat) (a_v_images : Nat) (a_v_search : Nat) (a_v_odds : Nat) (a_v_sheets_lanes : Nat) (v_lastFault : Int) (v_lastTorn : Int) (v_sheets_cells : Nat → Int) (v_sheets_sizes : Nat → Int) (u1_boxes : Int) (u1_startsAt : Int) (u1_facts : Nat → Int) (u1_places : Nat → Int) : va_W := [(a_v, .inr (9, [.ref a_v_tape, .ref a_v_reader, .ref a_v_shop, .ref a_v_seen, .ref a_v_images, .ref a_v_sheets, .ref a_v_search, .ref a_v_odds, .int (zI v_lastFault), .int (zI v_lastTorn)])), (a_v_sheets, .inr (4, [.ref a_v_sheets_cells, .ref a_v_sheets_lanes, .ref a_v_sheets_sizes])), (a_v_sheets_cells, .inl (cy 0, 160, .inl (fun j => zI (v_sheets_cells j)))), (a_v_sheets_sizes, .inl (cy 0, 4, .inl (fun j => zI (v_sheets_sizes j)))), (a_u1, .inr (5, [.ref a_u1_facts, .ref a_u1_places, .int (zI u1_boxes), .int (zI u1_startsAt)])), (a_u1_facts, .inl (cy 0, 30, .inl (fun j => zI (u1_facts j)))), (a_u1_places, .inl (cy 0, 5, .inl (fun j => zI (u1_places j))))]
set_option maxHeartbeats 4000000 in
set_option maxRecDepth 100000 in
theorem c_X9_sewnFromCells (l : Launch) (D : va_G) (cy : Nat → ClassId) (sa : Nat → Nat) (a_v : Nat) (a_v_sheets : Nat) (a_v_sheets_cells : Nat) (a_v_sheets_sizes : Nat) (a_u1 : Nat) (a_u1_facts : Nat) (a_u1_places : Nat) (a_v_tape : Nat) (a_v_reader : Nat) (a_v_shop : Nat) (a_v_seen : Nat) (a_v_images : Nat) (a_v_search : Nat) (a_v_odds : Nat) (a_v_sheets_lanes : Nat) (v_lastFault : Int) (v_lastTorn : Int) (v_sheets_cells : Nat → Int) (v_sheets_sizes : Nat → Int) (u1_boxes : Int) (u1_startsAt : Int) (u1_facts : Nat → Int) (u1_places : Nat → Int) (x2 : Int) (x3 : Int) (o : Int × Int × (Nat → Int) × (Nat → Int)) (h : f_HH_sewnFromCells v_sheets_cells v_sheets_sizes u1_boxes u1_facts u1_places x2 x3 = some o) : CtI l yX9_sewnFromCells wsX9_sewnFromCells ({ frames := 4, cells := 0, slots := 0, locals := 86 }) D cy sa [.ref a_v, .ref a_u1, .int (zI x2), .int (zI x3)] (wd_X9_sewnFromCells cy a_v a_v_sheets a_v_sheets_cells a_v_sheets_sizes a_u1 a_u1_facts a_u1_places a_v_tape a_v_reader a_v_shop a_v_seen a_v_images a_v_search a_v_odds a_v_sheets_lanes v_lastFault v_lastTorn v_sheets_cells v_sheets_sizes u1_boxes u1_startsAt u1_facts u1_places) (wd_X9_sewnFromCells cy a_v a_v_sheets a_v_sheets_cells a_v_sheets_sizes a_u1 a_u1_facts a_u1_places a_v_tape a_v_reader a_v_shop a_v_seen a_v_images a_v_search a_v_odds a_v_sheets_lanes v_lastFault v_lastTorn v_sheets_cells v_sheets_sizes o.2.1 u1_startsAt o.2.2.1 o.2.2.2) o.1 := by
  refine ct_Z (cc := cX9_sewnFromCells) (maxL := 7) (plainFor_of_name (by decide)) rfl (Nat.le_of_ble_eq_true rfl) ?_
  intro p e s m below meth c A args QQ hx hb hml hown hts hE hDD hP KR ls hl
  have hl : lv_has ls 7 [(0, .ref a_v), (1, .ref a_u1), (2, .int (zI x2)), (3, .int (zI x3))] := hl
  have hDD : DD A [a_v, a_v_sheets, a_v_sheets_cells, a_v_sheets_sizes, a_u1, a_u1_facts, a_u1_places] := hDD
  have hS : va_S A s.heap s.heap [] := va_S.rf
  have q0 := hts (.fieldLink RX9 49 "HatHours" "sheets" "LHatHours$Sheets;") (List.mem_of_getElem? (i := 1) rfl)
  have iX9 : ∀ w ∈ u_ws RX9 TX9 10, w ∈ wsX9_sewnFromCells := in_slice 47 10 rfl
  refine lv_aload_n hx hb dX9_sewnFromCells_0 rfl (lv_at hl 0 rfl) ?_
  refine wi_get (v := .ref a_v_sheets) hx hb hts iX9 hown hE hP 0 rfl rfl 5 (by decide) q0 rfl dX9_sewnFromCells_1 ?_
  refine lv_iload_n hx hb dX9_sewnFromCells_4 rfl (lv_at hl 2 rfl) ?_
  refine lv_iload_n hx hb dX9_sewnFromCells_5 rfl (lv_at hl 3 rfl) ?_
  obtain ⟨o1, hc2, h⟩ := bnd_some h
  refine cV_i (rest := []) (w2 := (wd_X9_sewnFromCells cy a_v a_v_sheets a_v_sheets_cells a_v_sheets_sizes a_u1 a_u1_facts a_u1_places a_v_tape a_v_reader a_v_shop a_v_seen a_v_images a_v_search a_v_odds a_v_sheets_lanes v_lastFault v_lastTorn v_sheets_cells v_sheets_sizes u1_boxes u1_startsAt u1_facts u1_places)) ⟨hx, hb, hml, hown, hts⟩ (c_X4_cellAt l D cy sa a_v_sheets a_v_sheets_cells a_v_sheets_sizes a_v_sheets_lanes v_sheets_cells v_sheets_sizes x2 x3 o1 hc2) (cwV 2 hts gX9_sewnFromCells_X4_cellAt rfl rfl rfl (by decide +kernel) ⟨Nat.le_of_ble_eq_true rfl, Nat.le_of_ble_eq_true rfl⟩) rfl rfl rfl hE hP hDD rfl hS [1, 2, 3] rfl rfl rfl rfl hl.1 (Nat.le_of_ble_eq_true rfl) ⟨Nat.zero_le _, Nat.zero_le _⟩ rfl dX9_sewnFromCells_6 rfl (fun H locs hP hS => ?_)
  refine lv_istore (lv' := [(4, .int (zI o1)), (0, .ref a_v), (1, .ref a_u1), (2, .int (zI x2)), (3, .int (zI x3))]) hx hb dX9_sewnFromCells_9 hl (by decide) rfl (fun ls hl => ?_)
  refine lv_aload_n hx hb dX9_sewnFromCells_11 rfl (lv_at hl 1 rfl) ?_
  refine wi_get (v := .ref a_v_sheets) hx hb hts iX9 hown hE hP 0 rfl rfl 5 (by decide) q0 rfl dX9_sewnFromCells_12 ?_
  refine lv_iload_n hx hb dX9_sewnFromCells_15 rfl (lv_at hl 3 rfl) ?_
  refine lv_iload_n hx hb dX9_sewnFromCells_16 rfl (lv_at hl 4 rfl) ?_
  refine wi_ic hx hb dX9_sewnFromCells_17 ?_
  refine wi_iadd hx hb dX9_sewnFromCells_18 ?_
  obtain ⟨o3, hc4, h⟩ := bnd_some h
  refine cV_i (rest := []) (w2 := (wd_X9_sewnFromCells cy a_v a_v_sheets a_v_sheets_cells a_v_sheets_sizes a_u1 a_u1_facts a_u1_places a_v_tape a_v_reader a_v_shop a_v_seen a_v_images a_v_search a_v_odds a_v_sheets_lanes v_lastFault v_lastTorn v_sheets_cells v_sheets_sizes u1_boxes u1_startsAt u1_facts u1_places)) ⟨hx, hb, hml, hown, hts⟩ (c_X4_cellAt l D cy sa a_v_sheets a_v_sheets_cells a_v_sheets_sizes a_v_sheets_lanes v_sheets_cells v_sheets_sizes x2 (x3 + 1) o3 hc4) (cwV 2 hts gX9_sewnFromCells_X4_cellAt rfl rfl rfl (by decide +kernel) ⟨Nat.le_of_ble_eq_true rfl, Nat.le_of_ble_eq_true rfl⟩) rfl rfl rfl hE hP hDD rfl hS [1, 2, 3] rfl rfl rfl rfl hl.1 (Nat.le_of_ble_eq_true rfl) ⟨Nat.zero_le _, Nat.zero_le _⟩ rfl dX9_sewnFromCells_19 rfl (fun H locs hP hS => ?_)
  refine lv_istore (lv' := [(5, .int (zI o3)), (4, .int (zI o1)), (0, .ref a_v), (1, .ref a_u1), (2, .int (zI x2)), (3, .int (zI x3))]) hx hb dX9_sewnFromCells_22 hl (by decide) rfl (fun ls hl => ?_)
  refine lv_aload_n hx hb dX9_sewnFromCells_24 rfl (lv_at hl 2 rfl) ?_
  refine wi_get (v := .ref a_v_sheets) hx hb hts iX9 hown hE hP 0 rfl rfl 5 (by decide) q0 rfl dX9_sewnFromCells_25 ?_
  refine lv_iload_n hx hb dX9_sewnFromCells_28 rfl (lv_at hl 4 rfl) ?_
  refine lv_iload_n hx hb dX9_sewnFromCells_29 rfl (lv_at hl 5 rfl) ?_
  refine wi_ic hx hb dX9_sewnFromCells_30 ?_
  refine wi_iadd hx hb dX9_sewnFromCells_31 ?_
  obtain ⟨o5, hc6, h⟩ := bnd_some h
  refine cV_i (rest := []) (w2 := (wd_X9_sewnFromCells cy a_v a_v_sheets a_v_sheets_cells a_v_sheets_sizes a_u1 a_u1_facts a_u1_places a_v_tape a_v_reader a_v_shop a_v_seen a_v_images a_v_search a_v_odds a_v_sheets_lanes v_lastFault v_lastTorn v_sheets_cells v_sheets_sizes u1_boxes u1_startsAt u1_facts u1_places)) ⟨hx, hb, hml, hown, hts⟩ (c_X4_cellAt l D cy sa a_v_sheets a_v_sheets_cells a_v_sheets_sizes a_v_sheets_lanes v_sheets_cells v_sheets_sizes x2 (x3 + 2) o5 hc6) (cwV 2 hts gX9_sewnFromCells_X4_cellAt rfl rfl rfl (by decide +kernel) ⟨Nat.le_of_ble_eq_true rfl, Nat.le_of_ble_eq_true rfl⟩) rfl rfl rfl hE hP hDD rfl hS [1, 2, 3] rfl rfl rfl rfl hl.1 (Nat.le_of_ble_eq_true rfl) ⟨Nat.zero_le _, Nat.zero_le _⟩ rfl dX9_sewnFromCells_32 rfl (fun H locs hP hS => ?_)
  refine lv_istore (lv' := [(6, .int (zI o5)), (5, .int (zI o3)), (4, .int (zI o1)), (0, .ref a_v), (1, .ref a_u1), (2, .int (zI x2)), (3, .int (zI x3))]) hx hb dX9_sewnFromCells_35 hl (by decide) rfl (fun ls hl => ?_)
  refine lv_aload_n hx hb dX9_sewnFromCells_37 rfl (lv_at hl 4 rfl) ?_
  refine lv_iload hx hb dX9_sewnFromCells_38 (lv_at hl 2 rfl) ?_
  refine lv_iload hx hb dX9_sewnFromCells_40 (lv_at hl 1 rfl) ?_
  refine lv_iload hx hb dX9_sewnFromCells_42 (lv_at hl 0 rfl) ?_
  obtain ⟨o7, hc8, h⟩ := bnd_some h
  refine cV_i (rest := []) (w2 := (wd_X9_sewnFromCells cy a_v a_v_sheets a_v_sheets_cells a_v_sheets_sizes a_u1 a_u1_facts a_u1_places a_v_tape a_v_reader a_v_shop a_v_seen a_v_images a_v_search a_v_odds a_v_sheets_lanes v_lastFault v_lastTorn v_sheets_cells v_sheets_sizes u1_boxes u1_startsAt u1_facts u1_places)) ⟨hx, hb, hml, hown, hts⟩ (c_X5_refusal l D cy sa a_u1 a_u1_facts a_u1_places u1_boxes u1_startsAt o1 o3 o5 o7 hc8) (cwV 3 hts gX9_sewnFromCells_X5_refusal rfl rfl rfl (by decide +kernel) ⟨Nat.le_of_ble_eq_true rfl, Nat.le_of_ble_eq_true rfl⟩) rfl rfl rfl hE hP hDD rfl hS [4] rfl rfl rfl rfl hl.1 (Nat.le_of_ble_eq_true rfl) ⟨Nat.zero_le _, Nat.zero_le _⟩ rfl dX9_sewnFromCells_44 rfl (fun H locs hP hS => ?_)
  obtain ⟨hr9, h⟩ := chk_some h
  refine wi_if_eq (tgt := 52) hx hb dX9_sewnFromCells_47 (by decide) hr9 (fun c11 => ?_) (fun c11 => ?_)
  · have h := ite_t c11 h
    refine lv_aload_n hx hb dX9_sewnFromCells_52 rfl (lv_at hl 4 rfl) ?_
    refine lv_iload hx hb dX9_sewnFromCells_53 (lv_at hl 2 rfl) ?_
    refine lv_iload hx hb dX9_sewnFromCells_55 (lv_at hl 1 rfl) ?_
    refine lv_iload hx hb dX9_sewnFromCells_57 (lv_at hl 0 rfl) ?_
    obtain ⟨o12, hc13, h⟩ := bnd_some h
    refine cV_i (rest := []) (w2 := (wd_X9_sewnFromCells cy a_v a_v_sheets a_v_sheets_cells a_v_sheets_sizes a_u1 a_u1_facts a_u1_places a_v_tape a_v_reader a_v_shop a_v_seen a_v_images a_v_search a_v_odds a_v_sheets_lanes v_lastFault v_lastTorn v_sheets_cells v_sheets_sizes o12.2.1 u1_startsAt o12.2.2.1 o12.2.2.2)) ⟨hx, hb, hml, hown, hts⟩ (c_X5_addPlain l D cy sa a_u1 a_u1_facts a_u1_places u1_boxes u1_startsAt u1_facts u1_places o1 o3 o5 o12 hc13) (cwV 3 hts gX9_sewnFromCells_X5_addPlain rfl rfl rfl (by decide +kernel) ⟨Nat.le_of_ble_eq_true rfl, Nat.le_of_ble_eq_true rfl⟩) rfl rfl rfl hE hP hDD rfl hS [4, 5, 6] rfl rfl rfl rfl hl.1 (Nat.le_of_ble_eq_true rfl) ⟨Nat.zero_le _, Nat.zero_le _⟩ rfl dX9_sewnFromCells_59 rfl (fun H locs hP hS => ?_)
    refine lv_pop hx hb dX9_sewnFromCells_62 rfl ?_
    refine wi_ic hx hb dX9_sewnFromCells_63 ?_
    obtain rfl := Option.some.inj h
    exact KR _ _ _ _ (z01 (Or.inr rfl)) hP hS dX9_sewnFromCells_64
  · have h := ite_f c11 h
    refine wi_ic hx hb dX9_sewnFromCells_50 ?_
    obtain rfl := Option.some.inj h
    exact KR _ _ _ _ (z01 (Or.inl rfl)) hP hS dX9_sewnFromCells_51
abbrev wd_X9_read (cy : Nat → ClassId) (a_v : Nat) (a_v_search : Nat) (a_v_search_draft : Nat) (a_v_search_draft_facts : Nat) (a_v_search_draft_places : Nat) (a_v_sheets : Nat) (a_v_sheets_cells : Nat) (a_v_sheets_lanes : Nat) (a_v_sheets_sizes : Nat) (a_v_shop : Nat) (a_v_shop_facts : Nat) (a_v_shop_places : Nat) (a_v_tape : Nat) (a_v_reader : Nat) (a_v_seen : Nat) (a_v_images : Nat) (a_v_odds : Nat) (a_v_search_least : Nat) (a_v_search_bestPlaces : Nat) (a_v_search_startsLeft : Nat) (v_lastFault : Int) (v_lastTorn : Int) (v_search_draft_boxes : Int) (v_search_draft_startsAt : Int) (v_search_draft_facts : Nat → Int) (v_search_draft_places : Nat → Int) (v_sheets_cells : Nat → Int) (v_sheets_lanes : Nat → Int) (v_sheets_sizes : Nat → Int) (v_shop_boxes : Int) (v_shop_startsAt : Int) (v_shop_facts : Nat → Int) (v_shop_places : Nat → Int) : va_W := [(a_v, .inr (9, [.ref a_v_tape, .ref a_v_reader, .ref a_v_shop, .ref a_v_seen, .ref a_v_images, .ref a_v_sheets, .ref a_v_search, .ref a_v_odds, .int (zI v_lastFault), .int (zI v_lastTorn)])), (a_v_search, .inr (3, [.ref a_v_search_draft, .ref a_v_search_least, .ref a_v_search_bestPlaces, .ref a_v_search_startsLeft])), (a_v_search_draft, .inr (5, [.ref a_v_search_draft_facts, .ref a_v_search_draft_places, .int (zI v_search_draft_boxes), .int (zI v_search_draft_startsAt)])), (a_v_search_draft_facts, .inl (cy 0, 30, .inl (fun j => zI (v_search_draft_facts j)))), (a_v_search_draft_places, .inl (cy 0, 5, .inl (fun j => zI (v_search_draft_places j)))), (a_v_sheets, .inr (4, [.ref a_v_sheets_cells, .ref a_v_sheets_lanes, .ref a_v_sheets_sizes])), (a_v_sheets_cells, .inl (cy 0, 160, .inl (fun j => zI (v_sheets_cells j)))), (a_v_sheets_lanes, .inl (cy 0, 4, .inl (fun j => zI (v_sheets_lanes j)))), (a_v_sheets_sizes, .inl (cy 0, 4, .inl (fun j => zI (v_sheets_sizes j)))), (a_v_shop, .inr (5, [.ref a_v_shop_facts, .ref a_v_shop_places, .int (zI v_shop_boxes), .int (zI v_shop_startsAt)])), (a_v_shop_facts, .inl (cy 0, 30, .inl (fun j => zI (v_shop_facts j)))), (a_v_shop_places, .inl (cy 0, 5, .inl (fun j => zI (v_shop_places j))))]
set_option maxHeartbeats 4000000 in
set_option maxRecDepth 100000 in
theorem c_X9_read (l : Launch) (D : va_G) (cy : Nat → ClassId) (sa : Nat → Nat) (a_v : Nat) (a_v_search : Nat) (a_v_search_draft : Nat) (a_v_search_draft_facts : Nat) (a_v_search_draft_places : Nat) (a_v_sheets : Nat) (a_v_sheets_cells : Nat) (a_v_sheets_lanes : Nat) (a_v_sheets_sizes : Nat) (a_v_shop : Nat) (a_v_shop_facts : Nat) (a_v_shop_places : Nat) (a_v_tape : Nat) (a_v_reader : Nat) (a_v_seen : Nat) (a_v_images : Nat) (a_v_odds : Nat) (a_v_search_least : Nat) (a_v_search_bestPlaces : Nat) (a_v_search_startsLeft : Nat) (v_lastFault : Int) (v_lastTorn : Int) (v_search_draft_boxes : Int) (v_search_draft_startsAt : Int) (v_search_draft_facts : Nat → Int) (v_search_draft_places : Nat → Int) (v_sheets_cells : Nat → Int) (v_sheets_lanes : Nat → Int) (v_sheets_sizes : Nat → Int) (v_shop_boxes : Int) (v_shop_startsAt : Int) (v_shop_facts : Nat → Int) (v_shop_places : Nat → Int) (x1 : Int) (x2 : Int) (x3 : Int) (x4 : Int) (o : Int × Int × Int × Int × (Nat → Int) × (Nat → Int) × Int × Int × (Nat → Int) × (Nat → Int)) (h : f_HH_read v_lastTorn v_search_draft_boxes v_search_draft_startsAt v_search_draft_facts v_search_draft_places v_sheets_cells v_sheets_lanes v_sheets_sizes v_shop_boxes v_shop_startsAt v_shop_facts v_shop_places x1 x2 x3 x4 = some o) : CtI l yX9_read wsX9_read ({ frames := 5, cells := 0, slots := 0, locals := 112 }) D cy sa [.ref a_v, .int (zI x1), .int (zI x2), .int (zI x3), .int (zI x4)] (wd_X9_read cy a_v a_v_search a_v_search_draft a_v_search_draft_facts a_v_search_draft_places a_v_sheets a_v_sheets_cells a_v_sheets_lanes a_v_sheets_sizes a_v_shop a_v_shop_facts a_v_shop_places a_v_tape a_v_reader a_v_seen a_v_images a_v_odds a_v_search_least a_v_search_bestPlaces a_v_search_startsLeft v_lastFault v_lastTorn v_search_draft_boxes v_search_draft_startsAt v_search_draft_facts v_search_draft_places v_sheets_cells v_sheets_lanes v_sheets_sizes v_shop_boxes v_shop_startsAt v_shop_facts v_shop_places) (wd_X9_read cy a_v a_v_search a_v_search_draft a_v_search_draft_facts a_v_search_draft_places a_v_sheets a_v_sheets_cells a_v_sheets_lanes a_v_sheets_sizes a_v_shop a_v_shop_facts a_v_shop_places a_v_tape a_v_reader a_v_seen a_v_images a_v_odds a_v_search_least a_v_search_bestPlaces a_v_search_startsLeft v_lastFault o.2.1 o.2.2.1 o.2.2.2.1 o.2.2.2.2.1 o.2.2.2.2.2.1 v_sheets_cells v_sheets_lanes v_sheets_sizes o.2.2.2.2.2.2.1 o.2.2.2.2.2.2.2.1 o.2.2.2.2.2.2.2.2.1 o.2.2.2.2.2.2.2.2.2) o.1 := by
  refine ct_I (cc := cX9_read) (maxL := 10) (plainFor_of_name (by decide)) rfl (Nat.le_of_ble_eq_true rfl) ?_
  intro p e s m below meth c A args QQ hx hb hml hown hts hE hDD hP KR ls hl
  have hl : lv_has ls 10 [(0, .ref a_v), (1, .int (zI x1)), (2, .int (zI x2)), (3, .int (zI x3)), (4, .int (zI x4))] := hl
  have hDD : DD A [a_v, a_v_search, a_v_search_draft, a_v_search_draft_facts, a_v_search_draft_places, a_v_sheets, a_v_sheets_cells, a_v_sheets_lanes, a_v_sheets_sizes, a_v_shop, a_v_shop_facts, a_v_shop_places] := hDD
  have hS : va_S A s.heap s.heap [] := va_S.rf
  have q0 := hts (.fieldLink RX9 56 "HatHours" "search" "LHatHours$Search;") (List.mem_of_getElem? (i := 1) rfl)
  have q1 := hts (.fieldLink RX9 28 "HatHours" "shop" "LHatHours$Shop;") (List.mem_of_getElem? (i := 2) rfl)
  have q2 := hts (.fieldLink RX9 300 "HatHours" "lastTorn" "I") (List.mem_of_getElem? (i := 4) rfl)
  have q3 := hts (.fieldLink RX9 49 "HatHours" "sheets" "LHatHours$Sheets;") (List.mem_of_getElem? (i := 3) rfl)
  have iX9 : ∀ w ∈ u_ws RX9 TX9 10, w ∈ wsX9_read := in_slice 92 10 rfl
  have L49 : ∀ (fuel : Nat) (v_lastTorn : Int) (v_search_draft_boxes : Int) (v_search_draft_startsAt : Int) (v_search_draft_facts : Nat → Int) (v_search_draft_places : Nat → Int) (v_shop_boxes : Int) (v_shop_startsAt : Int) (v_shop_facts : Nat → Int) (v_shop_places : Nat → Int) (x1 : Int) (x2 : Int) (x3 : Int) (x4 : Int) (x6 : Int) (x7 : Int) (x8 : Int) (H : Heap) (locs : List Loc) (ls : Array Slot), va_P D vwCl (wd_X9_read cy a_v a_v_search a_v_search_draft a_v_search_draft_facts a_v_search_draft_places a_v_sheets a_v_sheets_cells a_v_sheets_lanes a_v_sheets_sizes a_v_shop a_v_shop_facts a_v_shop_places a_v_tape a_v_reader a_v_seen a_v_images a_v_odds a_v_search_least a_v_search_bestPlaces a_v_search_startsLeft v_lastFault v_lastTorn v_search_draft_boxes v_search_draft_startsAt v_search_draft_facts v_search_draft_places v_sheets_cells v_sheets_lanes v_sheets_sizes v_shop_boxes v_shop_startsAt v_shop_facts v_shop_places) H → va_S A s.heap H locs → lv_has ls 10 [(0, .ref a_v), (1, .int (zI x1)), (2, .int (zI x2)), (3, .int (zI x3)), (4, .int (zI x4)), (5, .ref a_v_search_draft), (6, .int (zI x6)), (7, .int (zI x7)), (8, .int (zI x8))] → f_HH_read_L49 fuel v_lastTorn v_search_draft_boxes v_search_draft_startsAt v_search_draft_facts v_search_draft_places v_sheets_cells v_sheets_lanes v_sheets_sizes v_shop_boxes v_shop_startsAt v_shop_facts v_shop_places x1 x2 x3 x4 x6 x7 x8 = some o → W p l e { frames := 5, cells := 0, slots := 0, locals := 112 } s m args below meth c H locs 0 0 QQ (F0 m 49 ls []) := by
    intro fuel
    induction fuel with
    | zero => intro _ _ _ _ _ _ _ _ _ _ _ _ _ _ _ _ H locs ls hP hS hl h; cases h
    | succ fuel ih =>
      intro v_lastTorn v_search_draft_boxes v_search_draft_startsAt v_search_draft_facts v_search_draft_places v_shop_boxes v_shop_startsAt v_shop_facts v_shop_places x1 x2 x3 x4 x6 x7 x8 H locs ls hP hS hl h
      refine lv_iload hx hb dX9_read_49 (lv_at hl 8 rfl) ?_
      refine lv_iload hx hb dX9_read_51 (lv_at hl 4 rfl) ?_
      obtain ⟨hr18, h⟩ := chk_some h
      obtain ⟨hr19, h⟩ := chk_some h
      refine wi_ic_ge (tgt := 114) hx hb dX9_read_53 (by decide) hr18 hr19 (fun c21 => ?_) (fun c21 => ?_)
      · have h := ite_t c21 h
        refine lv_aload_n hx hb dX9_read_114 rfl (lv_at hl 0 rfl) ?_
        refine wi_get (v := .ref a_v_shop) hx hb hts iX9 hown hE hP 0 rfl rfl 2 (by decide) q1 rfl dX9_read_115 ?_
        refine lv_aload hx hb dX9_read_118 (lv_at hl 5 rfl) ?_
        obtain ⟨o22, hc23, h⟩ := bnd_some h
        refine cV_v (rest := []) (w2 := (wd_X9_read cy a_v a_v_search a_v_search_draft a_v_search_draft_facts a_v_search_draft_places a_v_sheets a_v_sheets_cells a_v_sheets_lanes a_v_sheets_sizes a_v_shop a_v_shop_facts a_v_shop_places a_v_tape a_v_reader a_v_seen a_v_images a_v_odds a_v_search_least a_v_search_bestPlaces a_v_search_startsLeft v_lastFault v_lastTorn v_search_draft_boxes v_search_draft_startsAt v_search_draft_facts v_search_draft_places v_sheets_cells v_sheets_lanes v_sheets_sizes o22.1 o22.2.1 o22.2.2.1 o22.2.2.2)) ⟨hx, hb, hml, hown, hts⟩ (c_X5_copyFrom l D cy sa a_v_shop a_v_shop_facts a_v_shop_places a_v_search_draft a_v_search_draft_facts a_v_search_draft_places v_shop_boxes v_shop_startsAt v_shop_facts v_shop_places v_search_draft_boxes v_search_draft_startsAt v_search_draft_facts v_search_draft_places o22 hc23) (cwV 1 hts gX9_read_X5_copyFrom rfl rfl rfl (by decide +kernel) ⟨Nat.le_of_ble_eq_true rfl, Nat.le_of_ble_eq_true rfl⟩) rfl rfl rfl hE hP hDD rfl hS [9, 10, 11, 2, 3, 4] rfl rfl rfl rfl hl.1 (Nat.le_of_ble_eq_true rfl) ⟨Nat.zero_le _, Nat.zero_le _⟩ rfl dX9_read_120 rfl (fun H locs hP hS => ?_)
        refine lv_aload_n hx hb dX9_read_123 rfl (lv_at hl 0 rfl) ?_
        refine lv_iload hx hb dX9_read_124 (lv_at hl 6 rfl) ?_
        refine wi_put (ty := .int) (v := .int (zI x6)) (w2 := (wd_X9_read cy a_v a_v_search a_v_search_draft a_v_search_draft_facts a_v_search_draft_places a_v_sheets a_v_sheets_cells a_v_sheets_lanes a_v_sheets_sizes a_v_shop a_v_shop_facts a_v_shop_places a_v_tape a_v_reader a_v_seen a_v_images a_v_odds a_v_search_least a_v_search_bestPlaces a_v_search_startsLeft v_lastFault x6 v_search_draft_boxes v_search_draft_startsAt v_search_draft_facts v_search_draft_places v_sheets_cells v_sheets_lanes v_sheets_sizes o22.1 o22.2.1 o22.2.2.1 o22.2.2.2)) hx hb hts iX9 tyX9 tyX9_ok nmX9 hown hE hP hDD rfl hS 0 rfl rfl 9 (by decide) q2 rfl (by decide +kernel) rfl rfl (Nat.le_of_ble_eq_true rfl) dX9_read_126 rfl (fun H locs hP hS => ?_)
        refine lv_iload hx hb dX9_read_129 (lv_at hl 7 rfl) ?_
        obtain rfl := Option.some.inj h
        exact KR _ _ _ _ hP hS dX9_read_131
      · have h := ite_f c21 h
        refine lv_iload hx hb dX9_read_56 (lv_at hl 6 rfl) ?_
        obtain ⟨hr24, h⟩ := chk_some h
        refine wi_if_ne (tgt := 114) hx hb dX9_read_58 (by decide) hr24 (fun c26 => ?_) (fun c26 => ?_)
        · have h := ite_f c26 h
          refine lv_aload_n hx hb dX9_read_114 rfl (lv_at hl 0 rfl) ?_
          refine wi_get (v := .ref a_v_shop) hx hb hts iX9 hown hE hP 0 rfl rfl 2 (by decide) q1 rfl dX9_read_115 ?_
          refine lv_aload hx hb dX9_read_118 (lv_at hl 5 rfl) ?_
          obtain ⟨o27, hc28, h⟩ := bnd_some h
          refine cV_v (rest := []) (w2 := (wd_X9_read cy a_v a_v_search a_v_search_draft a_v_search_draft_facts a_v_search_draft_places a_v_sheets a_v_sheets_cells a_v_sheets_lanes a_v_sheets_sizes a_v_shop a_v_shop_facts a_v_shop_places a_v_tape a_v_reader a_v_seen a_v_images a_v_odds a_v_search_least a_v_search_bestPlaces a_v_search_startsLeft v_lastFault v_lastTorn v_search_draft_boxes v_search_draft_startsAt v_search_draft_facts v_search_draft_places v_sheets_cells v_sheets_lanes v_sheets_sizes o27.1 o27.2.1 o27.2.2.1 o27.2.2.2)) ⟨hx, hb, hml, hown, hts⟩ (c_X5_copyFrom l D cy sa a_v_shop a_v_shop_facts a_v_shop_places a_v_search_draft a_v_search_draft_facts a_v_search_draft_places v_shop_boxes v_shop_startsAt v_shop_facts v_shop_places v_search_draft_boxes v_search_draft_startsAt v_search_draft_facts v_search_draft_places o27 hc28) (cwV 1 hts gX9_read_X5_copyFrom rfl rfl rfl (by decide +kernel) ⟨Nat.le_of_ble_eq_true rfl, Nat.le_of_ble_eq_true rfl⟩) rfl rfl rfl hE hP hDD rfl hS [9, 10, 11, 2, 3, 4] rfl rfl rfl rfl hl.1 (Nat.le_of_ble_eq_true rfl) ⟨Nat.zero_le _, Nat.zero_le _⟩ rfl dX9_read_120 rfl (fun H locs hP hS => ?_)
          refine lv_aload_n hx hb dX9_read_123 rfl (lv_at hl 0 rfl) ?_
          refine lv_iload hx hb dX9_read_124 (lv_at hl 6 rfl) ?_
          refine wi_put (ty := .int) (v := .int (zI x6)) (w2 := (wd_X9_read cy a_v a_v_search a_v_search_draft a_v_search_draft_facts a_v_search_draft_places a_v_sheets a_v_sheets_cells a_v_sheets_lanes a_v_sheets_sizes a_v_shop a_v_shop_facts a_v_shop_places a_v_tape a_v_reader a_v_seen a_v_images a_v_odds a_v_search_least a_v_search_bestPlaces a_v_search_startsLeft v_lastFault x6 v_search_draft_boxes v_search_draft_startsAt v_search_draft_facts v_search_draft_places v_sheets_cells v_sheets_lanes v_sheets_sizes o27.1 o27.2.1 o27.2.2.1 o27.2.2.2)) hx hb hts iX9 tyX9 tyX9_ok nmX9 hown hE hP hDD rfl hS 0 rfl rfl 9 (by decide) q2 rfl (by decide +kernel) rfl rfl (Nat.le_of_ble_eq_true rfl) dX9_read_126 rfl (fun H locs hP hS => ?_)
          refine lv_iload hx hb dX9_read_129 (lv_at hl 7 rfl) ?_
          obtain rfl := Option.some.inj h
          exact KR _ _ _ _ hP hS dX9_read_131
        · have h := ite_t c26 h
          refine lv_iload_n hx hb dX9_read_61 rfl (lv_at hl 3 rfl) ?_
          refine wi_ic hx hb dX9_read_62 ?_
          refine lv_iload hx hb dX9_read_63 (lv_at hl 8 rfl) ?_
          refine wi_imul hx hb dX9_read_65 ?_
          refine wi_iadd hx hb dX9_read_66 ?_
          refine lv_istore (lv' := [(9, .int (zI (x3 + (3 * x8)))), (0, .ref a_v), (1, .int (zI x1)), (2, .int (zI x2)), (3, .int (zI x3)), (4, .int (zI x4)), (5, .ref a_v_search_draft), (6, .int (zI x6)), (7, .int (zI x7)), (8, .int (zI x8))]) hx hb dX9_read_67 hl (by decide) rfl (fun ls hl => ?_)
          refine lv_aload_n hx hb dX9_read_69 rfl (lv_at hl 1 rfl) ?_
          refine wi_get (v := .ref a_v_sheets) hx hb hts iX9 hown hE hP 0 rfl rfl 5 (by decide) q3 rfl dX9_read_70 ?_
          refine lv_iload_n hx hb dX9_read_73 rfl (lv_at hl 2 rfl) ?_
          refine lv_iload_n hx hb dX9_read_74 rfl (lv_at hl 3 rfl) ?_
          refine lv_iload hx hb dX9_read_75 (lv_at hl 0 rfl) ?_
          obtain ⟨o29, hc30, h⟩ := bnd_some h
          refine cV_i (rest := []) (w2 := (wd_X9_read cy a_v a_v_search a_v_search_draft a_v_search_draft_facts a_v_search_draft_places a_v_sheets a_v_sheets_cells a_v_sheets_lanes a_v_sheets_sizes a_v_shop a_v_shop_facts a_v_shop_places a_v_tape a_v_reader a_v_seen a_v_images a_v_odds a_v_search_least a_v_search_bestPlaces a_v_search_startsLeft v_lastFault v_lastTorn v_search_draft_boxes v_search_draft_startsAt v_search_draft_facts v_search_draft_places v_sheets_cells v_sheets_lanes v_sheets_sizes v_shop_boxes v_shop_startsAt v_shop_facts v_shop_places)) ⟨hx, hb, hml, hown, hts⟩ (c_X4_faultOfThree l D cy sa a_v_sheets a_v_sheets_lanes a_v_sheets_sizes a_v_sheets_cells v_sheets_lanes v_sheets_sizes x1 x2 (x3 + (3 * x8)) o29 hc30) (cwV 3 hts gX9_read_X4_faultOfThree rfl rfl rfl (by decide +kernel) ⟨Nat.le_of_ble_eq_true rfl, Nat.le_of_ble_eq_true rfl⟩) rfl rfl rfl hE hP hDD rfl hS [5, 7, 8] rfl rfl rfl rfl hl.1 (Nat.le_of_ble_eq_true rfl) ⟨Nat.zero_le _, Nat.zero_le _⟩ rfl dX9_read_77 rfl (fun H locs hP hS => ?_)
          refine lv_istore (lv' := [(6, .int (zI o29)), (9, .int (zI (x3 + (3 * x8)))), (0, .ref a_v), (1, .int (zI x1)), (2, .int (zI x2)), (3, .int (zI x3)), (4, .int (zI x4)), (5, .ref a_v_search_draft), (7, .int (zI x7)), (8, .int (zI x8))]) hx hb dX9_read_80 hl (by decide) rfl (fun ls hl => ?_)
          refine lv_iload hx hb dX9_read_82 (lv_at hl 0 rfl) ?_
          obtain ⟨hr31, h⟩ := chk_some h
          refine wi_if_ne (tgt := 108) hx hb dX9_read_84 (by decide) hr31 (fun c33 => ?_) (fun c33 => ?_)
          · have h := ite_f c33 h
            refine wi_iinc (k := 9) (lv' := [(8, .int (zI (x8 + 1))), (6, .int (zI o29)), (9, .int (zI (x3 + (3 * x8)))), (0, .ref a_v), (1, .int (zI x1)), (2, .int (zI x2)), (3, .int (zI x3)), (4, .int (zI x4)), (5, .ref a_v_search_draft), (7, .int (zI x7))]) hx hb dX9_read_108 hl rfl (by decide) rfl (fun ls hl => ?_)
            refine lv_goto (tgt := 49) hx hb dX9_read_111 (by decide) ?_
            exact ih v_lastTorn v_search_draft_boxes v_search_draft_startsAt v_search_draft_facts v_search_draft_places v_shop_boxes v_shop_startsAt v_shop_facts v_shop_places x1 x2 x3 x4 o29 x7 (x8 + 1) _ _ _ hP hS (lv_sub hl [3, 4, 5, 6, 7, 8, 1, 9, 0] rfl) h
          · have h := ite_t c33 h
            refine lv_aload_n hx hb dX9_read_87 rfl (lv_at hl 2 rfl) ?_
            refine lv_aload hx hb dX9_read_88 (lv_at hl 7 rfl) ?_
            refine lv_iload_n hx hb dX9_read_90 rfl (lv_at hl 3 rfl) ?_
            refine lv_iload hx hb dX9_read_91 (lv_at hl 1 rfl) ?_
            obtain ⟨o34, hc35, h⟩ := bnd_some h
            refine cV_i (rest := []) (w2 := (wd_X9_read cy a_v a_v_search a_v_search_draft a_v_search_draft_facts a_v_search_draft_places a_v_sheets a_v_sheets_cells a_v_sheets_lanes a_v_sheets_sizes a_v_shop a_v_shop_facts a_v_shop_places a_v_tape a_v_reader a_v_seen a_v_images a_v_odds a_v_search_least a_v_search_bestPlaces a_v_search_startsLeft v_lastFault v_lastTorn o34.2.1 v_search_draft_startsAt o34.2.2.1 o34.2.2.2 v_sheets_cells v_sheets_lanes v_sheets_sizes v_shop_boxes v_shop_startsAt v_shop_facts v_shop_places)) ⟨hx, hb, hml, hown, hts⟩ (c_X9_sewnFromCells l D cy sa a_v a_v_sheets a_v_sheets_cells a_v_sheets_sizes a_v_search_draft a_v_search_draft_facts a_v_search_draft_places a_v_tape a_v_reader a_v_shop a_v_seen a_v_images a_v_search a_v_odds a_v_sheets_lanes v_lastFault v_lastTorn v_sheets_cells v_sheets_sizes v_search_draft_boxes v_search_draft_startsAt v_search_draft_facts v_search_draft_places x1 (x3 + (3 * x8)) o34 hc35) (cwV 3 hts gX9_read_X9_sewnFromCells rfl rfl rfl (by decide +kernel) ⟨Nat.le_of_ble_eq_true rfl, Nat.le_of_ble_eq_true rfl⟩) rfl rfl rfl hE hP hDD rfl hS [0, 5, 6, 8, 2, 3, 4] rfl rfl rfl rfl hl.1 (Nat.le_of_ble_eq_true rfl) ⟨Nat.zero_le _, Nat.zero_le _⟩ rfl dX9_read_93 rfl (fun H locs hP hS => ?_)
            obtain ⟨hr36, h⟩ := chk_some h
            refine wi_if_ne (tgt := 105) hx hb dX9_read_96 (by decide) hr36 (fun c38 => ?_) (fun c38 => ?_)
            · have h := ite_f c38 h
              refine wi_iinc (k := 8) (lv' := [(7, .int (zI (x7 + 1))), (6, .int (zI o29)), (9, .int (zI (x3 + (3 * x8)))), (0, .ref a_v), (1, .int (zI x1)), (2, .int (zI x2)), (3, .int (zI x3)), (4, .int (zI x4)), (5, .ref a_v_search_draft), (8, .int (zI x8))]) hx hb dX9_read_105 hl rfl (by decide) rfl (fun ls hl => ?_)
              refine wi_iinc (k := 9) (lv' := [(8, .int (zI (x8 + 1))), (7, .int (zI (x7 + 1))), (6, .int (zI o29)), (9, .int (zI (x3 + (3 * x8)))), (0, .ref a_v), (1, .int (zI x1)), (2, .int (zI x2)), (3, .int (zI x3)), (4, .int (zI x4)), (5, .ref a_v_search_draft)]) hx hb dX9_read_108 hl rfl (by decide) rfl (fun ls hl => ?_)
              refine lv_goto (tgt := 49) hx hb dX9_read_111 (by decide) ?_
              exact ih v_lastTorn o34.2.1 v_search_draft_startsAt o34.2.2.1 o34.2.2.2 v_shop_boxes v_shop_startsAt v_shop_facts v_shop_places x1 x2 x3 x4 o29 (x7 + 1) (x8 + 1) _ _ _ hP hS (lv_sub hl [4, 5, 6, 7, 8, 9, 2, 1, 0] rfl) h
            · have h := ite_t c38 h
              refine wi_bi hx hb dX9_read_99 (by decide) ?_
              refine lv_iload hx hb dX9_read_101 (lv_at hl 9 rfl) ?_
              refine wi_isub hx hb dX9_read_103 ?_
              obtain rfl := Option.some.inj h
              exact KR _ _ _ _ hP hS dX9_read_104
  refine lv_iload_n hx hb dX9_read_0 rfl (lv_at hl 1 rfl) ?_
  obtain ⟨o1, hc2, h⟩ := bnd_some h
  refine cS_i (rest := []) (w2 := (wd_X9_read cy a_v a_v_search a_v_search_draft a_v_search_draft_facts a_v_search_draft_places a_v_sheets a_v_sheets_cells a_v_sheets_lanes a_v_sheets_sizes a_v_shop a_v_shop_facts a_v_shop_places a_v_tape a_v_reader a_v_seen a_v_images a_v_odds a_v_search_least a_v_search_bestPlaces a_v_search_startsLeft v_lastFault v_lastTorn v_search_draft_boxes v_search_draft_startsAt v_search_draft_facts v_search_draft_places v_sheets_cells v_sheets_lanes v_sheets_sizes v_shop_boxes v_shop_startsAt v_shop_facts v_shop_places)) ⟨hx, hb, hml, hown, hts⟩ (c_X4_has l D cy sa x1 o1 hc2) (va_cwS 1 hts gX9_read_X4_has rfl rfl rfl (by decide +kernel) ⟨Nat.le_of_ble_eq_true rfl, Nat.le_of_ble_eq_true rfl⟩) hE hP hDD rfl hS [] rfl rfl rfl rfl hl.1 (Nat.le_of_ble_eq_true rfl) ⟨Nat.zero_le _, Nat.zero_le _⟩ rfl dX9_read_1 rfl (fun H locs hP hS => ?_)
  obtain ⟨hr3, h⟩ := chk_some h
  refine wi_if_eq (tgt := 25) hx hb dX9_read_4 (by decide) hr3 (fun c5 => ?_) (fun c5 => ?_)
  · have h := ite_t c5 h
    refine wi_ic hx hb dX9_read_25 ?_
    obtain rfl := Option.some.inj h
    exact KR _ _ _ _ hP hS dX9_read_26
  · have h := ite_f c5 h
    refine lv_iload_n hx hb dX9_read_7 rfl (lv_at hl 2 rfl) ?_
    obtain ⟨o6, hc7, h⟩ := bnd_some h
    refine cS_i (rest := []) (w2 := (wd_X9_read cy a_v a_v_search a_v_search_draft a_v_search_draft_facts a_v_search_draft_places a_v_sheets a_v_sheets_cells a_v_sheets_lanes a_v_sheets_sizes a_v_shop a_v_shop_facts a_v_shop_places a_v_tape a_v_reader a_v_seen a_v_images a_v_odds a_v_search_least a_v_search_bestPlaces a_v_search_startsLeft v_lastFault v_lastTorn v_search_draft_boxes v_search_draft_startsAt v_search_draft_facts v_search_draft_places v_sheets_cells v_sheets_lanes v_sheets_sizes v_shop_boxes v_shop_startsAt v_shop_facts v_shop_places)) ⟨hx, hb, hml, hown, hts⟩ (c_X4_isLane l D cy sa x2 o6 hc7) (va_cwS 1 hts gX9_read_X4_isLane rfl rfl rfl (by decide +kernel) ⟨Nat.le_of_ble_eq_true rfl, Nat.le_of_ble_eq_true rfl⟩) hE hP hDD rfl hS [] rfl rfl rfl rfl hl.1 (Nat.le_of_ble_eq_true rfl) ⟨Nat.zero_le _, Nat.zero_le _⟩ rfl dX9_read_8 rfl (fun H locs hP hS => ?_)
    obtain ⟨hr8, h⟩ := chk_some h
    refine wi_if_eq (tgt := 25) hx hb dX9_read_11 (by decide) hr8 (fun c10 => ?_) (fun c10 => ?_)
    · have h := ite_t c10 h
      refine wi_ic hx hb dX9_read_25 ?_
      obtain rfl := Option.some.inj h
      exact KR _ _ _ _ hP hS dX9_read_26
    · have h := ite_f c10 h
      refine lv_iload hx hb dX9_read_14 (lv_at hl 4 rfl) ?_
      refine wi_ic hx hb dX9_read_16 ?_
      refine wi_bi hx hb dX9_read_17 (by decide) ?_
      obtain ⟨o11, hc12, h⟩ := bnd_some h
      refine cS_i (rest := []) (w2 := (wd_X9_read cy a_v a_v_search a_v_search_draft a_v_search_draft_facts a_v_search_draft_places a_v_sheets a_v_sheets_cells a_v_sheets_lanes a_v_sheets_sizes a_v_shop a_v_shop_facts a_v_shop_places a_v_tape a_v_reader a_v_seen a_v_images a_v_odds a_v_search_least a_v_search_bestPlaces a_v_search_startsLeft v_lastFault v_lastTorn v_search_draft_boxes v_search_draft_startsAt v_search_draft_facts v_search_draft_places v_sheets_cells v_sheets_lanes v_sheets_sizes v_shop_boxes v_shop_startsAt v_shop_facts v_shop_places)) ⟨hx, hb, hml, hown, hts⟩ (c_X9_within l D cy sa x4 0 13 o11 hc12) (va_cwS 3 hts gX9_read_X9_within rfl rfl rfl (by decide +kernel) ⟨Nat.le_of_ble_eq_true rfl, Nat.le_of_ble_eq_true rfl⟩) hE hP hDD rfl hS [] rfl rfl rfl rfl hl.1 (Nat.le_of_ble_eq_true rfl) ⟨Nat.zero_le _, Nat.zero_le _⟩ rfl dX9_read_19 rfl (fun H locs hP hS => ?_)
      obtain ⟨hr13, h⟩ := chk_some h
      refine wi_if_ne (tgt := 27) hx hb dX9_read_22 (by decide) hr13 (fun c15 => ?_) (fun c15 => ?_)
      · have h := ite_f c15 h
        refine lv_aload_n hx hb dX9_read_27 rfl (lv_at hl 0 rfl) ?_
        refine wi_get (v := .ref a_v_search) hx hb hts iX9 hown hE hP 0 rfl rfl 6 (by decide) q0 rfl dX9_read_28 ?_
        refine lv_aload_n hx hb dX9_read_31 rfl (lv_at hl 0 rfl) ?_
        refine wi_get (v := .ref a_v_shop) hx hb hts iX9 hown hE hP 0 rfl rfl 2 (by decide) q1 rfl dX9_read_32 ?_
        obtain ⟨o16, hc17, h⟩ := bnd_some h
        refine cV_r (rest := []) (w2 := (wd_X9_read cy a_v a_v_search a_v_search_draft a_v_search_draft_facts a_v_search_draft_places a_v_sheets a_v_sheets_cells a_v_sheets_lanes a_v_sheets_sizes a_v_shop a_v_shop_facts a_v_shop_places a_v_tape a_v_reader a_v_seen a_v_images a_v_odds a_v_search_least a_v_search_bestPlaces a_v_search_startsLeft v_lastFault v_lastTorn o16.1 o16.2.1 o16.2.2.1 o16.2.2.2 v_sheets_cells v_sheets_lanes v_sheets_sizes v_shop_boxes v_shop_startsAt v_shop_facts v_shop_places)) ⟨hx, hb, hml, hown, hts⟩ (c_X3_draftOf l D cy sa a_v_search a_v_search_draft a_v_search_draft_facts a_v_search_draft_places a_v_shop a_v_shop_facts a_v_shop_places a_v_search_least a_v_search_bestPlaces a_v_search_startsLeft v_search_draft_boxes v_search_draft_startsAt v_search_draft_facts v_search_draft_places v_shop_boxes v_shop_startsAt v_shop_facts v_shop_places o16 hc17) (cwV 1 hts gX9_read_X3_draftOf rfl rfl rfl (by decide +kernel) ⟨Nat.le_of_ble_eq_true rfl, Nat.le_of_ble_eq_true rfl⟩) rfl rfl rfl hE hP hDD rfl hS [1, 2, 3, 4, 9, 10, 11] rfl rfl rfl rfl hl.1 (Nat.le_of_ble_eq_true rfl) ⟨Nat.zero_le _, Nat.zero_le _⟩ rfl dX9_read_35 rfl (fun H locs hP hS => ?_)
        refine lv_astore (lv' := [(5, .ref a_v_search_draft), (0, .ref a_v), (1, .int (zI x1)), (2, .int (zI x2)), (3, .int (zI x3)), (4, .int (zI x4))]) hx hb dX9_read_38 hl (by decide) rfl (fun ls hl => ?_)
        refine wi_ic hx hb dX9_read_40 ?_
        refine lv_istore (lv' := [(6, .int (zI 0)), (5, .ref a_v_search_draft), (0, .ref a_v), (1, .int (zI x1)), (2, .int (zI x2)), (3, .int (zI x3)), (4, .int (zI x4))]) hx hb dX9_read_41 hl (by decide) rfl (fun ls hl => ?_)
        refine wi_ic hx hb dX9_read_43 ?_
        refine lv_istore (lv' := [(7, .int (zI 0)), (6, .int (zI 0)), (5, .ref a_v_search_draft), (0, .ref a_v), (1, .int (zI x1)), (2, .int (zI x2)), (3, .int (zI x3)), (4, .int (zI x4))]) hx hb dX9_read_44 hl (by decide) rfl (fun ls hl => ?_)
        refine wi_ic hx hb dX9_read_46 ?_
        refine lv_istore (lv' := [(8, .int (zI 0)), (7, .int (zI 0)), (6, .int (zI 0)), (5, .ref a_v_search_draft), (0, .ref a_v), (1, .int (zI x1)), (2, .int (zI x2)), (3, .int (zI x3)), (4, .int (zI x4))]) hx hb dX9_read_47 hl (by decide) rfl (fun ls hl => ?_)
        exact L49 5000 v_lastTorn o16.1 o16.2.1 o16.2.2.1 o16.2.2.2 v_shop_boxes v_shop_startsAt v_shop_facts v_shop_places x1 x2 x3 x4 0 0 0 _ _ _ hP hS (lv_sub hl [4, 5, 6, 7, 8, 3, 2, 1, 0] rfl) h
      · have h := ite_t c15 h
        refine wi_ic hx hb dX9_read_25 ?_
        obtain rfl := Option.some.inj h
        exact KR _ _ _ _ hP hS dX9_read_26
abbrev wd_X9_torn (cy : Nat → ClassId) (a_v : Nat) (a_v_tape : Nat) (a_v_reader : Nat) (a_v_shop : Nat) (a_v_seen : Nat) (a_v_images : Nat) (a_v_sheets : Nat) (a_v_search : Nat) (a_v_odds : Nat) (v_lastFault : Int) (v_lastTorn : Int) : va_W := [(a_v, .inr (9, [.ref a_v_tape, .ref a_v_reader, .ref a_v_shop, .ref a_v_seen, .ref a_v_images, .ref a_v_sheets, .ref a_v_search, .ref a_v_odds, .int (zI v_lastFault), .int (zI v_lastTorn)]))]
set_option maxHeartbeats 4000000 in
set_option maxRecDepth 100000 in
theorem c_X9_torn (l : Launch) (D : va_G) (cy : Nat → ClassId) (sa : Nat → Nat) (a_v : Nat) (a_v_tape : Nat) (a_v_reader : Nat) (a_v_shop : Nat) (a_v_seen : Nat) (a_v_images : Nat) (a_v_sheets : Nat) (a_v_search : Nat) (a_v_odds : Nat) (v_lastFault : Int) (v_lastTorn : Int) (o : Int) (h : f_HH_torn v_lastTorn = some o) : CtI l yX9_torn wsX9_torn ({ frames := 0, cells := 0, slots := 0, locals := 0 }) D cy sa [.ref a_v] (wd_X9_torn cy a_v a_v_tape a_v_reader a_v_shop a_v_seen a_v_images a_v_sheets a_v_search a_v_odds v_lastFault v_lastTorn) (wd_X9_torn cy a_v a_v_tape a_v_reader a_v_shop a_v_seen a_v_images a_v_sheets a_v_search a_v_odds v_lastFault v_lastTorn) o := by
  refine ct_I (cc := cX9_torn) (maxL := 1) (plainFor_of_name (by decide)) rfl (Nat.le_of_ble_eq_true rfl) ?_
  intro p e s m below meth c A args QQ hx hb hml hown hts hE hDD hP KR ls hl
  have hl : lv_has ls 1 [(0, .ref a_v)] := hl
  have hDD : DD A [a_v] := hDD
  have hS : va_S A s.heap s.heap [] := va_S.rf
  have q0 := hts (.fieldLink RX9 300 "HatHours" "lastTorn" "I") (List.mem_of_getElem? (i := 1) rfl)
  have iX9 : ∀ w ∈ u_ws RX9 TX9 10, w ∈ wsX9_torn := in_slice 2 10 rfl
  refine lv_aload_n hx hb dX9_torn_0 rfl (lv_at hl 0 rfl) ?_
  refine wi_get (v := .int (zI v_lastTorn)) hx hb hts iX9 hown hE hP 0 rfl rfl 9 (by decide) q0 rfl dX9_torn_1 ?_
  obtain rfl := Option.some.inj h
  exact KR _ _ _ _ hP hS dX9_torn_4
