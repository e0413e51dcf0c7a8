abbrev wd_X9_imagesThere (cy : Nat → ClassId) (a_v : Nat) (a_v_images : Nat) (a_v_images0 : Nat) (a_v_images1 : Nat) (a_v_tape : Nat) (a_v_reader : Nat) (a_v_shop : Nat) (a_v_seen : Nat) (a_v_sheets : Nat) (a_v_search : Nat) (a_v_odds : Nat) (a_v_images0_shop : Nat) (a_v_images0_seen : Nat) (a_v_images1_shop : Nat) (a_v_images1_seen : Nat) (v_lastFault : Int) (v_lastTorn : Int) (v_images0_there : Int) (v_images1_there : Int) : va_W := [(a_v, .inr (9, [.ref a_v_tape, .ref a_v_reader, .ref a_v_shop, .ref a_v_seen, .ref a_v_images, .ref a_v_sheets, .ref a_v_search, .ref a_v_odds, .int (zI v_lastFault), .int (zI v_lastTorn)])), (a_v_images, .inl (cy 4, 2, .inr (.inr (.inr (.inr (imF a_v_images0 a_v_images1)))))), (a_v_images0, .inr (0, [.ref a_v_images0_shop, .ref a_v_images0_seen, .int (zI v_images0_there)])), (a_v_images1, .inr (0, [.ref a_v_images1_shop, .ref a_v_images1_seen, .int (zI v_images1_there)]))]
set_option maxHeartbeats 4000000 in
set_option maxRecDepth 100000 in
theorem c_X9_imagesThere (l : Launch) (D : va_G) (cy : Nat → ClassId) (sa : Nat → Nat) (a_v : Nat) (a_v_images : Nat) (a_v_images0 : Nat) (a_v_images1 : Nat) (a_v_tape : Nat) (a_v_reader : Nat) (a_v_shop : Nat) (a_v_seen : Nat) (a_v_sheets : Nat) (a_v_search : Nat) (a_v_odds : Nat) (a_v_images0_shop : Nat) (a_v_images0_seen : Nat) (a_v_images1_shop : Nat) (a_v_images1_seen : Nat) (v_lastFault : Int) (v_lastTorn : Int) (v_images0_there : Int) (v_images1_there : Int) (o : Int) (h : f_HH_imagesThere v_images0_there v_images1_there = some o) : CtI l yX9_imagesThere wsX9_imagesThere ({ frames := 1, cells := 0, slots := 0, locals := 20 }) D cy sa [.ref a_v] (wd_X9_imagesThere cy a_v a_v_images a_v_images0 a_v_images1 a_v_tape a_v_reader a_v_shop a_v_seen a_v_sheets a_v_search a_v_odds a_v_images0_shop a_v_images0_seen a_v_images1_shop a_v_images1_seen v_lastFault v_lastTorn v_images0_there v_images1_there) (wd_X9_imagesThere cy a_v a_v_images a_v_images0 a_v_images1 a_v_tape a_v_reader a_v_shop a_v_seen a_v_sheets a_v_search a_v_odds a_v_images0_shop a_v_images0_seen a_v_images1_shop a_v_images1_seen v_lastFault v_lastTorn v_images0_there v_images1_there) o := by
  refine ct_I (cc := cX9_imagesThere) (maxL := 6) (plainFor_of_name (by decide)) rfl (Nat.le_of_ble_eq_true rfl) ?_
  intro p e s m below meth c A args QQ hx hb hml hown hts hE hDD hP KR ls hl
  have hl : lv_has ls 6 [(0, .ref a_v)] := hl
  have hDD : DD A [a_v, a_v_images, a_v_images0, a_v_images1] := hDD
  have hS : va_S A s.heap s.heap [] := va_S.rf
  have q0 := hts (.fieldLink RX9 42 "HatHours" "images" "[LHatHours$Image;") (List.mem_of_getElem? (i := 1) rfl)
  have iX9 : ∀ w ∈ u_ws RX9 TX9 10, w ∈ wsX9_imagesThere := in_slice 8 10 rfl
  have L13 : ∀ (fuel : Nat) (x1 : Int) (x3 : Int) (x4 : Int) (H : Heap) (locs : List Loc) (ls : Array Slot) (ex : Int), va_P D vwCl (wd_X9_imagesThere cy a_v a_v_images a_v_images0 a_v_images1 a_v_tape a_v_reader a_v_shop a_v_seen a_v_sheets a_v_search a_v_odds a_v_images0_shop a_v_images0_seen a_v_images1_shop a_v_images1_seen v_lastFault v_lastTorn v_images0_there v_images1_there) H → va_S A s.heap H locs → lv_has ls 6 [(1, .int (zI x1)), (2, .ref a_v_images), (3, .int (zI x3)), (4, .int (zI x4))] → f_HH_imagesThere_L13 fuel v_images0_there v_images1_there x1 x3 x4 = some ex → (∀ (H : Heap) (locs : List Loc) (ls : Array Slot), va_P D vwCl (wd_X9_imagesThere cy a_v a_v_images a_v_images0 a_v_images1 a_v_tape a_v_reader a_v_shop a_v_seen a_v_sheets a_v_search a_v_odds a_v_images0_shop a_v_images0_seen a_v_images1_shop a_v_images1_seen v_lastFault v_lastTorn v_images0_there v_images1_there) H → va_S A s.heap H locs → lv_has ls 6 [(1, .int (zI ex))] → W p l e { frames := 1, cells := 0, slots := 0, locals := 20 } s m args below meth c H locs 0 0 QQ (F0 m 42 ls [])) → W p l e { frames := 1, cells := 0, slots := 0, locals := 20 } s m args below meth c H locs 0 0 QQ (F0 m 13 ls []) := by
    intro fuel
    induction fuel with
    | zero => intro _ _ _ H locs ls ex hP hS hl h K; cases h
    | succ fuel ih =>
      intro x1 x3 x4 H locs ls ex hP hS hl h K
      refine lv_iload hx hb dX9_imagesThere_13 (lv_at hl 3 rfl) ?_
      refine lv_iload_n hx hb dX9_imagesThere_15 rfl (lv_at hl 2 rfl) ?_
      obtain ⟨hr1, h⟩ := chk_some h
      obtain ⟨hr2, h⟩ := chk_some h
      refine wi_ic_ge (tgt := 42) hx hb dX9_imagesThere_16 (by decide) hr1 hr2 (fun c4 => ?_) (fun c4 => ?_)
      · have h := ite_t c4 h
        obtain rfl := Option.some.inj h
        exact K _ _ _ hP hS (lv_sub hl [0] rfl)
      · have h := ite_f c4 h
        refine lv_aload_n hx hb dX9_imagesThere_19 rfl (lv_at hl 1 rfl) ?_
        refine lv_iload hx hb dX9_imagesThere_20 (lv_at hl 3 rfl) ?_
        obtain ⟨hk5, h⟩ := chk_some h
        refine wi_ald hx hb hE hP 1 rfl hk5 dX9_imagesThere_22 (fun c1 => ?_) (fun c1 => ?_)
        · have h := ite_t c1 h
          refine lv_astore (lv' := [(5, .ref a_v_images0), (1, .int (zI x1)), (2, .ref a_v_images), (3, .int (zI x3)), (4, .int (zI x4))]) hx hb dX9_imagesThere_23 hl (by decide) rfl (fun ls hl => ?_)
          refine lv_aload hx hb dX9_imagesThere_25 (lv_at hl 0 rfl) ?_
          obtain ⟨o6, hc7, h⟩ := bnd_some h
          refine cV_i (rest := []) (w2 := (wd_X9_imagesThere cy a_v a_v_images a_v_images0 a_v_images1 a_v_tape a_v_reader a_v_shop a_v_seen a_v_sheets a_v_search a_v_odds a_v_images0_shop a_v_images0_seen a_v_images1_shop a_v_images1_seen v_lastFault v_lastTorn v_images0_there v_images1_there)) ⟨hx, hb, hml, hown, hts⟩ (c_X0_isThere l D cy sa a_v_images0 a_v_images0_shop a_v_images0_seen v_images0_there o6 hc7) (cwV 0 hts gX9_imagesThere_X0_isThere rfl rfl rfl (by decide +kernel) ⟨Nat.le_of_ble_eq_true rfl, Nat.le_of_ble_eq_true rfl⟩) rfl rfl rfl hE hP hDD rfl hS [2] rfl rfl rfl rfl hl.1 (Nat.le_of_ble_eq_true rfl) ⟨Nat.zero_le _, Nat.zero_le _⟩ rfl dX9_imagesThere_27 rfl (fun H locs hP hS => ?_)
          obtain ⟨hr8, h⟩ := chk_some h
          refine wi_if_eq (tgt := 36) hx hb dX9_imagesThere_30 (by decide) hr8 (fun c10 => ?_) (fun c10 => ?_)
          · have h := ite_t c10 h
            refine wi_iinc (k := 4) (lv' := [(4, .int (zI (x4 + 1))), (5, .ref a_v_images0), (1, .int (zI x1)), (2, .ref a_v_images), (3, .int (zI x3))]) hx hb dX9_imagesThere_36 hl rfl (by decide) rfl (fun ls hl => ?_)
            refine lv_goto (tgt := 13) hx hb dX9_imagesThere_39 (by decide) ?_
            exact ih x1 x3 (x4 + 1) _ _ _ _ hP hS (lv_sub hl [2, 3, 4, 0] rfl) h K
          · have h := ite_f c10 h
            refine wi_iinc (k := 1) (lv' := [(1, .int (zI (x1 + 1))), (5, .ref a_v_images0), (2, .ref a_v_images), (3, .int (zI x3)), (4, .int (zI x4))]) hx hb dX9_imagesThere_33 hl rfl (by decide) rfl (fun ls hl => ?_)
            refine wi_iinc (k := 4) (lv' := [(4, .int (zI (x4 + 1))), (1, .int (zI (x1 + 1))), (5, .ref a_v_images0), (2, .ref a_v_images), (3, .int (zI x3))]) hx hb dX9_imagesThere_36 hl rfl (by decide) rfl (fun ls hl => ?_)
            refine lv_goto (tgt := 13) hx hb dX9_imagesThere_39 (by decide) ?_
            exact ih (x1 + 1) x3 (x4 + 1) _ _ _ _ hP hS (lv_sub hl [1, 3, 4, 0] rfl) h K
        · have h := ite_f c1 h
          refine lv_astore (lv' := [(5, .ref a_v_images1), (1, .int (zI x1)), (2, .ref a_v_images), (3, .int (zI x3)), (4, .int (zI x4))]) hx hb dX9_imagesThere_23 hl (by decide) rfl (fun ls hl => ?_)
          refine lv_aload hx hb dX9_imagesThere_25 (lv_at hl 0 rfl) ?_
          obtain ⟨o11, hc12, h⟩ := bnd_some h
          refine cV_i (rest := []) (w2 := (wd_X9_imagesThere cy a_v a_v_images a_v_images0 a_v_images1 a_v_tape a_v_reader a_v_shop a_v_seen a_v_sheets a_v_search a_v_odds a_v_images0_shop a_v_images0_seen a_v_images1_shop a_v_images1_seen v_lastFault v_lastTorn v_images0_there v_images1_there)) ⟨hx, hb, hml, hown, hts⟩ (c_X0_isThere l D cy sa a_v_images1 a_v_images1_shop a_v_images1_seen v_images1_there o11 hc12) (cwV 0 hts gX9_imagesThere_X0_isThere rfl rfl rfl (by decide +kernel) ⟨Nat.le_of_ble_eq_true rfl, Nat.le_of_ble_eq_true rfl⟩) rfl rfl rfl hE hP hDD rfl hS [3] rfl rfl rfl rfl hl.1 (Nat.le_of_ble_eq_true rfl) ⟨Nat.zero_le _, Nat.zero_le _⟩ rfl dX9_imagesThere_27 rfl (fun H locs hP hS => ?_)
          obtain ⟨hr13, h⟩ := chk_some h
          refine wi_if_eq (tgt := 36) hx hb dX9_imagesThere_30 (by decide) hr13 (fun c15 => ?_) (fun c15 => ?_)
          · have h := ite_t c15 h
            refine wi_iinc (k := 4) (lv' := [(4, .int (zI (x4 + 1))), (5, .ref a_v_images1), (1, .int (zI x1)), (2, .ref a_v_images), (3, .int (zI x3))]) hx hb dX9_imagesThere_36 hl rfl (by decide) rfl (fun ls hl => ?_)
            refine lv_goto (tgt := 13) hx hb dX9_imagesThere_39 (by decide) ?_
            exact ih x1 x3 (x4 + 1) _ _ _ _ hP hS (lv_sub hl [2, 3, 4, 0] rfl) h K
          · have h := ite_f c15 h
            refine wi_iinc (k := 1) (lv' := [(1, .int (zI (x1 + 1))), (5, .ref a_v_images1), (2, .ref a_v_images), (3, .int (zI x3)), (4, .int (zI x4))]) hx hb dX9_imagesThere_33 hl rfl (by decide) rfl (fun ls hl => ?_)
            refine wi_iinc (k := 4) (lv' := [(4, .int (zI (x4 + 1))), (1, .int (zI (x1 + 1))), (5, .ref a_v_images1), (2, .ref a_v_images), (3, .int (zI x3))]) hx hb dX9_imagesThere_36 hl rfl (by decide) rfl (fun ls hl => ?_)
            refine lv_goto (tgt := 13) hx hb dX9_imagesThere_39 (by decide) ?_
            exact ih (x1 + 1) x3 (x4 + 1) _ _ _ _ hP hS (lv_sub hl [1, 3, 4, 0] rfl) h K
  refine wi_ic hx hb dX9_imagesThere_0 ?_
  refine lv_istore_n (lv' := [(1, .int (zI 0)), (0, .ref a_v)]) hx hb dX9_imagesThere_1 rfl hl (by decide) rfl (fun ls hl => ?_)
  refine lv_aload_n hx hb dX9_imagesThere_2 rfl (lv_at hl 1 rfl) ?_
  refine wi_get (v := .ref a_v_images) hx hb hts iX9 hown hE hP 0 rfl rfl 4 (by decide) q0 rfl dX9_imagesThere_3 ?_
  refine lv_astore_n (lv' := [(2, .ref a_v_images), (1, .int (zI 0)), (0, .ref a_v)]) hx hb dX9_imagesThere_6 rfl hl (by decide) rfl (fun ls hl => ?_)
  refine lv_aload_n hx hb dX9_imagesThere_7 rfl (lv_at hl 0 rfl) ?_
  refine wi_alen (n := 2) hx hb hE hP 1 4 rfl rfl rfl dX9_imagesThere_8 ?_
  refine lv_istore_n (lv' := [(3, .int (zI 2)), (2, .ref a_v_images), (1, .int (zI 0)), (0, .ref a_v)]) hx hb dX9_imagesThere_9 rfl hl (by decide) rfl (fun ls hl => ?_)
  refine wi_ic hx hb dX9_imagesThere_10 ?_
  refine lv_istore (lv' := [(4, .int (zI 0)), (3, .int (zI 2)), (2, .ref a_v_images), (1, .int (zI 0)), (0, .ref a_v)]) hx hb dX9_imagesThere_11 hl (by decide) rfl (fun ls hl => ?_)
  obtain ⟨o16, hx17, h⟩ := bnd_some h
  refine L13 5000 0 2 0 _ _ _ _ hP hS (lv_sub hl [3, 2, 1, 0] rfl) hx17 ?_
  clear hx17
  intro H locs ls hP hS hl
  refine lv_iload_n hx hb dX9_imagesThere_42 rfl (lv_at hl 0 rfl) ?_
  obtain rfl := Option.some.inj h
  exact KR _ _ _ _ hP hS dX9_imagesThere_43
abbrev wd_X9_count (cy : Nat → ClassId) (a_v : Nat) (a_v_images : Nat) (a_v_images0 : Nat) (a_v_images1 : Nat) (a_v_seen : Nat) (a_v_sheets : Nat) (a_v_sheets_sizes : Nat) (a_v_shop : Nat) (a_v_shop_facts : Nat) (a_v_tape : Nat) (a_v_reader : Nat) (a_v_search : Nat) (a_v_odds : Nat) (a_v_images0_shop : Nat) (a_v_images0_seen : Nat) (a_v_images1_shop : Nat) (a_v_images1_seen : Nat) (a_v_seen_rooms : Nat) (a_v_seen_hours : Nat) (a_v_seen_oclocks : Nat) (a_v_sheets_cells : Nat) (a_v_sheets_lanes : Nat) (a_v_shop_places : Nat) (a_v_tape_bytes : Nat) (v_lastFault : Int) (v_lastTorn : Int) (v_images0_there : Int) (v_images1_there : Int) (v_seen_used : Int) (v_sheets_sizes : Nat → Int) (v_shop_boxes : Int) (v_shop_startsAt : Int) (v_shop_facts : Nat → Int) (v_tape_used : Int) : va_W := [(a_v, .inr (9, [.ref a_v_tape, .ref a_v_reader, .ref a_v_shop, .ref a_v_seen, .ref a_v_images, .ref a_v_sheets, .ref a_v_search, .ref a_v_odds, .int (zI v_lastFault), .int (zI v_lastTorn)])), (a_v_images, .inl (cy 4, 2, .inr (.inr (.inr (.inr (imF a_v_images0 a_v_images1)))))), (a_v_images0, .inr (0, [.ref a_v_images0_shop, .ref a_v_images0_seen, .int (zI v_images0_there)])), (a_v_images1, .inr (0, [.ref a_v_images1_shop, .ref a_v_images1_seen, .int (zI v_images1_there)])), (a_v_seen, .inr (6, [.ref a_v_seen_rooms, .ref a_v_seen_hours, .ref a_v_seen_oclocks, .int (zI v_seen_used)])), (a_v_sheets, .inr (4, [.ref a_v_sheets_cells, .ref a_v_sheets_lanes, .ref a_v_sheets_sizes])), (a_v_sheets_sizes, .inl (cy 0, 4, .inl (fun j => zI (v_sheets_sizes j)))), (a_v_shop, .inr (5, [.ref a_v_shop_facts, .ref a_v_shop_places, .int (zI v_shop_boxes), .int (zI v_shop_startsAt)])), (a_v_shop_facts, .inl (cy 0, 30, .inl (fun j => zI (v_shop_facts j)))), (a_v_tape, .inr (7, [.ref a_v_tape_bytes, .int (zI v_tape_used)]))]
set_option maxHeartbeats 4000000 in
set_option maxRecDepth 100000 in
theorem c_X9_count (l : Launch) (D : va_G) (cy : Nat → ClassId) (sa : Nat → Nat) (a_v : Nat) (a_v_images : Nat) (a_v_images0 : Nat) (a_v_images1 : Nat) (a_v_seen : Nat) (a_v_sheets : Nat) (a_v_sheets_sizes : Nat) (a_v_shop : Nat) (a_v_shop_facts : Nat) (a_v_tape : Nat) (a_v_reader : Nat) (a_v_search : Nat) (a_v_odds : Nat) (a_v_images0_shop : Nat) (a_v_images0_seen : Nat) (a_v_images1_shop : Nat) (a_v_images1_seen : Nat) (a_v_seen_rooms : Nat) (a_v_seen_hours : Nat) (a_v_seen_oclocks : Nat) (a_v_sheets_cells : Nat) (a_v_sheets_lanes : Nat) (a_v_shop_places : Nat) (a_v_tape_bytes : Nat) (v_lastFault : Int) (v_lastTorn : Int) (v_images0_there : Int) (v_images1_there : Int) (v_seen_used : Int) (v_sheets_sizes : Nat → Int) (v_shop_boxes : Int) (v_shop_startsAt : Int) (v_shop_facts : Nat → Int) (v_tape_used : Int) (x1 : Int) (o : Int) (h : f_HH_count v_images0_there v_images1_there v_seen_used v_sheets_sizes v_shop_boxes v_shop_facts v_tape_used x1 = some o) : CtI l yX9_count wsX9_count ({ frames := 3, cells := 0, slots := 0, locals := 63 }) D cy sa [.ref a_v, .int (zI x1)] (wd_X9_count cy a_v a_v_images a_v_images0 a_v_images1 a_v_seen a_v_sheets a_v_sheets_sizes a_v_shop a_v_shop_facts a_v_tape a_v_reader a_v_search a_v_odds a_v_images0_shop a_v_images0_seen a_v_images1_shop a_v_images1_seen a_v_seen_rooms a_v_seen_hours a_v_seen_oclocks a_v_sheets_cells a_v_sheets_lanes a_v_shop_places a_v_tape_bytes v_lastFault v_lastTorn v_images0_there v_images1_there v_seen_used v_sheets_sizes v_shop_boxes v_shop_startsAt v_shop_facts v_tape_used) (wd_X9_count cy a_v a_v_images a_v_images0 a_v_images1 a_v_seen a_v_sheets a_v_sheets_sizes a_v_shop a_v_shop_facts a_v_tape a_v_reader a_v_search a_v_odds a_v_images0_shop a_v_images0_seen a_v_images1_shop a_v_images1_seen a_v_seen_rooms a_v_seen_hours a_v_seen_oclocks a_v_sheets_cells a_v_sheets_lanes a_v_shop_places a_v_tape_bytes v_lastFault v_lastTorn v_images0_there v_images1_there v_seen_used v_sheets_sizes v_shop_boxes v_shop_startsAt v_shop_facts v_tape_used) o := by
  refine ct_I (cc := cX9_count) (maxL := 2) (plainFor_of_name (by decide)) rfl (Nat.le_of_ble_eq_true rfl) ?_
  intro p e s m below meth c A args QQ hx hb hml hown hts hE hDD hP KR ls hl
  have hl : lv_has ls 2 [(0, .ref a_v), (1, .int (zI x1))] := hl
  have hDD : DD A [a_v, a_v_images, a_v_images0, a_v_images1, a_v_seen, a_v_sheets, a_v_sheets_sizes, a_v_shop, a_v_shop_facts, a_v_tape] := hDD
  have hS : va_S A s.heap s.heap [] := va_S.rf
  have q0 := hts (.fieldLink RX9 35 "HatHours" "seen" "LHatHours$Sightings;") (List.mem_of_getElem? (i := 1) rfl)
  have q1 := hts (.fieldLink RX9 10 "HatHours" "tape" "LHatHours$Tape;") (List.mem_of_getElem? (i := 2) rfl)
  have q2 := hts (.fieldLink RX9 49 "HatHours" "sheets" "LHatHours$Sheets;") (List.mem_of_getElem? (i := 3) rfl)
  have q3 := hts (.fieldLink RX9 28 "HatHours" "shop" "LHatHours$Shop;") (List.mem_of_getElem? (i := 4) rfl)
  have iX9 : ∀ w ∈ u_ws RX9 TX9 10, w ∈ wsX9_count := in_slice 51 10 rfl
  refine lv_iload_n hx hb dX9_count_0 rfl (lv_at hl 1 rfl) ?_
  obtain ⟨hr1, h⟩ := chk_some h
  by_cases c2 : x1 = 0
  · have h := ite_t c2 h
    refine wi_tIn (v := 0) (off := 35) (tgt := 36) hx hb dX9_count_1 c2 (by decide) (by decide) (by decide) (by decide) ?_
    refine lv_aload_n hx hb dX9_count_36 rfl (lv_at hl 0 rfl) ?_
    refine wi_get (v := .ref a_v_seen) hx hb hts iX9 hown hE hP 0 rfl rfl 3 (by decide) q0 rfl dX9_count_37 ?_
    obtain ⟨o3, hc4, h⟩ := bnd_some h
    refine cV_i (rest := []) (w2 := (wd_X9_count cy a_v a_v_images a_v_images0 a_v_images1 a_v_seen a_v_sheets a_v_sheets_sizes a_v_shop a_v_shop_facts a_v_tape a_v_reader a_v_search a_v_odds a_v_images0_shop a_v_images0_seen a_v_images1_shop a_v_images1_seen a_v_seen_rooms a_v_seen_hours a_v_seen_oclocks a_v_sheets_cells a_v_sheets_lanes a_v_shop_places a_v_tape_bytes v_lastFault v_lastTorn v_images0_there v_images1_there v_seen_used v_sheets_sizes v_shop_boxes v_shop_startsAt v_shop_facts v_tape_used)) ⟨hx, hb, hml, hown, hts⟩ (c_X6_size l D cy sa a_v_seen a_v_seen_rooms a_v_seen_hours a_v_seen_oclocks v_seen_used o3 hc4) (cwV 0 hts gX9_count_X6_size rfl rfl rfl (by decide +kernel) ⟨Nat.le_of_ble_eq_true rfl, Nat.le_of_ble_eq_true rfl⟩) rfl rfl rfl hE hP hDD rfl hS [4] rfl rfl rfl rfl hl.1 (Nat.le_of_ble_eq_true rfl) ⟨Nat.zero_le _, Nat.zero_le _⟩ rfl dX9_count_40 rfl (fun H locs hP hS => ?_)
    obtain rfl := Option.some.inj h
    exact KR _ _ _ _ hP hS dX9_count_43
  have h := ite_f c2 h
  by_cases c5 : x1 = 1
  · have h := ite_t c5 h
    refine wi_tIn (v := 1) (off := 43) (tgt := 44) hx hb dX9_count_1 c5 (by decide) (by decide) (by decide) (by decide) ?_
    refine lv_aload_n hx hb dX9_count_44 rfl (lv_at hl 0 rfl) ?_
    obtain ⟨o6, hc7, h⟩ := bnd_some h
    refine cV_i (rest := []) (w2 := (wd_X9_count cy a_v a_v_images a_v_images0 a_v_images1 a_v_seen a_v_sheets a_v_sheets_sizes a_v_shop a_v_shop_facts a_v_tape a_v_reader a_v_search a_v_odds a_v_images0_shop a_v_images0_seen a_v_images1_shop a_v_images1_seen a_v_seen_rooms a_v_seen_hours a_v_seen_oclocks a_v_sheets_cells a_v_sheets_lanes a_v_shop_places a_v_tape_bytes v_lastFault v_lastTorn v_images0_there v_images1_there v_seen_used v_sheets_sizes v_shop_boxes v_shop_startsAt v_shop_facts v_tape_used)) ⟨hx, hb, hml, hown, hts⟩ (c_X9_imagesThere l D cy sa a_v a_v_images a_v_images0 a_v_images1 a_v_tape a_v_reader a_v_shop a_v_seen a_v_sheets a_v_search a_v_odds a_v_images0_shop a_v_images0_seen a_v_images1_shop a_v_images1_seen v_lastFault v_lastTorn v_images0_there v_images1_there o6 hc7) (cwV 0 hts gX9_count_X9_imagesThere rfl rfl rfl (by decide +kernel) ⟨Nat.le_of_ble_eq_true rfl, Nat.le_of_ble_eq_true rfl⟩) rfl rfl rfl hE hP hDD rfl hS [0, 1, 2, 3] rfl rfl rfl rfl hl.1 (Nat.le_of_ble_eq_true rfl) ⟨Nat.zero_le _, Nat.zero_le _⟩ rfl dX9_count_45 rfl (fun H locs hP hS => ?_)
    obtain rfl := Option.some.inj h
    exact KR _ _ _ _ hP hS dX9_count_48
  have h := ite_f c5 h
  by_cases c8 : x1 = 2
  · have h := ite_t c8 h
    refine wi_tIn (v := 2) (off := 48) (tgt := 49) hx hb dX9_count_1 c8 (by decide) (by decide) (by decide) (by decide) ?_
    refine lv_aload_n hx hb dX9_count_49 rfl (lv_at hl 0 rfl) ?_
    refine wi_get (v := .ref a_v_tape) hx hb hts iX9 hown hE hP 0 rfl rfl 0 (by decide) q1 rfl dX9_count_50 ?_
    obtain ⟨o9, hc10, h⟩ := bnd_some h
    refine cV_i (rest := []) (w2 := (wd_X9_count cy a_v a_v_images a_v_images0 a_v_images1 a_v_seen a_v_sheets a_v_sheets_sizes a_v_shop a_v_shop_facts a_v_tape a_v_reader a_v_search a_v_odds a_v_images0_shop a_v_images0_seen a_v_images1_shop a_v_images1_seen a_v_seen_rooms a_v_seen_hours a_v_seen_oclocks a_v_sheets_cells a_v_sheets_lanes a_v_shop_places a_v_tape_bytes v_lastFault v_lastTorn v_images0_there v_images1_there v_seen_used v_sheets_sizes v_shop_boxes v_shop_startsAt v_shop_facts v_tape_used)) ⟨hx, hb, hml, hown, hts⟩ (c_X7_size l D cy sa a_v_tape a_v_tape_bytes v_tape_used o9 hc10) (cwV 0 hts gX9_count_X7_size rfl rfl rfl (by decide +kernel) ⟨Nat.le_of_ble_eq_true rfl, Nat.le_of_ble_eq_true rfl⟩) rfl rfl rfl hE hP hDD rfl hS [9] rfl rfl rfl rfl hl.1 (Nat.le_of_ble_eq_true rfl) ⟨Nat.zero_le _, Nat.zero_le _⟩ rfl dX9_count_53 rfl (fun H locs hP hS => ?_)
    obtain rfl := Option.some.inj h
    exact KR _ _ _ _ hP hS dX9_count_56
  have h := ite_f c8 h
  by_cases c11 : x1 = 3
  · have h := ite_t c11 h
    refine wi_tIn (v := 3) (off := 56) (tgt := 57) hx hb dX9_count_1 c11 (by decide) (by decide) (by decide) (by decide) ?_
    refine lv_aload_n hx hb dX9_count_57 rfl (lv_at hl 0 rfl) ?_
    refine wi_get (v := .ref a_v_sheets) hx hb hts iX9 hown hE hP 0 rfl rfl 5 (by decide) q2 rfl dX9_count_58 ?_
    refine wi_ic hx hb dX9_count_61 ?_
    obtain ⟨o12, hc13, h⟩ := bnd_some h
    refine cV_i (rest := []) (w2 := (wd_X9_count cy a_v a_v_images a_v_images0 a_v_images1 a_v_seen a_v_sheets a_v_sheets_sizes a_v_shop a_v_shop_facts a_v_tape a_v_reader a_v_search a_v_odds a_v_images0_shop a_v_images0_seen a_v_images1_shop a_v_images1_seen a_v_seen_rooms a_v_seen_hours a_v_seen_oclocks a_v_sheets_cells a_v_sheets_lanes a_v_shop_places a_v_tape_bytes v_lastFault v_lastTorn v_images0_there v_images1_there v_seen_used v_sheets_sizes v_shop_boxes v_shop_startsAt v_shop_facts v_tape_used)) ⟨hx, hb, hml, hown, hts⟩ (c_X4_sizeOf l D cy sa a_v_sheets a_v_sheets_sizes a_v_sheets_cells a_v_sheets_lanes v_sheets_sizes 0 o12 hc13) (cwV 1 hts gX9_count_X4_sizeOf rfl rfl rfl (by decide +kernel) ⟨Nat.le_of_ble_eq_true rfl, Nat.le_of_ble_eq_true rfl⟩) rfl rfl rfl hE hP hDD rfl hS [5, 6] rfl rfl rfl rfl hl.1 (Nat.le_of_ble_eq_true rfl) ⟨Nat.zero_le _, Nat.zero_le _⟩ rfl dX9_count_62 rfl (fun H locs hP hS => ?_)
    obtain rfl := Option.some.inj h
    exact KR _ _ _ _ hP hS dX9_count_65
  have h := ite_f c11 h
  by_cases c14 : x1 = 4
  · have h := ite_t c14 h
    refine wi_tIn (v := 4) (off := 65) (tgt := 66) hx hb dX9_count_1 c14 (by decide) (by decide) (by decide) (by decide) ?_
    refine lv_aload_n hx hb dX9_count_66 rfl (lv_at hl 0 rfl) ?_
    refine wi_get (v := .ref a_v_shop) hx hb hts iX9 hown hE hP 0 rfl rfl 2 (by decide) q3 rfl dX9_count_67 ?_
    refine wi_ic hx hb dX9_count_70 ?_
    obtain ⟨o15, hc16, h⟩ := bnd_some h
    refine cV_i (rest := []) (w2 := (wd_X9_count cy a_v a_v_images a_v_images0 a_v_images1 a_v_seen a_v_sheets a_v_sheets_sizes a_v_shop a_v_shop_facts a_v_tape a_v_reader a_v_search a_v_odds a_v_images0_shop a_v_images0_seen a_v_images1_shop a_v_images1_seen a_v_seen_rooms a_v_seen_hours a_v_seen_oclocks a_v_sheets_cells a_v_sheets_lanes a_v_shop_places a_v_tape_bytes v_lastFault v_lastTorn v_images0_there v_images1_there v_seen_used v_sheets_sizes v_shop_boxes v_shop_startsAt v_shop_facts v_tape_used)) ⟨hx, hb, hml, hown, hts⟩ (c_X5_sumOf l D cy sa a_v_shop a_v_shop_facts a_v_shop_places v_shop_boxes v_shop_startsAt v_shop_facts 3 o15 hc16) (cwV 1 hts gX9_count_X5_sumOf rfl rfl rfl (by decide +kernel) ⟨Nat.le_of_ble_eq_true rfl, Nat.le_of_ble_eq_true rfl⟩) rfl rfl rfl hE hP hDD rfl hS [7, 8] rfl rfl rfl rfl hl.1 (Nat.le_of_ble_eq_true rfl) ⟨Nat.zero_le _, Nat.zero_le _⟩ rfl dX9_count_71 rfl (fun H locs hP hS => ?_)
    obtain rfl := Option.some.inj h
    exact KR _ _ _ _ hP hS dX9_count_74
  have h := ite_f c14 h
  refine wi_tOut (tgt := 75) hx hb dX9_count_1 hr1 (by omega) (by decide) ?_
  refine wi_ic hx hb dX9_count_75 ?_
  obtain rfl := Option.some.inj h
  exact KR _ _ _ _ hP hS dX9_count_76
