abbrev wd_X5_wrongOfAll (cy : Nat → ClassId) (a_v : Nat) (a_v_facts : Nat) (a_v_places : Nat) (v_boxes : Int) (v_startsAt : Int) (v_facts : Nat → Int) (v_places : Nat → Int) : va_W := [(a_v, .inr (5, [.ref a_v_facts, .ref a_v_places, .int (zI v_boxes), .int (zI v_startsAt)])), (a_v_facts, .inl (cy 0, 30, .inl (fun j => zI (v_facts j)))), (a_v_places, .inl (cy 0, 5, .inl (fun j => zI (v_places j))))]
set_option maxHeartbeats 4000000 in
set_option maxRecDepth 100000 in
theorem c_X5_wrongOfAll (l : Launch) (D : va_G) (cy : Nat → ClassId) (sa : Nat → Nat) (a_v : Nat) (a_v_facts : Nat) (a_v_places : Nat) (v_boxes : Int) (v_startsAt : Int) (v_facts : Nat → Int) (v_places : Nat → Int) (o : Int) (h : f_Shop_wrongOfAll v_boxes v_startsAt v_facts v_places = some o) : CtI l yX5_wrongOfAll wsX5_wrongOfAll ({ frames := 2, cells := 0, slots := 0, locals := 46 }) D cy sa [.ref a_v] (wd_X5_wrongOfAll cy a_v a_v_facts a_v_places v_boxes v_startsAt v_facts v_places) (wd_X5_wrongOfAll cy a_v a_v_facts a_v_places v_boxes v_startsAt v_facts v_places) o := by
  refine ct_I (cc := cX5_wrongOfAll) (maxL := 4) (plainFor_of_name (by decide)) rfl (Nat.le_of_ble_eq_true rfl) ?_
  intro p e s m below meth c A args QQ hx hb hml hown hts hE hDD hP KR ls hl
  have hl : lv_has ls 4 [(0, .ref a_v)] := hl
  have hDD : DD A [a_v, a_v_facts, a_v_places] := hDD
  have hS : va_S A s.heap s.heap [] := va_S.rf
  have q0 := hts (.fieldLink RX5 22 "HatHours$Shop" "startsAt" "I") (List.mem_of_getElem? (i := 1) rfl)
  have q1 := hts (.fieldLink RX5 18 "HatHours$Shop" "boxes" "I") (List.mem_of_getElem? (i := 2) rfl)
  have q2 := hts (.fieldLink RX5 15 "HatHours$Shop" "places" "[I") (List.mem_of_getElem? (i := 3) rfl)
  have iX5 : ∀ w ∈ u_ws RX5 TX5 4, w ∈ wsX5_wrongOfAll := in_slice 22 4 rfl
  have L9 : ∀ (fuel : Nat) (x1 : Int) (x2 : Int) (x3 : Int) (H : Heap) (locs : List Loc) (ls : Array Slot) (ex : Int), va_P D vwCl (wd_X5_wrongOfAll cy a_v a_v_facts a_v_places v_boxes v_startsAt v_facts v_places) H → va_S A s.heap H locs → lv_has ls 4 [(0, .ref a_v), (1, .int (zI x1)), (2, .int (zI x2)), (3, .int (zI x3))] → f_Shop_wrongOfAll_L9 fuel v_boxes v_facts v_places x1 x2 x3 = some ex → (∀ (H : Heap) (locs : List Loc) (ls : Array Slot), va_P D vwCl (wd_X5_wrongOfAll cy a_v a_v_facts a_v_places v_boxes v_startsAt v_facts v_places) H → va_S A s.heap H locs → lv_has ls 4 [(1, .int (zI ex))] → W p l e { frames := 2, cells := 0, slots := 0, locals := 46 } s m args below meth c H locs 0 0 QQ (F0 m 51 ls [])) → W p l e { frames := 2, cells := 0, slots := 0, locals := 46 } s m args below meth c H locs 0 0 QQ (F0 m 9 ls []) := by
    intro fuel
    induction fuel with
    | zero => intro _ _ _ H locs ls ex hP hS hl h K; cases h
    | succ fuel ih =>
      intro x1 x2 x3 H locs ls ex hP hS hl h K
      refine lv_iload_n hx hb dX5_wrongOfAll_9 rfl (lv_at hl 3 rfl) ?_
      refine lv_aload_n hx hb dX5_wrongOfAll_10 rfl (lv_at hl 0 rfl) ?_
      refine wi_get (v := .int (zI v_boxes)) hx hb hts iX5 hown hE hP 0 rfl rfl 2 (by decide) q1 rfl dX5_wrongOfAll_11 ?_
      obtain ⟨hr1, h⟩ := chk_some h
      obtain ⟨hr2, h⟩ := chk_some h
      refine wi_ic_ge (tgt := 51) hx hb dX5_wrongOfAll_14 (by decide) hr1 hr2 (fun c4 => ?_) (fun c4 => ?_)
      · have h := ite_t c4 h
        obtain rfl := Option.some.inj h
        exact K _ _ _ hP hS (lv_sub hl [1] rfl)
      · have h := ite_f c4 h
        refine lv_iload_n hx hb dX5_wrongOfAll_17 rfl (lv_at hl 2 rfl) ?_
        refine lv_aload_n hx hb dX5_wrongOfAll_18 rfl (lv_at hl 0 rfl) ?_
        refine lv_aload_n hx hb dX5_wrongOfAll_19 rfl (lv_at hl 0 rfl) ?_
        refine wi_get (v := .ref a_v_places) hx hb hts iX5 hown hE hP 0 rfl rfl 1 (by decide) q2 rfl dX5_wrongOfAll_20 ?_
        refine lv_iload_n hx hb dX5_wrongOfAll_23 rfl (lv_at hl 3 rfl) ?_
        obtain ⟨hk5, h⟩ := chk_some h
        refine wi_iald hx hb hE hP 2 rfl (by decide) hk5 dX5_wrongOfAll_24 ?_
        refine wi_ic hx hb dX5_wrongOfAll_25 ?_
        obtain ⟨o6, hc7, h⟩ := bnd_some h
        refine cV_i (rest := [.int (zI x2)]) (w2 := (wd_X5_wrongOfAll cy a_v a_v_facts a_v_places v_boxes v_startsAt v_facts v_places)) ⟨hx, hb, hml, hown, hts⟩ (c_X5_fact l D cy sa a_v a_v_facts a_v_places v_boxes v_startsAt v_facts (v_places (x3).toNat) 1 o6 hc7) (cwV 2 hts gX5_wrongOfAll_X5_fact rfl rfl rfl (by decide +kernel) ⟨Nat.le_of_ble_eq_true rfl, Nat.le_of_ble_eq_true rfl⟩) rfl rfl rfl hE hP hDD rfl hS [0, 1] rfl rfl rfl rfl hl.1 (Nat.le_of_ble_eq_true rfl) ⟨Nat.zero_le _, Nat.zero_le _⟩ rfl dX5_wrongOfAll_26 rfl (fun H locs hP hS => ?_)
        refine wi_iadd hx hb dX5_wrongOfAll_29 ?_
        refine lv_istore_n (lv' := [(2, .int (zI (x2 + o6))), (0, .ref a_v), (1, .int (zI x1)), (3, .int (zI x3))]) hx hb dX5_wrongOfAll_30 rfl hl (by decide) rfl (fun ls hl => ?_)
        refine lv_iload_n hx hb dX5_wrongOfAll_31 rfl (lv_at hl 2 rfl) ?_
        refine lv_aload_n hx hb dX5_wrongOfAll_32 rfl (lv_at hl 1 rfl) ?_
        refine lv_aload_n hx hb dX5_wrongOfAll_33 rfl (lv_at hl 1 rfl) ?_
        refine wi_get (v := .ref a_v_places) hx hb hts iX5 hown hE hP 0 rfl rfl 1 (by decide) q2 rfl dX5_wrongOfAll_34 ?_
        refine lv_iload_n hx hb dX5_wrongOfAll_37 rfl (lv_at hl 3 rfl) ?_
        refine wi_iald hx hb hE hP 2 rfl (by decide) hk5 dX5_wrongOfAll_38 ?_
        refine lv_iload_n hx hb dX5_wrongOfAll_39 rfl (lv_at hl 0 rfl) ?_
        obtain ⟨o8, hc9, h⟩ := bnd_some h
        refine cV_i (rest := [.int (zI x1)]) (w2 := (wd_X5_wrongOfAll cy a_v a_v_facts a_v_places v_boxes v_startsAt v_facts v_places)) ⟨hx, hb, hml, hown, hts⟩ (c_X5_wrongOf l D cy sa a_v a_v_facts a_v_places v_boxes v_startsAt v_facts (v_places (x3).toNat) (x2 + o6) o8 hc9) (cwV 2 hts gX5_wrongOfAll_X5_wrongOf rfl rfl rfl (by decide +kernel) ⟨Nat.le_of_ble_eq_true rfl, Nat.le_of_ble_eq_true rfl⟩) rfl rfl rfl hE hP hDD rfl hS [0, 1] rfl rfl rfl rfl hl.1 (Nat.le_of_ble_eq_true rfl) ⟨Nat.zero_le _, Nat.zero_le _⟩ rfl dX5_wrongOfAll_40 rfl (fun H locs hP hS => ?_)
        refine wi_iadd hx hb dX5_wrongOfAll_43 ?_
        refine lv_istore_n (lv' := [(1, .int (zI (x1 + o8))), (2, .int (zI (x2 + o6))), (0, .ref a_v), (3, .int (zI x3))]) hx hb dX5_wrongOfAll_44 rfl hl (by decide) rfl (fun ls hl => ?_)
        refine wi_iinc (k := 3) (lv' := [(3, .int (zI (x3 + 1))), (1, .int (zI (x1 + o8))), (2, .int (zI (x2 + o6))), (0, .ref a_v)]) hx hb dX5_wrongOfAll_45 hl rfl (by decide) rfl (fun ls hl => ?_)
        refine lv_goto (tgt := 9) hx hb dX5_wrongOfAll_48 (by decide) ?_
        exact ih (x1 + o8) (x2 + o6) (x3 + 1) _ _ _ _ hP hS (lv_sub hl [3, 1, 2, 0] rfl) h K
  refine wi_ic hx hb dX5_wrongOfAll_0 ?_
  refine lv_istore_n (lv' := [(1, .int (zI 0)), (0, .ref a_v)]) hx hb dX5_wrongOfAll_1 rfl hl (by decide) rfl (fun ls hl => ?_)
  refine lv_aload_n hx hb dX5_wrongOfAll_2 rfl (lv_at hl 1 rfl) ?_
  refine wi_get (v := .int (zI v_startsAt)) hx hb hts iX5 hown hE hP 0 rfl rfl 3 (by decide) q0 rfl dX5_wrongOfAll_3 ?_
  refine lv_istore_n (lv' := [(2, .int (zI v_startsAt)), (1, .int (zI 0)), (0, .ref a_v)]) hx hb dX5_wrongOfAll_6 rfl hl (by decide) rfl (fun ls hl => ?_)
  refine wi_ic hx hb dX5_wrongOfAll_7 ?_
  refine lv_istore_n (lv' := [(3, .int (zI 0)), (2, .int (zI v_startsAt)), (1, .int (zI 0)), (0, .ref a_v)]) hx hb dX5_wrongOfAll_8 rfl hl (by decide) rfl (fun ls hl => ?_)
  obtain ⟨o10, hx11, h⟩ := bnd_some h
  refine L9 5000 0 v_startsAt 0 _ _ _ _ hP hS (lv_sub hl [3, 2, 1, 0] rfl) hx11 ?_
  clear hx11
  intro H locs ls hP hS hl
  refine lv_iload_n hx hb dX5_wrongOfAll_51 rfl (lv_at hl 0 rfl) ?_
  obtain rfl := Option.some.inj h
  exact KR _ _ _ _ hP hS dX5_wrongOfAll_52
abbrev wd_X5_lastsOf (cy : Nat → ClassId) : va_W := []
set_option maxHeartbeats 4000000 in
set_option maxRecDepth 100000 in
theorem c_X5_lastsOf (l : Launch) (D : va_G) (cy : Nat → ClassId) (sa : Nat → Nat) (x0 : Int) (o : Int) (h : f_Shop_lastsOf x0 = some o) : CtI l yX5_lastsOf wsX5_lastsOf ({ frames := 0, cells := 0, slots := 0, locals := 0 }) D cy sa [.int (zI x0)] (wd_X5_lastsOf cy ) (wd_X5_lastsOf cy ) o := by
  refine ct_I (cc := cX5_lastsOf) (maxL := 1) (plainFor_of_name (by decide)) rfl (Nat.le_of_ble_eq_true rfl) ?_
  intro p e s m below meth c A args QQ hx hb hml hown hts hE hDD hP KR ls hl
  have hl : lv_has ls 1 [(0, .int (zI x0))] := hl
  have hDD : DD A [] := hDD
  have hS : va_S A s.heap s.heap [] := va_S.rf
  have q0 := hts (.fieldLink RX5 83 "HatHours$Shop" "LASTS" "[I") (List.mem_of_getElem? (i := 1) rfl)
  refine lv_iload_n hx hb dX5_lastsOf_0 rfl (lv_at hl 0 rfl) ?_
  obtain ⟨hr1, h⟩ := chk_some h
  refine wi_if_lt (tgt := 20) hx hb dX5_lastsOf_1 (by decide) hr1 (fun c3 => ?_) (fun c3 => ?_)
  · have h := ite_t c3 h
    refine wi_ic hx hb dX5_lastsOf_20 ?_
    obtain rfl := Option.some.inj h
    exact KR _ _ _ _ hP hS dX5_lastsOf_21
  · have h := ite_f c3 h
    refine lv_iload_n hx hb dX5_lastsOf_4 rfl (lv_at hl 0 rfl) ?_
    refine wi_gets hx hb hE.2.1.2.2.2.1.1 hS hown q0 dX5_lastsOf_5 ?_
    refine wi_tlen hx hb hE.2.1.2.2.2.1.2 hS dX5_lastsOf_8 ?_
    refine wi_ic_ge (tgt := 20) hx hb dX5_lastsOf_9 (by decide) hr1 (by decide) (fun c5 => ?_) (fun c5 => ?_)
    · have h := ite_t c5 h
      refine wi_ic hx hb dX5_lastsOf_20 ?_
      obtain rfl := Option.some.inj h
      exact KR _ _ _ _ hP hS dX5_lastsOf_21
    · have h := ite_f c5 h
      refine wi_gets hx hb hE.2.1.2.2.2.1.1 hS hown q0 dX5_lastsOf_12 ?_
      refine lv_iload_n hx hb dX5_lastsOf_15 rfl (lv_at hl 0 rfl) ?_
      obtain ⟨hk6, h⟩ := chk_some h
      refine wi_ti hx hb hE.2.1.2.2.2.1.2 hS (by decide) hk6 dX5_lastsOf_16 ?_
      refine lv_goto (tgt := 21) hx hb dX5_lastsOf_17 (by decide) ?_
      obtain rfl := Option.some.inj h
      exact KR _ _ _ _ hP hS dX5_lastsOf_21
abbrev wd_X5_ownHour (cy : Nat → ClassId) (a_v : Nat) (a_v_facts : Nat) (a_v_places : Nat) (v_boxes : Int) (v_startsAt : Int) (v_facts : Nat → Int) (v_places : Nat → Int) : va_W := [(a_v, .inr (5, [.ref a_v_facts, .ref a_v_places, .int (zI v_boxes), .int (zI v_startsAt)])), (a_v_facts, .inl (cy 0, 30, .inl (fun j => zI (v_facts j)))), (a_v_places, .inl (cy 0, 5, .inl (fun j => zI (v_places j))))]
set_option maxHeartbeats 4000000 in
set_option maxRecDepth 100000 in
theorem c_X5_ownHour (l : Launch) (D : va_G) (cy : Nat → ClassId) (sa : Nat → Nat) (a_v : Nat) (a_v_facts : Nat) (a_v_places : Nat) (v_boxes : Int) (v_startsAt : Int) (v_facts : Nat → Int) (v_places : Nat → Int) (x1 : Int) (o : Int) (h : f_Shop_ownHour v_boxes v_startsAt v_facts v_places x1 = some o) : CtI l yX5_ownHour wsX5_ownHour ({ frames := 1, cells := 0, slots := 0, locals := 23 }) D cy sa [.ref a_v, .int (zI x1)] (wd_X5_ownHour cy a_v a_v_facts a_v_places v_boxes v_startsAt v_facts v_places) (wd_X5_ownHour cy a_v a_v_facts a_v_places v_boxes v_startsAt v_facts v_places) o := by
  refine ct_I (cc := cX5_ownHour) (maxL := 4) (plainFor_of_name (by decide)) rfl (Nat.le_of_ble_eq_true rfl) ?_
  intro p e s m below meth c A args QQ hx hb hml hown hts hE hDD hP KR ls hl
  have hl : lv_has ls 4 [(0, .ref a_v), (1, .int (zI x1))] := hl
  have hDD : DD A [a_v, a_v_facts, a_v_places] := hDD
  have hS : va_S A s.heap s.heap [] := va_S.rf
  have q0 := hts (.fieldLink RX5 22 "HatHours$Shop" "startsAt" "I") (List.mem_of_getElem? (i := 1) rfl)
  have q1 := hts (.fieldLink RX5 18 "HatHours$Shop" "boxes" "I") (List.mem_of_getElem? (i := 2) rfl)
  have q2 := hts (.fieldLink RX5 15 "HatHours$Shop" "places" "[I") (List.mem_of_getElem? (i := 3) rfl)
  have iX5 : ∀ w ∈ u_ws RX5 TX5 4, w ∈ wsX5_ownHour := in_slice 10 4 rfl
  have L7 : ∀ (fuel : Nat) (x1 : Int) (x2 : Int) (x3 : Int) (H : Heap) (locs : List Loc) (ls : Array Slot), va_P D vwCl (wd_X5_ownHour cy a_v a_v_facts a_v_places v_boxes v_startsAt v_facts v_places) H → va_S A s.heap H locs → lv_has ls 4 [(0, .ref a_v), (1, .int (zI x1)), (2, .int (zI x2)), (3, .int (zI x3))] → f_Shop_ownHour_L7 fuel v_boxes v_startsAt v_facts v_places x1 x2 x3 = some o → W p l e { frames := 1, cells := 0, slots := 0, locals := 23 } s m args below meth c H locs 0 0 QQ (F0 m 7 ls []) := by
    intro fuel
    induction fuel with
    | zero => intro _ _ _ H locs ls hP hS hl h; cases h
    | succ fuel ih =>
      intro x1 x2 x3 H locs ls hP hS hl h
      refine lv_iload_n hx hb dX5_ownHour_7 rfl (lv_at hl 3 rfl) ?_
      refine lv_aload_n hx hb dX5_ownHour_8 rfl (lv_at hl 0 rfl) ?_
      refine wi_get (v := .int (zI v_boxes)) hx hb hts iX5 hown hE hP 0 rfl rfl 2 (by decide) q1 rfl dX5_ownHour_9 ?_
      obtain ⟨hr1, h⟩ := chk_some h
      obtain ⟨hr2, h⟩ := chk_some h
      refine wi_ic_ge (tgt := 48) hx hb dX5_ownHour_12 (by decide) hr1 hr2 (fun c4 => ?_) (fun c4 => ?_)
      · have h := ite_t c4 h
        refine lv_iload_n hx hb dX5_ownHour_48 rfl (lv_at hl 2 rfl) ?_
        refine wi_bi hx hb dX5_ownHour_49 (by decide) ?_
        obtain ⟨hk5, h⟩ := chk_some h
        refine wi_irem hx hb dX5_ownHour_51 ⟨hk5, by decide⟩ ?_
        obtain rfl := Option.some.inj h
        exact KR _ _ _ _ hP hS dX5_ownHour_52
      · have h := ite_f c4 h
        refine lv_iload_n hx hb dX5_ownHour_15 rfl (lv_at hl 2 rfl) ?_
        refine lv_aload_n hx hb dX5_ownHour_16 rfl (lv_at hl 0 rfl) ?_
        refine lv_aload_n hx hb dX5_ownHour_17 rfl (lv_at hl 0 rfl) ?_
        refine wi_get (v := .ref a_v_places) hx hb hts iX5 hown hE hP 0 rfl rfl 1 (by decide) q2 rfl dX5_ownHour_18 ?_
        refine lv_iload_n hx hb dX5_ownHour_21 rfl (lv_at hl 3 rfl) ?_
        obtain ⟨hk6, h⟩ := chk_some h
        refine wi_iald hx hb hE hP 2 rfl (by decide) hk6 dX5_ownHour_22 ?_
        refine wi_ic hx hb dX5_ownHour_23 ?_
        obtain ⟨o7, hc8, h⟩ := bnd_some h
        refine cV_i (rest := [.int (zI x2)]) (w2 := (wd_X5_ownHour cy a_v a_v_facts a_v_places v_boxes v_startsAt v_facts v_places)) ⟨hx, hb, hml, hown, hts⟩ (c_X5_fact l D cy sa a_v a_v_facts a_v_places v_boxes v_startsAt v_facts (v_places (x3).toNat) 1 o7 hc8) (cwV 2 hts gX5_ownHour_X5_fact rfl rfl rfl (by decide +kernel) ⟨Nat.le_of_ble_eq_true rfl, Nat.le_of_ble_eq_true rfl⟩) rfl rfl rfl hE hP hDD rfl hS [0, 1] rfl rfl rfl rfl hl.1 (Nat.le_of_ble_eq_true rfl) ⟨Nat.zero_le _, Nat.zero_le _⟩ rfl dX5_ownHour_24 rfl (fun H locs hP hS => ?_)
        refine wi_iadd hx hb dX5_ownHour_27 ?_
        refine lv_istore_n (lv' := [(2, .int (zI (x2 + o7))), (0, .ref a_v), (1, .int (zI x1)), (3, .int (zI x3))]) hx hb dX5_ownHour_28 rfl hl (by decide) rfl (fun ls hl => ?_)
        refine lv_aload_n hx hb dX5_ownHour_29 rfl (lv_at hl 1 rfl) ?_
        refine wi_get (v := .ref a_v_places) hx hb hts iX5 hown hE hP 0 rfl rfl 1 (by decide) q2 rfl dX5_ownHour_30 ?_
        refine lv_iload_n hx hb dX5_ownHour_33 rfl (lv_at hl 3 rfl) ?_
        refine wi_iald hx hb hE hP 2 rfl (by decide) hk6 dX5_ownHour_34 ?_
        refine lv_iload_n hx hb dX5_ownHour_35 rfl (lv_at hl 2 rfl) ?_
        obtain ⟨hr9, h⟩ := chk_some h
        obtain ⟨hr10, h⟩ := chk_some h
        refine wi_ic_ne (tgt := 42) hx hb dX5_ownHour_36 (by decide) hr9 hr10 (fun c12 => ?_) (fun c12 => ?_)
        · have h := ite_f c12 h
          refine wi_iinc (k := 3) (lv' := [(3, .int (zI (x3 + 1))), (2, .int (zI (x2 + o7))), (0, .ref a_v), (1, .int (zI x1))]) hx hb dX5_ownHour_42 hl rfl (by decide) rfl (fun ls hl => ?_)
          refine lv_goto (tgt := 7) hx hb dX5_ownHour_45 (by decide) ?_
          exact ih x1 (x2 + o7) (x3 + 1) _ _ _ hP hS (lv_sub hl [2, 3, 1, 0] rfl) h
        · have h := ite_t c12 h
          refine lv_goto (tgt := 48) hx hb dX5_ownHour_39 (by decide) ?_
          refine lv_iload_n hx hb dX5_ownHour_48 rfl (lv_at hl 0 rfl) ?_
          refine wi_bi hx hb dX5_ownHour_49 (by decide) ?_
          obtain ⟨hk13, h⟩ := chk_some h
          refine wi_irem hx hb dX5_ownHour_51 ⟨hk13, by decide⟩ ?_
          obtain rfl := Option.some.inj h
          exact KR _ _ _ _ hP hS dX5_ownHour_52
  refine lv_aload_n hx hb dX5_ownHour_0 rfl (lv_at hl 0 rfl) ?_
  refine wi_get (v := .int (zI v_startsAt)) hx hb hts iX5 hown hE hP 0 rfl rfl 3 (by decide) q0 rfl dX5_ownHour_1 ?_
  refine lv_istore_n (lv' := [(2, .int (zI v_startsAt)), (0, .ref a_v), (1, .int (zI x1))]) hx hb dX5_ownHour_4 rfl hl (by decide) rfl (fun ls hl => ?_)
  refine wi_ic hx hb dX5_ownHour_5 ?_
  refine lv_istore_n (lv' := [(3, .int (zI 0)), (2, .int (zI v_startsAt)), (0, .ref a_v), (1, .int (zI x1))]) hx hb dX5_ownHour_6 rfl hl (by decide) rfl (fun ls hl => ?_)
  exact L7 5000 x1 v_startsAt 0 _ _ _ hP hS (lv_sub hl [2, 3, 1, 0] rfl) h
abbrev wd_X5_boxAt (cy : Nat → ClassId) (a_v : Nat) (a_v_facts : Nat) (a_v_places : Nat) (v_boxes : Int) (v_startsAt : Int) (v_facts : Nat → Int) : va_W := [(a_v, .inr (5, [.ref a_v_facts, .ref a_v_places, .int (zI v_boxes), .int (zI v_startsAt)])), (a_v_facts, .inl (cy 0, 30, .inl (fun j => zI (v_facts j))))]
set_option maxHeartbeats 4000000 in
set_option maxRecDepth 100000 in
theorem c_X5_boxAt (l : Launch) (D : va_G) (cy : Nat → ClassId) (sa : Nat → Nat) (a_v : Nat) (a_v_facts : Nat) (a_v_places : Nat) (v_boxes : Int) (v_startsAt : Int) (v_facts : Nat → Int) (x1 : Int) (x2 : Int) (o : Int) (h : f_Shop_boxAt v_boxes v_facts x1 x2 = some o) : CtI l yX5_boxAt wsX5_boxAt ({ frames := 1, cells := 0, slots := 0, locals := 23 }) D cy sa [.ref a_v, .int (zI x1), .int (zI x2)] (wd_X5_boxAt cy a_v a_v_facts a_v_places v_boxes v_startsAt v_facts) (wd_X5_boxAt cy a_v a_v_facts a_v_places v_boxes v_startsAt v_facts) o := by
  refine ct_I (cc := cX5_boxAt) (maxL := 8) (plainFor_of_name (by decide)) rfl (Nat.le_of_ble_eq_true rfl) ?_
  intro p e s m below meth c A args QQ hx hb hml hown hts hE hDD hP KR ls hl
  have hl : lv_has ls 8 [(0, .ref a_v), (1, .int (zI x1)), (2, .int (zI x2))] := hl
  have hDD : DD A [a_v, a_v_facts] := hDD
  have hS : va_S A s.heap s.heap [] := va_S.rf
  have q0 := hts (.fieldLink RX5 18 "HatHours$Shop" "boxes" "I") (List.mem_of_getElem? (i := 1) rfl)
  have iX5 : ∀ w ∈ u_ws RX5 TX5 4, w ∈ wsX5_boxAt := in_slice 12 4 rfl
  have L9 : ∀ (fuel : Nat) (x1 : Int) (x2 : Int) (x3 : Int) (x4 : Int) (x5 : Int) (H : Heap) (locs : List Loc) (ls : Array Slot) (ex : Int), va_P D vwCl (wd_X5_boxAt cy a_v a_v_facts a_v_places v_boxes v_startsAt v_facts) H → va_S A s.heap H locs → lv_has ls 8 [(0, .ref a_v), (1, .int (zI x1)), (2, .int (zI x2)), (3, .int (zI x3)), (4, .int (zI x4)), (5, .int (zI x5))] → f_Shop_boxAt_L9 fuel v_boxes v_facts x1 x2 x3 x4 x5 = some ex → (∀ (H : Heap) (locs : List Loc) (ls : Array Slot), va_P D vwCl (wd_X5_boxAt cy a_v a_v_facts a_v_places v_boxes v_startsAt v_facts) H → va_S A s.heap H locs → lv_has ls 8 [(3, .int (zI ex))] → W p l e { frames := 1, cells := 0, slots := 0, locals := 23 } s m args below meth c H locs 0 0 QQ (F0 m 93 ls [])) → W p l e { frames := 1, cells := 0, slots := 0, locals := 23 } s m args below meth c H locs 0 0 QQ (F0 m 9 ls []) := by
    intro fuel
    induction fuel with
    | zero => intro _ _ _ _ _ H locs ls ex hP hS hl h K; cases h
    | succ fuel ih =>
      intro x1 x2 x3 x4 x5 H locs ls ex hP hS hl h K
      refine lv_iload hx hb dX5_boxAt_9 (lv_at hl 5 rfl) ?_
      refine lv_aload_n hx hb dX5_boxAt_11 rfl (lv_at hl 0 rfl) ?_
      refine wi_get (v := .int (zI v_boxes)) hx hb hts iX5 hown hE hP 0 rfl rfl 2 (by decide) q0 rfl dX5_boxAt_12 ?_
      obtain ⟨hr1, h⟩ := chk_some h
      obtain ⟨hr2, h⟩ := chk_some h
      refine wi_ic_ge (tgt := 93) hx hb dX5_boxAt_15 (by decide) hr1 hr2 (fun c4 => ?_) (fun c4 => ?_)
      · have h := ite_t c4 h
        obtain rfl := Option.some.inj h
        exact K _ _ _ hP hS (lv_sub hl [3] rfl)
      · have h := ite_f c4 h
        refine lv_aload_n hx hb dX5_boxAt_18 rfl (lv_at hl 0 rfl) ?_
        refine lv_iload hx hb dX5_boxAt_19 (lv_at hl 5 rfl) ?_
        refine wi_ic hx hb dX5_boxAt_21 ?_
        obtain ⟨o5, hc6, h⟩ := bnd_some h
        refine cV_i (rest := []) (w2 := (wd_X5_boxAt cy a_v a_v_facts a_v_places v_boxes v_startsAt v_facts)) ⟨hx, hb, hml, hown, hts⟩ (c_X5_fact l D cy sa a_v a_v_facts a_v_places v_boxes v_startsAt v_facts x5 4 o5 hc6) (cwV 2 hts gX5_boxAt_X5_fact rfl rfl rfl (by decide +kernel) ⟨Nat.le_of_ble_eq_true rfl, Nat.le_of_ble_eq_true rfl⟩) rfl rfl rfl hE hP hDD rfl hS [0, 1] rfl rfl rfl rfl hl.1 (Nat.le_of_ble_eq_true rfl) ⟨Nat.zero_le _, Nat.zero_le _⟩ rfl dX5_boxAt_22 rfl (fun H locs hP hS => ?_)
        refine lv_istore (lv' := [(6, .int (zI o5)), (0, .ref a_v), (1, .int (zI x1)), (2, .int (zI x2)), (3, .int (zI x3)), (4, .int (zI x4)), (5, .int (zI x5))]) hx hb dX5_boxAt_25 hl (by decide) rfl (fun ls hl => ?_)
        refine lv_aload_n hx hb dX5_boxAt_27 rfl (lv_at hl 1 rfl) ?_
        refine lv_iload hx hb dX5_boxAt_28 (lv_at hl 6 rfl) ?_
        refine wi_ic hx hb dX5_boxAt_30 ?_
        obtain ⟨o7, hc8, h⟩ := bnd_some h
        refine cV_i (rest := []) (w2 := (wd_X5_boxAt cy a_v a_v_facts a_v_places v_boxes v_startsAt v_facts)) ⟨hx, hb, hml, hown, hts⟩ (c_X5_fact l D cy sa a_v a_v_facts a_v_places v_boxes v_startsAt v_facts x5 5 o7 hc8) (cwV 2 hts gX5_boxAt_X5_fact rfl rfl rfl (by decide +kernel) ⟨Nat.le_of_ble_eq_true rfl, Nat.le_of_ble_eq_true rfl⟩) rfl rfl rfl hE hP hDD rfl hS [0, 1] rfl rfl rfl rfl hl.1 (Nat.le_of_ble_eq_true rfl) ⟨Nat.zero_le _, Nat.zero_le _⟩ rfl dX5_boxAt_31 rfl (fun H locs hP hS => ?_)
        refine lv_iload_n hx hb dX5_boxAt_34 rfl (lv_at hl 2 rfl) ?_
        obtain ⟨hr9, h⟩ := chk_some h
        obtain ⟨hr10, h⟩ := chk_some h
        obtain ⟨o11, hx12, h⟩ := bnd_some h
        have J13 : ∀ (H : Heap) (locs : List Loc) (ls : Array Slot), va_P D vwCl (wd_X5_boxAt cy a_v a_v_facts a_v_places v_boxes v_startsAt v_facts) H → va_S A s.heap H locs → lv_has ls 8 [(0, .ref a_v), (1, .int (zI x1)), (2, .int (zI x2)), (3, .int (zI x3)), (4, .int (zI x4)), (5, .int (zI x5)), (6, .int (zI o5))] → W p l e { frames := 1, cells := 0, slots := 0, locals := 23 } s m args below meth c H locs 0 0 QQ (F0 m 56 ls [.int (zI o11)]) := by
          intro H locs ls hP hS hl
          refine lv_istore (lv' := [(7, .int (zI o11)), (0, .ref a_v), (1, .int (zI x1)), (2, .int (zI x2)), (3, .int (zI x3)), (4, .int (zI x4)), (5, .int (zI x5)), (6, .int (zI o5))]) hx hb dX5_boxAt_56 hl (by decide) rfl (fun ls hl => ?_)
          refine lv_iload hx hb dX5_boxAt_58 (lv_at hl 0 rfl) ?_
          obtain ⟨hr14, h⟩ := chk_some h
          refine wi_if_eq (tgt := 87) hx hb dX5_boxAt_60 (by decide) hr14 (fun c16 => ?_) (fun c16 => ?_)
          · have h := ite_t c16 h
            refine wi_iinc (k := 6) (lv' := [(5, .int (zI (x5 + 1))), (7, .int (zI o11)), (0, .ref a_v), (1, .int (zI x1)), (2, .int (zI x2)), (3, .int (zI x3)), (4, .int (zI x4)), (6, .int (zI o5))]) hx hb dX5_boxAt_87 hl rfl (by decide) rfl (fun ls hl => ?_)
            refine lv_goto (tgt := 9) hx hb dX5_boxAt_90 (by decide) ?_
            exact ih x1 x2 x3 x4 (x5 + 1) _ _ _ _ hP hS (lv_sub hl [2, 3, 4, 5, 6, 0] rfl) h K
          · have h := ite_f c16 h
            refine lv_iload_n hx hb dX5_boxAt_63 rfl (lv_at hl 3 rfl) ?_
            refine lv_iload hx hb dX5_boxAt_64 (lv_at hl 7 rfl) ?_
            refine wi_isub hx hb dX5_boxAt_66 ?_
            refine lv_aload_n hx hb dX5_boxAt_67 rfl (lv_at hl 1 rfl) ?_
            refine lv_iload hx hb dX5_boxAt_68 (lv_at hl 6 rfl) ?_
            refine wi_ic hx hb dX5_boxAt_70 ?_
            obtain ⟨o17, hc18, h⟩ := bnd_some h
            refine cV_i (rest := [.int (zI (x2 - o5))]) (w2 := (wd_X5_boxAt cy a_v a_v_facts a_v_places v_boxes v_startsAt v_facts)) ⟨hx, hb, hml, hown, hts⟩ (c_X5_fact l D cy sa a_v a_v_facts a_v_places v_boxes v_startsAt v_facts x5 0 o17 hc18) (cwV 2 hts gX5_boxAt_X5_fact rfl rfl rfl (by decide +kernel) ⟨Nat.le_of_ble_eq_true rfl, Nat.le_of_ble_eq_true rfl⟩) rfl rfl rfl hE hP hDD rfl hS [0, 1] rfl rfl rfl rfl hl.1 (Nat.le_of_ble_eq_true rfl) ⟨Nat.zero_le _, Nat.zero_le _⟩ rfl dX5_boxAt_71 rfl (fun H locs hP hS => ?_)
            obtain ⟨o19, hc20, h⟩ := bnd_some h
            refine cS_i (rest := [.int (zI (x2 - o5))]) (w2 := (wd_X5_boxAt cy a_v a_v_facts a_v_places v_boxes v_startsAt v_facts)) ⟨hx, hb, hml, hown, hts⟩ (c_X5_lastsOf l D cy sa o17 o19 hc20) (va_cwS 1 hts gX5_boxAt_X5_lastsOf rfl rfl rfl (by decide +kernel) ⟨Nat.le_of_ble_eq_true rfl, Nat.le_of_ble_eq_true rfl⟩) hE hP hDD rfl hS [] rfl rfl rfl rfl hl.1 (Nat.le_of_ble_eq_true rfl) ⟨Nat.zero_le _, Nat.zero_le _⟩ rfl dX5_boxAt_74 rfl (fun H locs hP hS => ?_)
            obtain ⟨hr21, h⟩ := chk_some h
            obtain ⟨hr22, h⟩ := chk_some h
            refine wi_ic_ge (tgt := 87) hx hb dX5_boxAt_77 (by decide) hr21 hr22 (fun c24 => ?_) (fun c24 => ?_)
            · have h := ite_t c24 h
              refine wi_iinc (k := 6) (lv' := [(5, .int (zI (x5 + 1))), (7, .int (zI o11)), (0, .ref a_v), (1, .int (zI x1)), (2, .int (zI x2)), (3, .int (zI x3)), (4, .int (zI x4)), (6, .int (zI o5))]) hx hb dX5_boxAt_87 hl rfl (by decide) rfl (fun ls hl => ?_)
              refine lv_goto (tgt := 9) hx hb dX5_boxAt_90 (by decide) ?_
              exact ih x1 x2 x3 x4 (x5 + 1) _ _ _ _ hP hS (lv_sub hl [2, 3, 4, 5, 6, 0] rfl) h K
            · have h := ite_f c24 h
              refine lv_iload hx hb dX5_boxAt_80 (lv_at hl 6 rfl) ?_
              refine lv_istore_n (lv' := [(3, .int (zI x5)), (7, .int (zI o11)), (0, .ref a_v), (1, .int (zI x1)), (2, .int (zI x2)), (4, .int (zI x4)), (5, .int (zI x5)), (6, .int (zI o5))]) hx hb dX5_boxAt_82 rfl hl (by decide) rfl (fun ls hl => ?_)
              refine lv_iload hx hb dX5_boxAt_83 (lv_at hl 7 rfl) ?_
              refine lv_istore (lv' := [(4, .int (zI o5)), (3, .int (zI x5)), (7, .int (zI o11)), (0, .ref a_v), (1, .int (zI x1)), (2, .int (zI x2)), (5, .int (zI x5)), (6, .int (zI o5))]) hx hb dX5_boxAt_85 hl (by decide) rfl (fun ls hl => ?_)
              refine wi_iinc (k := 6) (lv' := [(5, .int (zI (x5 + 1))), (4, .int (zI o5)), (3, .int (zI x5)), (7, .int (zI o11)), (0, .ref a_v), (1, .int (zI x1)), (2, .int (zI x2)), (6, .int (zI o5))]) hx hb dX5_boxAt_87 hl rfl (by decide) rfl (fun ls hl => ?_)
              refine lv_goto (tgt := 9) hx hb dX5_boxAt_90 (by decide) ?_
              exact ih x1 x2 x5 o5 (x5 + 1) _ _ _ _ hP hS (lv_sub hl [4, 5, 6, 2, 1, 0] rfl) h K
        clear h
        have h := hx12
        clear hx12
        refine wi_ic_ne (tgt := 55) hx hb dX5_boxAt_35 (by decide) hr9 hr10 (fun c25 => ?_) (fun c25 => ?_)
        · have h := ite_f c25 h
          refine wi_ic hx hb dX5_boxAt_55 ?_
          obtain rfl := Option.some.inj h
          exact J13 _ _ _ hP hS (lv_sub hl [1, 2, 3, 4, 5, 6, 0] rfl)
        · have h := ite_t c25 h
          refine lv_iload hx hb dX5_boxAt_38 (lv_at hl 0 rfl) ?_
          refine lv_iload hx hb dX5_boxAt_40 (lv_at hl 5 rfl) ?_
          obtain ⟨hr26, h⟩ := chk_some h
          obtain ⟨hr27, h⟩ := chk_some h
          refine wi_ic_lt (tgt := 55) hx hb dX5_boxAt_42 (by decide) hr26 hr27 (fun c29 => ?_) (fun c29 => ?_)
          · have h := ite_t c29 h
            refine wi_ic hx hb dX5_boxAt_55 ?_
            obtain rfl := Option.some.inj h
            exact J13 _ _ _ hP hS (lv_sub hl [1, 2, 3, 4, 5, 6, 0] rfl)
          · have h := ite_f c29 h
            refine lv_iload hx hb dX5_boxAt_45 (lv_at hl 0 rfl) ?_
            refine lv_iload_n hx hb dX5_boxAt_47 rfl (lv_at hl 3 rfl) ?_
            obtain ⟨hr30, h⟩ := chk_some h
            refine wi_ic_gt (tgt := 55) hx hb dX5_boxAt_48 (by decide) hr26 hr30 (fun c32 => ?_) (fun c32 => ?_)
            · have h := ite_t c32 h
              refine wi_ic hx hb dX5_boxAt_55 ?_
              obtain rfl := Option.some.inj h
              exact J13 _ _ _ hP hS (lv_sub hl [1, 2, 3, 4, 5, 6, 0] rfl)
            · have h := ite_f c32 h
              refine wi_ic hx hb dX5_boxAt_51 ?_
              refine lv_goto (tgt := 56) hx hb dX5_boxAt_52 (by decide) ?_
              obtain rfl := Option.some.inj h
              exact J13 _ _ _ hP hS (lv_sub hl [1, 2, 3, 4, 5, 6, 0] rfl)
  refine wi_bi hx hb dX5_boxAt_0 (by decide) ?_
  refine lv_istore_n (lv' := [(3, .int (zI (-4))), (0, .ref a_v), (1, .int (zI x1)), (2, .int (zI x2))]) hx hb dX5_boxAt_2 rfl hl (by decide) rfl (fun ls hl => ?_)
  refine wi_ic hx hb dX5_boxAt_3 ?_
  refine lv_istore (lv' := [(4, .int (zI 0)), (3, .int (zI (-4))), (0, .ref a_v), (1, .int (zI x1)), (2, .int (zI x2))]) hx hb dX5_boxAt_4 hl (by decide) rfl (fun ls hl => ?_)
  refine wi_ic hx hb dX5_boxAt_6 ?_
  refine lv_istore (lv' := [(5, .int (zI 0)), (4, .int (zI 0)), (3, .int (zI (-4))), (0, .ref a_v), (1, .int (zI x1)), (2, .int (zI x2))]) hx hb dX5_boxAt_7 hl (by decide) rfl (fun ls hl => ?_)
  obtain ⟨o33, hx34, h⟩ := bnd_some h
  refine L9 5000 x1 x2 (-4) 0 0 _ _ _ _ hP hS (lv_sub hl [3, 4, 5, 2, 1, 0] rfl) hx34 ?_
  clear hx34
  intro H locs ls hP hS hl
  refine lv_iload_n hx hb dX5_boxAt_93 rfl (lv_at hl 0 rfl) ?_
  obtain rfl := Option.some.inj h
  exact KR _ _ _ _ hP hS dX5_boxAt_94
abbrev wd_X5_yawnsBy (cy : Nat → ClassId) (a_v : Nat) (a_v_facts : Nat) (a_v_places : Nat) (v_boxes : Int) (v_startsAt : Int) (v_facts : Nat → Int) (v_places : Nat → Int) : va_W := [(a_v, .inr (5, [.ref a_v_facts, .ref a_v_places, .int (zI v_boxes), .int (zI v_startsAt)])), (a_v_facts, .inl (cy 0, 30, .inl (fun j => zI (v_facts j)))), (a_v_places, .inl (cy 0, 5, .inl (fun j => zI (v_places j))))]
set_option maxHeartbeats 4000000 in
set_option maxRecDepth 100000 in
theorem c_X5_yawnsBy (l : Launch) (D : va_G) (cy : Nat → ClassId) (sa : Nat → Nat) (a_v : Nat) (a_v_facts : Nat) (a_v_places : Nat) (v_boxes : Int) (v_startsAt : Int) (v_facts : Nat → Int) (v_places : Nat → Int) (x1 : Int) (o : Int) (h : f_Shop_yawnsBy v_boxes v_startsAt v_facts v_places x1 = some o) : CtI l yX5_yawnsBy wsX5_yawnsBy ({ frames := 2, cells := 0, slots := 0, locals := 50 }) D cy sa [.ref a_v, .int (zI x1)] (wd_X5_yawnsBy cy a_v a_v_facts a_v_places v_boxes v_startsAt v_facts v_places) (wd_X5_yawnsBy cy a_v a_v_facts a_v_places v_boxes v_startsAt v_facts v_places) o := by
  refine ct_I (cc := cX5_yawnsBy) (maxL := 9) (plainFor_of_name (by decide)) rfl (Nat.le_of_ble_eq_true rfl) ?_
  intro p e s m below meth c A args QQ hx hb hml hown hts hE hDD hP KR ls hl
  have hl : lv_has ls 9 [(0, .ref a_v), (1, .int (zI x1))] := hl
  have hDD : DD A [a_v, a_v_facts, a_v_places] := hDD
  have hS : va_S A s.heap s.heap [] := va_S.rf
  have q0 := hts (.methodLink RX5 77 Lib.Math.min.name) (List.mem_of_getElem? (i := 1) rfl)
  have q1 := hts (.static Lib.Math.min.name) (List.mem_of_getElem? (i := 2) rfl)
  have q2 := hts (.initialized "java/lang/Math") (List.mem_of_getElem? (i := 3) rfl)
  have q3 := hts (.code Lib.Math.min.name Lib.Math.min.code 2 (some .int)) (List.mem_of_getElem? (i := 4) rfl)
  have q4 := hts (.methodLink RX5 98 Lib.Math.max.name) (List.mem_of_getElem? (i := 5) rfl)
  have q5 := hts (.static Lib.Math.max.name) (List.mem_of_getElem? (i := 6) rfl)
  have q6 := hts (.code Lib.Math.max.name Lib.Math.max.code 2 (some .int)) (List.mem_of_getElem? (i := 7) rfl)
  have L50 : ∀ (fuel : Nat) (x1 : Int) (x2 : Int) (x3 : Int) (x4 : Int) (x5 : Int) (x6 : Int) (x7 : Int) (H : Heap) (locs : List Loc) (ls : Array Slot) (ex : Int), va_P D vwCl (wd_X5_yawnsBy cy a_v a_v_facts a_v_places v_boxes v_startsAt v_facts v_places) H → va_S A s.heap H locs → lv_has ls 9 [(0, .ref a_v), (1, .int (zI x1)), (2, .int (zI x2)), (3, .int (zI x3)), (4, .int (zI x4)), (5, .int (zI x5)), (6, .int (zI x6)), (7, .int (zI x7))] → f_Shop_yawnsBy_L50 fuel v_boxes v_facts x1 x2 x3 x4 x5 x6 x7 = some ex → (∀ (H : Heap) (locs : List Loc) (ls : Array Slot), va_P D vwCl (wd_X5_yawnsBy cy a_v a_v_facts a_v_places v_boxes v_startsAt v_facts v_places) H → va_S A s.heap H locs → lv_has ls 9 [(6, .int (zI ex))] → W p l e { frames := 2, cells := 0, slots := 0, locals := 50 } s m args below meth c H locs 0 0 QQ (F0 m 96 ls [])) → W p l e { frames := 2, cells := 0, slots := 0, locals := 50 } s m args below meth c H locs 0 0 QQ (F0 m 50 ls []) := by
    intro fuel
    induction fuel with
    | zero => intro _ _ _ _ _ _ _ H locs ls ex hP hS hl h K; cases h
    | succ fuel ih =>
      intro x1 x2 x3 x4 x5 x6 x7 H locs ls ex hP hS hl h K
      refine lv_iload hx hb dX5_yawnsBy_50 (lv_at hl 7 rfl) ?_
      refine lv_iload hx hb dX5_yawnsBy_52 (lv_at hl 4 rfl) ?_
      obtain ⟨hr13, h⟩ := chk_some h
      obtain ⟨hr14, h⟩ := chk_some h
      refine wi_ic_ge (tgt := 96) hx hb dX5_yawnsBy_54 (by decide) hr13 hr14 (fun c16 => ?_) (fun c16 => ?_)
      · have h := ite_t c16 h
        obtain rfl := Option.some.inj h
        exact K _ _ _ hP hS (lv_sub hl [6] rfl)
      · have h := ite_f c16 h
        refine lv_iload hx hb dX5_yawnsBy_57 (lv_at hl 5 rfl) ?_
        refine lv_iload hx hb dX5_yawnsBy_59 (lv_at hl 7 rfl) ?_
        refine wi_iadd hx hb dX5_yawnsBy_61 ?_
        refine lv_iload_n hx hb dX5_yawnsBy_62 rfl (lv_at hl 2 rfl) ?_
        refine wi_isub hx hb dX5_yawnsBy_63 ?_
        refine wi_bi hx hb dX5_yawnsBy_64 (by decide) ?_
        obtain ⟨hk17, h⟩ := chk_some h
        refine wi_irem hx hb dX5_yawnsBy_66 ⟨hk17, by decide⟩ ?_
        refine lv_istore (lv' := [(8, .int (zI (((x5 + x7) - x2) % 24))), (0, .ref a_v), (1, .int (zI x1)), (2, .int (zI x2)), (3, .int (zI x3)), (4, .int (zI x4)), (5, .int (zI x5)), (6, .int (zI x6)), (7, .int (zI x7))]) hx hb dX5_yawnsBy_67 hl (by decide) rfl (fun ls hl => ?_)
        refine lv_iload hx hb dX5_yawnsBy_69 (lv_at hl 0 rfl) ?_
        refine wi_bi hx hb dX5_yawnsBy_71 (by decide) ?_
        obtain ⟨hr18, h⟩ := chk_some h
        refine wi_ic_ge (tgt := 90) hx hb dX5_yawnsBy_73 (by decide) hr18 (by decide) (fun c20 => ?_) (fun c20 => ?_)
        · have h := ite_t c20 h
          refine wi_iinc (k := 8) (lv' := [(7, .int (zI (x7 + 1))), (8, .int (zI (((x5 + x7) - x2) % 24))), (0, .ref a_v), (1, .int (zI x1)), (2, .int (zI x2)), (3, .int (zI x3)), (4, .int (zI x4)), (5, .int (zI x5)), (6, .int (zI x6))]) hx hb dX5_yawnsBy_90 hl rfl (by decide) rfl (fun ls hl => ?_)
          refine lv_goto (tgt := 50) hx hb dX5_yawnsBy_93 (by decide) ?_
          exact ih x1 x2 x3 x4 x5 x6 (x7 + 1) _ _ _ _ hP hS (lv_sub hl [2, 3, 4, 5, 6, 7, 8, 0] rfl) h K
        · have h := ite_f c20 h
          refine lv_aload_n hx hb dX5_yawnsBy_76 rfl (lv_at hl 1 rfl) ?_
          refine lv_iload_n hx hb dX5_yawnsBy_77 rfl (lv_at hl 4 rfl) ?_
          refine lv_iload hx hb dX5_yawnsBy_78 (lv_at hl 8 rfl) ?_
          obtain ⟨o21, hc22, h⟩ := bnd_some h
          refine cV_i (rest := []) (w2 := (wd_X5_yawnsBy cy a_v a_v_facts a_v_places v_boxes v_startsAt v_facts v_places)) ⟨hx, hb, hml, hown, hts⟩ (c_X5_boxAt l D cy sa a_v a_v_facts a_v_places v_boxes v_startsAt v_facts x3 x7 o21 hc22) (cwV 2 hts gX5_yawnsBy_X5_boxAt rfl rfl rfl (by decide +kernel) ⟨Nat.le_of_ble_eq_true rfl, Nat.le_of_ble_eq_true rfl⟩) rfl rfl rfl hE hP hDD rfl hS [0, 1] rfl rfl rfl rfl hl.1 (Nat.le_of_ble_eq_true rfl) ⟨Nat.zero_le _, Nat.zero_le _⟩ rfl dX5_yawnsBy_80 rfl (fun H locs hP hS => ?_)
          refine lv_iload_n hx hb dX5_yawnsBy_83 rfl (lv_at hl 2 rfl) ?_
          obtain ⟨hr23, h⟩ := chk_some h
          obtain ⟨hr24, h⟩ := chk_some h
          refine wi_ic_ne (tgt := 90) hx hb dX5_yawnsBy_84 (by decide) hr23 hr24 (fun c26 => ?_) (fun c26 => ?_)
          · have h := ite_f c26 h
            refine wi_iinc (k := 8) (lv' := [(7, .int (zI (x7 + 1))), (8, .int (zI (((x5 + x7) - x2) % 24))), (0, .ref a_v), (1, .int (zI x1)), (2, .int (zI x2)), (3, .int (zI x3)), (4, .int (zI x4)), (5, .int (zI x5)), (6, .int (zI x6))]) hx hb dX5_yawnsBy_90 hl rfl (by decide) rfl (fun ls hl => ?_)
            refine lv_goto (tgt := 50) hx hb dX5_yawnsBy_93 (by decide) ?_
            exact ih x1 x2 x3 x4 x5 x6 (x7 + 1) _ _ _ _ hP hS (lv_sub hl [2, 3, 4, 5, 6, 7, 8, 0] rfl) h K
          · have h := ite_t c26 h
            refine wi_iinc (k := 7) (lv' := [(6, .int (zI (x6 + 1))), (8, .int (zI (((x5 + x7) - x2) % 24))), (0, .ref a_v), (1, .int (zI x1)), (2, .int (zI x2)), (3, .int (zI x3)), (4, .int (zI x4)), (5, .int (zI x5)), (7, .int (zI x7))]) hx hb dX5_yawnsBy_87 hl rfl (by decide) rfl (fun ls hl => ?_)
            refine wi_iinc (k := 8) (lv' := [(7, .int (zI (x7 + 1))), (6, .int (zI (x6 + 1))), (8, .int (zI (((x5 + x7) - x2) % 24))), (0, .ref a_v), (1, .int (zI x1)), (2, .int (zI x2)), (3, .int (zI x3)), (4, .int (zI x4)), (5, .int (zI x5))]) hx hb dX5_yawnsBy_90 hl rfl (by decide) rfl (fun ls hl => ?_)
            refine lv_goto (tgt := 50) hx hb dX5_yawnsBy_93 (by decide) ?_
            exact ih x1 x2 x3 x4 x5 (x6 + 1) (x7 + 1) _ _ _ _ hP hS (lv_sub hl [3, 4, 5, 6, 7, 8, 1, 0] rfl) h K
  refine lv_aload_n hx hb dX5_yawnsBy_0 rfl (lv_at hl 0 rfl) ?_
  refine lv_iload_n hx hb dX5_yawnsBy_1 rfl (lv_at hl 1 rfl) ?_
  refine wi_ic hx hb dX5_yawnsBy_2 ?_
  obtain ⟨o1, hc2, h⟩ := bnd_some h
  refine cV_i (rest := []) (w2 := (wd_X5_yawnsBy cy a_v a_v_facts a_v_places v_boxes v_startsAt v_facts v_places)) ⟨hx, hb, hml, hown, hts⟩ (c_X5_fact l D cy sa a_v a_v_facts a_v_places v_boxes v_startsAt v_facts x1 4 o1 hc2) (cwV 2 hts gX5_yawnsBy_X5_fact rfl rfl rfl (by decide +kernel) ⟨Nat.le_of_ble_eq_true rfl, Nat.le_of_ble_eq_true rfl⟩) rfl rfl rfl hE hP hDD rfl hS [0, 1] rfl rfl rfl rfl hl.1 (Nat.le_of_ble_eq_true rfl) ⟨Nat.zero_le _, Nat.zero_le _⟩ rfl dX5_yawnsBy_3 rfl (fun H locs hP hS => ?_)
  refine lv_istore_n (lv' := [(2, .int (zI o1)), (0, .ref a_v), (1, .int (zI x1))]) hx hb dX5_yawnsBy_6 rfl hl (by decide) rfl (fun ls hl => ?_)
  refine lv_aload_n hx hb dX5_yawnsBy_7 rfl (lv_at hl 1 rfl) ?_
  refine lv_iload_n hx hb dX5_yawnsBy_8 rfl (lv_at hl 2 rfl) ?_
  refine wi_ic hx hb dX5_yawnsBy_9 ?_
  obtain ⟨o3, hc4, h⟩ := bnd_some h
  refine cV_i (rest := []) (w2 := (wd_X5_yawnsBy cy a_v a_v_facts a_v_places v_boxes v_startsAt v_facts v_places)) ⟨hx, hb, hml, hown, hts⟩ (c_X5_fact l D cy sa a_v a_v_facts a_v_places v_boxes v_startsAt v_facts x1 5 o3 hc4) (cwV 2 hts gX5_yawnsBy_X5_fact rfl rfl rfl (by decide +kernel) ⟨Nat.le_of_ble_eq_true rfl, Nat.le_of_ble_eq_true rfl⟩) rfl rfl rfl hE hP hDD rfl hS [0, 1] rfl rfl rfl rfl hl.1 (Nat.le_of_ble_eq_true rfl) ⟨Nat.zero_le _, Nat.zero_le _⟩ rfl dX5_yawnsBy_10 rfl (fun H locs hP hS => ?_)
  refine lv_istore_n (lv' := [(3, .int (zI o3)), (2, .int (zI o1)), (0, .ref a_v), (1, .int (zI x1))]) hx hb dX5_yawnsBy_13 rfl hl (by decide) rfl (fun ls hl => ?_)
  refine wi_bi hx hb dX5_yawnsBy_14 (by decide) ?_
  refine lv_iload_n hx hb dX5_yawnsBy_16 rfl (lv_at hl 1 rfl) ?_
  refine lv_aload_n hx hb dX5_yawnsBy_17 rfl (lv_at hl 2 rfl) ?_
  refine lv_iload_n hx hb dX5_yawnsBy_18 rfl (lv_at hl 3 rfl) ?_
  refine wi_ic hx hb dX5_yawnsBy_19 ?_
  obtain ⟨o5, hc6, h⟩ := bnd_some h
  refine cV_i (rest := [.int (zI o1), .int (zI 24)]) (w2 := (wd_X5_yawnsBy cy a_v a_v_facts a_v_places v_boxes v_startsAt v_facts v_places)) ⟨hx, hb, hml, hown, hts⟩ (c_X5_fact l D cy sa a_v a_v_facts a_v_places v_boxes v_startsAt v_facts x1 0 o5 hc6) (cwV 2 hts gX5_yawnsBy_X5_fact rfl rfl rfl (by decide +kernel) ⟨Nat.le_of_ble_eq_true rfl, Nat.le_of_ble_eq_true rfl⟩) rfl rfl rfl hE hP hDD rfl hS [0, 1] rfl rfl rfl rfl hl.1 (Nat.le_of_ble_eq_true rfl) ⟨Nat.zero_le _, Nat.zero_le _⟩ rfl dX5_yawnsBy_20 rfl (fun H locs hP hS => ?_)
  obtain ⟨o7, hc8, h⟩ := bnd_some h
  refine cS_i (rest := [.int (zI o1), .int (zI 24)]) (w2 := (wd_X5_yawnsBy cy a_v a_v_facts a_v_places v_boxes v_startsAt v_facts v_places)) ⟨hx, hb, hml, hown, hts⟩ (c_X5_lastsOf l D cy sa o5 o7 hc8) (va_cwS 1 hts gX5_yawnsBy_X5_lastsOf rfl rfl rfl (by decide +kernel) ⟨Nat.le_of_ble_eq_true rfl, Nat.le_of_ble_eq_true rfl⟩) hE hP hDD rfl hS [] rfl rfl rfl rfl hl.1 (Nat.le_of_ble_eq_true rfl) ⟨Nat.zero_le _, Nat.zero_le _⟩ rfl dX5_yawnsBy_23 rfl (fun H locs hP hS => ?_)
  refine wi_iadd hx hb dX5_yawnsBy_26 ?_
  obtain ⟨hr9, h⟩ := chk_some h
  refine wi_min hx hb (by rw [hml]; exact hl.1.symm) hown q0 q1 q2 q3 (Nat.le_of_ble_eq_true rfl) (Nat.le_of_ble_eq_true rfl) ⟨Nat.zero_le _, Nat.zero_le _⟩ (by decide) hr9 dX5_yawnsBy_27 ?_
  refine lv_istore (lv' := [(4, .int (zI (if (o1 + o7) < 24 then o1 + o7 else 24))), (3, .int (zI o3)), (2, .int (zI o1)), (0, .ref a_v), (1, .int (zI x1))]) hx hb dX5_yawnsBy_30 hl (by decide) rfl (fun ls hl => ?_)
  refine lv_aload_n hx hb dX5_yawnsBy_32 rfl (lv_at hl 3 rfl) ?_
  refine lv_iload_n hx hb dX5_yawnsBy_33 rfl (lv_at hl 4 rfl) ?_
  obtain ⟨o10, hc11, h⟩ := bnd_some h
  refine cV_i (rest := []) (w2 := (wd_X5_yawnsBy cy a_v a_v_facts a_v_places v_boxes v_startsAt v_facts v_places)) ⟨hx, hb, hml, hown, hts⟩ (c_X5_ownHour l D cy sa a_v a_v_facts a_v_places v_boxes v_startsAt v_facts v_places x1 o10 hc11) (cwV 1 hts gX5_yawnsBy_X5_ownHour rfl rfl rfl (by decide +kernel) ⟨Nat.le_of_ble_eq_true rfl, Nat.le_of_ble_eq_true rfl⟩) rfl rfl rfl hE hP hDD rfl hS [0, 1, 2] rfl rfl rfl rfl hl.1 (Nat.le_of_ble_eq_true rfl) ⟨Nat.zero_le _, Nat.zero_le _⟩ rfl dX5_yawnsBy_34 rfl (fun H locs hP hS => ?_)
  refine lv_istore (lv' := [(5, .int (zI o10)), (4, .int (zI (if (o1 + o7) < 24 then o1 + o7 else 24))), (3, .int (zI o3)), (2, .int (zI o1)), (0, .ref a_v), (1, .int (zI x1))]) hx hb dX5_yawnsBy_37 hl (by decide) rfl (fun ls hl => ?_)
  refine wi_ic hx hb dX5_yawnsBy_39 ?_
  refine lv_istore (lv' := [(6, .int (zI 0)), (5, .int (zI o10)), (4, .int (zI (if (o1 + o7) < 24 then o1 + o7 else 24))), (3, .int (zI o3)), (2, .int (zI o1)), (0, .ref a_v), (1, .int (zI x1))]) hx hb dX5_yawnsBy_40 hl (by decide) rfl (fun ls hl => ?_)
  refine lv_iload_n hx hb dX5_yawnsBy_42 rfl (lv_at hl 4 rfl) ?_
  refine wi_bi hx hb dX5_yawnsBy_43 (by decide) ?_
  obtain ⟨hr12, h⟩ := chk_some h
  refine wi_max hx hb (by rw [hml]; exact hl.1.symm) hown q4 q5 q2 q6 (Nat.le_of_ble_eq_true rfl) (Nat.le_of_ble_eq_true rfl) ⟨Nat.zero_le _, Nat.zero_le _⟩ hr12 (by decide) dX5_yawnsBy_45 ?_
  refine lv_istore (lv' := [(7, .int (zI (if o1 < 6 then 6 else o1))), (6, .int (zI 0)), (5, .int (zI o10)), (4, .int (zI (if (o1 + o7) < 24 then o1 + o7 else 24))), (3, .int (zI o3)), (2, .int (zI o1)), (0, .ref a_v), (1, .int (zI x1))]) hx hb dX5_yawnsBy_48 hl (by decide) rfl (fun ls hl => ?_)
  obtain ⟨o27, hx28, h⟩ := bnd_some h
  refine L50 5000 x1 o1 o3 (if (o1 + o7) < 24 then o1 + o7 else 24) o10 0 (if o1 < 6 then 6 else o1) _ _ _ _ hP hS (lv_sub hl [6, 7, 5, 4, 3, 2, 1, 0] rfl) hx28 ?_
  clear hx28
  intro H locs ls hP hS hl
  refine lv_iload hx hb dX5_yawnsBy_96 (lv_at hl 0 rfl) ?_
  obtain rfl := Option.some.inj h
  exact KR _ _ _ _ hP hS dX5_yawnsBy_98
abbrev wd_X5_yawnsOfAll (cy : Nat → ClassId) (a_v : Nat) (a_v_facts : Nat) (a_v_places : Nat) (v_boxes : Int) (v_startsAt : Int) (v_facts : Nat → Int) (v_places : Nat → Int) : va_W := [(a_v, .inr (5, [.ref a_v_facts, .ref a_v_places, .int (zI v_boxes), .int (zI v_startsAt)])), (a_v_facts, .inl (cy 0, 30, .inl (fun j => zI (v_facts j)))), (a_v_places, .inl (cy 0, 5, .inl (fun j => zI (v_places j))))]
set_option maxHeartbeats 4000000 in
set_option maxRecDepth 100000 in
theorem c_X5_yawnsOfAll (l : Launch) (D : va_G) (cy : Nat → ClassId) (sa : Nat → Nat) (a_v : Nat) (a_v_facts : Nat) (a_v_places : Nat) (v_boxes : Int) (v_startsAt : Int) (v_facts : Nat → Int) (v_places : Nat → Int) (o : Int) (h : f_Shop_yawnsOfAll v_boxes v_startsAt v_facts v_places = some o) : CtI l yX5_yawnsOfAll wsX5_yawnsOfAll ({ frames := 3, cells := 0, slots := 0, locals := 78 }) D cy sa [.ref a_v] (wd_X5_yawnsOfAll cy a_v a_v_facts a_v_places v_boxes v_startsAt v_facts v_places) (wd_X5_yawnsOfAll cy a_v a_v_facts a_v_places v_boxes v_startsAt v_facts v_places) o := by
  refine ct_I (cc := cX5_yawnsOfAll) (maxL := 3) (plainFor_of_name (by decide)) rfl (Nat.le_of_ble_eq_true rfl) ?_
  intro p e s m below meth c A args QQ hx hb hml hown hts hE hDD hP KR ls hl
  have hl : lv_has ls 3 [(0, .ref a_v)] := hl
  have hDD : DD A [a_v, a_v_facts, a_v_places] := hDD
  have hS : va_S A s.heap s.heap [] := va_S.rf
  have q0 := hts (.fieldLink RX5 18 "HatHours$Shop" "boxes" "I") (List.mem_of_getElem? (i := 1) rfl)
  have iX5 : ∀ w ∈ u_ws RX5 TX5 4, w ∈ wsX5_yawnsOfAll := in_slice 33 4 rfl
  have L4 : ∀ (fuel : Nat) (x1 : Int) (x2 : Int) (H : Heap) (locs : List Loc) (ls : Array Slot) (ex : Int), va_P D vwCl (wd_X5_yawnsOfAll cy a_v a_v_facts a_v_places v_boxes v_startsAt v_facts v_places) H → va_S A s.heap H locs → lv_has ls 3 [(0, .ref a_v), (1, .int (zI x1)), (2, .int (zI x2))] → f_Shop_yawnsOfAll_L4 fuel v_boxes v_startsAt v_facts v_places x1 x2 = some ex → (∀ (H : Heap) (locs : List Loc) (ls : Array Slot), va_P D vwCl (wd_X5_yawnsOfAll cy a_v a_v_facts a_v_places v_boxes v_startsAt v_facts v_places) H → va_S A s.heap H locs → lv_has ls 3 [(1, .int (zI ex))] → W p l e { frames := 3, cells := 0, slots := 0, locals := 78 } s m args below meth c H locs 0 0 QQ (F0 m 26 ls [])) → W p l e { frames := 3, cells := 0, slots := 0, locals := 78 } s m args below meth c H locs 0 0 QQ (F0 m 4 ls []) := by
    intro fuel
    induction fuel with
    | zero => intro _ _ H locs ls ex hP hS hl h K; cases h
    | succ fuel ih =>
      intro x1 x2 H locs ls ex hP hS hl h K
      refine lv_iload_n hx hb dX5_yawnsOfAll_4 rfl (lv_at hl 2 rfl) ?_
      refine lv_aload_n hx hb dX5_yawnsOfAll_5 rfl (lv_at hl 0 rfl) ?_
      refine wi_get (v := .int (zI v_boxes)) hx hb hts iX5 hown hE hP 0 rfl rfl 2 (by decide) q0 rfl dX5_yawnsOfAll_6 ?_
      obtain ⟨hr1, h⟩ := chk_some h
      obtain ⟨hr2, h⟩ := chk_some h
      refine wi_ic_ge (tgt := 26) hx hb dX5_yawnsOfAll_9 (by decide) hr1 hr2 (fun c4 => ?_) (fun c4 => ?_)
      · have h := ite_t c4 h
        obtain rfl := Option.some.inj h
        exact K _ _ _ hP hS (lv_sub hl [1] rfl)
      · have h := ite_f c4 h
        refine lv_iload_n hx hb dX5_yawnsOfAll_12 rfl (lv_at hl 1 rfl) ?_
        refine lv_aload_n hx hb dX5_yawnsOfAll_13 rfl (lv_at hl 0 rfl) ?_
        refine lv_iload_n hx hb dX5_yawnsOfAll_14 rfl (lv_at hl 2 rfl) ?_
        obtain ⟨o5, hc6, h⟩ := bnd_some h
        refine cV_i (rest := [.int (zI x1)]) (w2 := (wd_X5_yawnsOfAll cy a_v a_v_facts a_v_places v_boxes v_startsAt v_facts v_places)) ⟨hx, hb, hml, hown, hts⟩ (c_X5_yawnsBy l D cy sa a_v a_v_facts a_v_places v_boxes v_startsAt v_facts v_places x2 o5 hc6) (cwV 1 hts gX5_yawnsOfAll_X5_yawnsBy rfl rfl rfl (by decide +kernel) ⟨Nat.le_of_ble_eq_true rfl, Nat.le_of_ble_eq_true rfl⟩) rfl rfl rfl hE hP hDD rfl hS [0, 1, 2] rfl rfl rfl rfl hl.1 (Nat.le_of_ble_eq_true rfl) ⟨Nat.zero_le _, Nat.zero_le _⟩ rfl dX5_yawnsOfAll_15 rfl (fun H locs hP hS => ?_)
        refine wi_iadd hx hb dX5_yawnsOfAll_18 ?_
        refine lv_istore_n (lv' := [(1, .int (zI (x1 + o5))), (0, .ref a_v), (2, .int (zI x2))]) hx hb dX5_yawnsOfAll_19 rfl hl (by decide) rfl (fun ls hl => ?_)
        refine wi_iinc (k := 2) (lv' := [(2, .int (zI (x2 + 1))), (1, .int (zI (x1 + o5))), (0, .ref a_v)]) hx hb dX5_yawnsOfAll_20 hl rfl (by decide) rfl (fun ls hl => ?_)
        refine lv_goto (tgt := 4) hx hb dX5_yawnsOfAll_23 (by decide) ?_
        exact ih (x1 + o5) (x2 + 1) _ _ _ _ hP hS (lv_sub hl [2, 1, 0] rfl) h K
  refine wi_ic hx hb dX5_yawnsOfAll_0 ?_
  refine lv_istore_n (lv' := [(1, .int (zI 0)), (0, .ref a_v)]) hx hb dX5_yawnsOfAll_1 rfl hl (by decide) rfl (fun ls hl => ?_)
  refine wi_ic hx hb dX5_yawnsOfAll_2 ?_
  refine lv_istore_n (lv' := [(2, .int (zI 0)), (1, .int (zI 0)), (0, .ref a_v)]) hx hb dX5_yawnsOfAll_3 rfl hl (by decide) rfl (fun ls hl => ?_)
  obtain ⟨o7, hx8, h⟩ := bnd_some h
  refine L4 5000 0 0 _ _ _ _ hP hS (lv_sub hl [2, 1, 0] rfl) hx8 ?_
  clear hx8
  intro H locs ls hP hS hl
  refine lv_iload_n hx hb dX5_yawnsOfAll_26 rfl (lv_at hl 0 rfl) ?_
  obtain rfl := Option.some.inj h
  exact KR _ _ _ _ hP hS dX5_yawnsOfAll_27
abbrev wd_X5_oclockBy (cy : Nat → ClassId) (a_v : Nat) (a_v_facts : Nat) (a_v_places : Nat) (v_boxes : Int) (v_startsAt : Int) (v_facts : Nat → Int) (v_places : Nat → Int) : va_W := [(a_v, .inr (5, [.ref a_v_facts, .ref a_v_places, .int (zI v_boxes), .int (zI v_startsAt)])), (a_v_facts, .inl (cy 0, 30, .inl (fun j => zI (v_facts j)))), (a_v_places, .inl (cy 0, 5, .inl (fun j => zI (v_places j))))]
set_option maxHeartbeats 4000000 in
set_option maxRecDepth 100000 in
theorem c_X5_oclockBy (l : Launch) (D : va_G) (cy : Nat → ClassId) (sa : Nat → Nat) (a_v : Nat) (a_v_facts : Nat) (a_v_places : Nat) (v_boxes : Int) (v_startsAt : Int) (v_facts : Nat → Int) (v_places : Nat → Int) (x1 : Int) (x2 : Int) (o : Int) (h : f_Shop_oclockBy v_boxes v_startsAt v_facts v_places x1 x2 = some o) : CtI l yX5_oclockBy wsX5_oclockBy ({ frames := 2, cells := 0, slots := 0, locals := 46 }) D cy sa [.ref a_v, .int (zI x1), .int (zI x2)] (wd_X5_oclockBy cy a_v a_v_facts a_v_places v_boxes v_startsAt v_facts v_places) (wd_X5_oclockBy cy a_v a_v_facts a_v_places v_boxes v_startsAt v_facts v_places) o := by
  refine ct_I (cc := cX5_oclockBy) (maxL := 3) (plainFor_of_name (by decide)) rfl (Nat.le_of_ble_eq_true rfl) ?_
  intro p e s m below meth c A args QQ hx hb hml hown hts hE hDD hP KR ls hl
  have hl : lv_has ls 3 [(0, .ref a_v), (1, .int (zI x1)), (2, .int (zI x2))] := hl
  have hDD : DD A [a_v, a_v_facts, a_v_places] := hDD
  have hS : va_S A s.heap s.heap [] := va_S.rf
  refine lv_aload_n hx hb dX5_oclockBy_0 rfl (lv_at hl 0 rfl) ?_
  refine lv_iload_n hx hb dX5_oclockBy_1 rfl (lv_at hl 1 rfl) ?_
  obtain ⟨o1, hc2, h⟩ := bnd_some h
  refine cV_i (rest := []) (w2 := (wd_X5_oclockBy cy a_v a_v_facts a_v_places v_boxes v_startsAt v_facts v_places)) ⟨hx, hb, hml, hown, hts⟩ (c_X5_ownHour l D cy sa a_v a_v_facts a_v_places v_boxes v_startsAt v_facts v_places x1 o1 hc2) (cwV 1 hts gX5_oclockBy_X5_ownHour rfl rfl rfl (by decide +kernel) ⟨Nat.le_of_ble_eq_true rfl, Nat.le_of_ble_eq_true rfl⟩) rfl rfl rfl hE hP hDD rfl hS [0, 1, 2] rfl rfl rfl rfl hl.1 (Nat.le_of_ble_eq_true rfl) ⟨Nat.zero_le _, Nat.zero_le _⟩ rfl dX5_oclockBy_2 rfl (fun H locs hP hS => ?_)
  refine lv_iload_n hx hb dX5_oclockBy_5 rfl (lv_at hl 2 rfl) ?_
  refine wi_iadd hx hb dX5_oclockBy_6 ?_
  refine lv_aload_n hx hb dX5_oclockBy_7 rfl (lv_at hl 0 rfl) ?_
  refine lv_iload_n hx hb dX5_oclockBy_8 rfl (lv_at hl 1 rfl) ?_
  refine wi_ic hx hb dX5_oclockBy_9 ?_
  obtain ⟨o3, hc4, h⟩ := bnd_some h
  refine cV_i (rest := [.int (zI (o1 + x2))]) (w2 := (wd_X5_oclockBy cy a_v a_v_facts a_v_places v_boxes v_startsAt v_facts v_places)) ⟨hx, hb, hml, hown, hts⟩ (c_X5_fact l D cy sa a_v a_v_facts a_v_places v_boxes v_startsAt v_facts x1 4 o3 hc4) (cwV 2 hts gX5_oclockBy_X5_fact rfl rfl rfl (by decide +kernel) ⟨Nat.le_of_ble_eq_true rfl, Nat.le_of_ble_eq_true rfl⟩) rfl rfl rfl hE hP hDD rfl hS [0, 1] rfl rfl rfl rfl hl.1 (Nat.le_of_ble_eq_true rfl) ⟨Nat.zero_le _, Nat.zero_le _⟩ rfl dX5_oclockBy_10 rfl (fun H locs hP hS => ?_)
  refine wi_isub hx hb dX5_oclockBy_13 ?_
  refine wi_bi hx hb dX5_oclockBy_14 (by decide) ?_
  obtain ⟨o5, hc6, h⟩ := bnd_some h
  refine cS_i (rest := []) (w2 := (wd_X5_oclockBy cy a_v a_v_facts a_v_places v_boxes v_startsAt v_facts v_places)) ⟨hx, hb, hml, hown, hts⟩ (c_J9_floorMod_7cf53 l D cy sa ((o1 + x2) - o3) 24 o5 hc6) (va_cwS 2 hts gX5_oclockBy_J9_floorMod_7cf53 rfl rfl rfl (by decide +kernel) ⟨Nat.le_of_ble_eq_true rfl, Nat.le_of_ble_eq_true rfl⟩) hE hP hDD rfl hS [] rfl rfl rfl rfl hl.1 (Nat.le_of_ble_eq_true rfl) ⟨Nat.zero_le _, Nat.zero_le _⟩ rfl dX5_oclockBy_16 rfl (fun H locs hP hS => ?_)
  obtain rfl := Option.some.inj h
  exact KR _ _ _ _ hP hS dX5_oclockBy_19
abbrev wd_X5_oclock (cy : Nat → ClassId) (a_v : Nat) (a_v_facts : Nat) (a_v_places : Nat) (v_boxes : Int) (v_startsAt : Int) (v_facts : Nat → Int) (v_places : Nat → Int) : va_W := [(a_v, .inr (5, [.ref a_v_facts, .ref a_v_places, .int (zI v_boxes), .int (zI v_startsAt)])), (a_v_facts, .inl (cy 0, 30, .inl (fun j => zI (v_facts j)))), (a_v_places, .inl (cy 0, 5, .inl (fun j => zI (v_places j))))]
set_option maxHeartbeats 4000000 in
set_option maxRecDepth 100000 in
theorem c_X5_oclock (l : Launch) (D : va_G) (cy : Nat → ClassId) (sa : Nat → Nat) (a_v : Nat) (a_v_facts : Nat) (a_v_places : Nat) (v_boxes : Int) (v_startsAt : Int) (v_facts : Nat → Int) (v_places : Nat → Int) (x1 : Int) (x2 : Int) (o : Int) (h : f_Shop_oclock v_boxes v_startsAt v_facts v_places x1 x2 = some o) : CtI l yX5_oclock wsX5_oclock ({ frames := 3, cells := 0, slots := 0, locals := 68 }) D cy sa [.ref a_v, .int (zI x1), .int (zI x2)] (wd_X5_oclock cy a_v a_v_facts a_v_places v_boxes v_startsAt v_facts v_places) (wd_X5_oclock cy a_v a_v_facts a_v_places v_boxes v_startsAt v_facts v_places) o := by
  refine ct_I (cc := cX5_oclock) (maxL := 4) (plainFor_of_name (by decide)) rfl (Nat.le_of_ble_eq_true rfl) ?_
  intro p e s m below meth c A args QQ hx hb hml hown hts hE hDD hP KR ls hl
  have hl : lv_has ls 4 [(0, .ref a_v), (1, .int (zI x1)), (2, .int (zI x2))] := hl
  have hDD : DD A [a_v, a_v_facts, a_v_places] := hDD
  have hS : va_S A s.heap s.heap [] := va_S.rf
  refine lv_aload_n hx hb dX5_oclock_0 rfl (lv_at hl 0 rfl) ?_
  refine lv_iload_n hx hb dX5_oclock_1 rfl (lv_at hl 1 rfl) ?_
  refine lv_iload_n hx hb dX5_oclock_2 rfl (lv_at hl 2 rfl) ?_
  obtain ⟨o1, hc2, h⟩ := bnd_some h
  refine cV_i (rest := []) (w2 := (wd_X5_oclock cy a_v a_v_facts a_v_places v_boxes v_startsAt v_facts v_places)) ⟨hx, hb, hml, hown, hts⟩ (c_X5_boxAt l D cy sa a_v a_v_facts a_v_places v_boxes v_startsAt v_facts x1 x2 o1 hc2) (cwV 2 hts gX5_oclock_X5_boxAt rfl rfl rfl (by decide +kernel) ⟨Nat.le_of_ble_eq_true rfl, Nat.le_of_ble_eq_true rfl⟩) rfl rfl rfl hE hP hDD rfl hS [0, 1] rfl rfl rfl rfl hl.1 (Nat.le_of_ble_eq_true rfl) ⟨Nat.zero_le _, Nat.zero_le _⟩ rfl dX5_oclock_3 rfl (fun H locs hP hS => ?_)
  refine lv_istore_n (lv' := [(3, .int (zI o1)), (0, .ref a_v), (1, .int (zI x1)), (2, .int (zI x2))]) hx hb dX5_oclock_6 rfl hl (by decide) rfl (fun ls hl => ?_)
  refine lv_iload_n hx hb dX5_oclock_7 rfl (lv_at hl 0 rfl) ?_
  refine wi_bi hx hb dX5_oclock_8 (by decide) ?_
  obtain ⟨hr3, h⟩ := chk_some h
  refine wi_ic_ne (tgt := 17) hx hb dX5_oclock_10 (by decide) hr3 (by decide) (fun c5 => ?_) (fun c5 => ?_)
  · have h := ite_f c5 h
    refine lv_aload_n hx hb dX5_oclock_17 rfl (lv_at hl 1 rfl) ?_
    refine lv_iload_n hx hb dX5_oclock_18 rfl (lv_at hl 0 rfl) ?_
    refine lv_iload_n hx hb dX5_oclock_19 rfl (lv_at hl 3 rfl) ?_
    obtain ⟨o6, hc7, h⟩ := bnd_some h
    refine cV_i (rest := []) (w2 := (wd_X5_oclock cy a_v a_v_facts a_v_places v_boxes v_startsAt v_facts v_places)) ⟨hx, hb, hml, hown, hts⟩ (c_X5_oclockBy l D cy sa a_v a_v_facts a_v_places v_boxes v_startsAt v_facts v_places o1 x2 o6 hc7) (cwV 2 hts gX5_oclock_X5_oclockBy rfl rfl rfl (by decide +kernel) ⟨Nat.le_of_ble_eq_true rfl, Nat.le_of_ble_eq_true rfl⟩) rfl rfl rfl hE hP hDD rfl hS [0, 1, 2] rfl rfl rfl rfl hl.1 (Nat.le_of_ble_eq_true rfl) ⟨Nat.zero_le _, Nat.zero_le _⟩ rfl dX5_oclock_20 rfl (fun H locs hP hS => ?_)
    obtain rfl := Option.some.inj h
    exact KR _ _ _ _ hP hS dX5_oclock_23
  · have h := ite_t c5 h
    refine lv_iload_n hx hb dX5_oclock_13 rfl (lv_at hl 3 rfl) ?_
    refine lv_goto (tgt := 23) hx hb dX5_oclock_14 (by decide) ?_
    obtain rfl := Option.some.inj h
    exact KR _ _ _ _ hP hS dX5_oclock_23
abbrev wd_X5_strangeHoursIn (cy : Nat → ClassId) (a_v : Nat) (a_v_facts : Nat) (a_v_places : Nat) (v_boxes : Int) (v_startsAt : Int) (v_facts : Nat → Int) (v_places : Nat → Int) : va_W := [(a_v, .inr (5, [.ref a_v_facts, .ref a_v_places, .int (zI v_boxes), .int (zI v_startsAt)])), (a_v_facts, .inl (cy 0, 30, .inl (fun j => zI (v_facts j)))), (a_v_places, .inl (cy 0, 5, .inl (fun j => zI (v_places j))))]
set_option maxHeartbeats 4000000 in
set_option maxRecDepth 100000 in
theorem c_X5_strangeHoursIn (l : Launch) (D : va_G) (cy : Nat → ClassId) (sa : Nat → Nat) (a_v : Nat) (a_v_facts : Nat) (a_v_places : Nat) (v_boxes : Int) (v_startsAt : Int) (v_facts : Nat → Int) (v_places : Nat → Int) (x1 : Int) (o : Int) (h : f_Shop_strangeHoursIn v_boxes v_startsAt v_facts v_places x1 = some o) : CtI l yX5_strangeHoursIn wsX5_strangeHoursIn ({ frames := 4, cells := 0, slots := 0, locals := 91 }) D cy sa [.ref a_v, .int (zI x1)] (wd_X5_strangeHoursIn cy a_v a_v_facts a_v_places v_boxes v_startsAt v_facts v_places) (wd_X5_strangeHoursIn cy a_v a_v_facts a_v_places v_boxes v_startsAt v_facts v_places) o := by
  refine ct_I (cc := cX5_strangeHoursIn) (maxL := 4) (plainFor_of_name (by decide)) rfl (Nat.le_of_ble_eq_true rfl) ?_
  intro p e s m below meth c A args QQ hx hb hml hown hts hE hDD hP KR ls hl
  have hl : lv_has ls 4 [(0, .ref a_v), (1, .int (zI x1))] := hl
  have hDD : DD A [a_v, a_v_facts, a_v_places] := hDD
  have hS : va_S A s.heap s.heap [] := va_S.rf
  have L4 : ∀ (fuel : Nat) (x1 : Int) (x2 : Int) (x3 : Int) (H : Heap) (locs : List Loc) (ls : Array Slot) (ex : Int), va_P D vwCl (wd_X5_strangeHoursIn cy a_v a_v_facts a_v_places v_boxes v_startsAt v_facts v_places) H → va_S A s.heap H locs → lv_has ls 4 [(0, .ref a_v), (1, .int (zI x1)), (2, .int (zI x2)), (3, .int (zI x3))] → f_Shop_strangeHoursIn_L4 fuel v_boxes v_startsAt v_facts v_places x1 x2 x3 = some ex → (∀ (H : Heap) (locs : List Loc) (ls : Array Slot), va_P D vwCl (wd_X5_strangeHoursIn cy a_v a_v_facts a_v_places v_boxes v_startsAt v_facts v_places) H → va_S A s.heap H locs → lv_has ls 4 [(2, .int (zI ex))] → W p l e { frames := 4, cells := 0, slots := 0, locals := 91 } s m args below meth c H locs 0 0 QQ (F0 m 32 ls [])) → W p l e { frames := 4, cells := 0, slots := 0, locals := 91 } s m args below meth c H locs 0 0 QQ (F0 m 4 ls []) := by
    intro fuel
    induction fuel with
    | zero => intro _ _ _ H locs ls ex hP hS hl h K; cases h
    | succ fuel ih =>
      intro x1 x2 x3 H locs ls ex hP hS hl h K
      refine lv_iload_n hx hb dX5_strangeHoursIn_4 rfl (lv_at hl 3 rfl) ?_
      refine wi_bi hx hb dX5_strangeHoursIn_5 (by decide) ?_
      obtain ⟨hr1, h⟩ := chk_some h
      refine wi_ic_ge (tgt := 32) hx hb dX5_strangeHoursIn_7 (by decide) hr1 (by decide) (fun c3 => ?_) (fun c3 => ?_)
      · have h := ite_t c3 h
        obtain rfl := Option.some.inj h
        exact K _ _ _ hP hS (lv_sub hl [2] rfl)
      · have h := ite_f c3 h
        refine lv_aload_n hx hb dX5_strangeHoursIn_10 rfl (lv_at hl 0 rfl) ?_
        refine lv_iload_n hx hb dX5_strangeHoursIn_11 rfl (lv_at hl 1 rfl) ?_
        refine lv_iload_n hx hb dX5_strangeHoursIn_12 rfl (lv_at hl 3 rfl) ?_
        obtain ⟨o4, hc5, h⟩ := bnd_some h
        refine cV_i (rest := []) (w2 := (wd_X5_strangeHoursIn cy a_v a_v_facts a_v_places v_boxes v_startsAt v_facts v_places)) ⟨hx, hb, hml, hown, hts⟩ (c_X5_oclock l D cy sa a_v a_v_facts a_v_places v_boxes v_startsAt v_facts v_places x1 x3 o4 hc5) (cwV 2 hts gX5_strangeHoursIn_X5_oclock rfl rfl rfl (by decide +kernel) ⟨Nat.le_of_ble_eq_true rfl, Nat.le_of_ble_eq_true rfl⟩) rfl rfl rfl hE hP hDD rfl hS [0, 1, 2] rfl rfl rfl rfl hl.1 (Nat.le_of_ble_eq_true rfl) ⟨Nat.zero_le _, Nat.zero_le _⟩ rfl dX5_strangeHoursIn_13 rfl (fun H locs hP hS => ?_)
        refine lv_iload_n hx hb dX5_strangeHoursIn_16 rfl (lv_at hl 3 rfl) ?_
        obtain ⟨hr6, h⟩ := chk_some h
        refine wi_ic_eq (tgt := 26) hx hb dX5_strangeHoursIn_17 (by decide) hr6 hr1 (fun c8 => ?_) (fun c8 => ?_)
        · have h := ite_t c8 h
          refine wi_iinc (k := 3) (lv' := [(3, .int (zI (x3 + 1))), (0, .ref a_v), (1, .int (zI x1)), (2, .int (zI x2))]) hx hb dX5_strangeHoursIn_26 hl rfl (by decide) rfl (fun ls hl => ?_)
          refine lv_goto (tgt := 4) hx hb dX5_strangeHoursIn_29 (by decide) ?_
          exact ih x1 x2 (x3 + 1) _ _ _ _ hP hS (lv_sub hl [1, 2, 3, 0] rfl) h K
        · have h := ite_f c8 h
          refine lv_iload_n hx hb dX5_strangeHoursIn_20 rfl (lv_at hl 2 rfl) ?_
          refine wi_ic hx hb dX5_strangeHoursIn_21 ?_
          refine lv_iload_n hx hb dX5_strangeHoursIn_22 rfl (lv_at hl 3 rfl) ?_
          refine wi_ishl hx hb dX5_strangeHoursIn_23 ?_
          refine wi_ior hx hb dX5_strangeHoursIn_24 ?_
          refine lv_istore_n (lv' := [(2, .int (zI (zor x2 (zshl 1 x3)))), (0, .ref a_v), (1, .int (zI x1)), (3, .int (zI x3))]) hx hb dX5_strangeHoursIn_25 rfl hl (by decide) rfl (fun ls hl => ?_)
          refine wi_iinc (k := 3) (lv' := [(3, .int (zI (x3 + 1))), (2, .int (zI (zor x2 (zshl 1 x3)))), (0, .ref a_v), (1, .int (zI x1))]) hx hb dX5_strangeHoursIn_26 hl rfl (by decide) rfl (fun ls hl => ?_)
          refine lv_goto (tgt := 4) hx hb dX5_strangeHoursIn_29 (by decide) ?_
          exact ih x1 (zor x2 (zshl 1 x3)) (x3 + 1) _ _ _ _ hP hS (lv_sub hl [2, 3, 1, 0] rfl) h K
  refine wi_ic hx hb dX5_strangeHoursIn_0 ?_
  refine lv_istore_n (lv' := [(2, .int (zI 0)), (0, .ref a_v), (1, .int (zI x1))]) hx hb dX5_strangeHoursIn_1 rfl hl (by decide) rfl (fun ls hl => ?_)
  refine wi_ic hx hb dX5_strangeHoursIn_2 ?_
  refine lv_istore_n (lv' := [(3, .int (zI 0)), (2, .int (zI 0)), (0, .ref a_v), (1, .int (zI x1))]) hx hb dX5_strangeHoursIn_3 rfl hl (by decide) rfl (fun ls hl => ?_)
  obtain ⟨o9, hx10, h⟩ := bnd_some h
  refine L4 5000 x1 0 0 _ _ _ _ hP hS (lv_sub hl [2, 3, 1, 0] rfl) hx10 ?_
  clear hx10
  intro H locs ls hP hS hl
  refine lv_iload_n hx hb dX5_strangeHoursIn_32 rfl (lv_at hl 0 rfl) ?_
  obtain rfl := Option.some.inj h
  exact KR _ _ _ _ hP hS dX5_strangeHoursIn_33
abbrev wd_X5_strangeHoursOfAll (cy : Nat → ClassId) (a_v : Nat) (a_v_facts : Nat) (a_v_places : Nat) (v_boxes : Int) (v_startsAt : Int) (v_facts : Nat → Int) (v_places : Nat → Int) : va_W := [(a_v, .inr (5, [.ref a_v_facts, .ref a_v_places, .int (zI v_boxes), .int (zI v_startsAt)])), (a_v_facts, .inl (cy 0, 30, .inl (fun j => zI (v_facts j)))), (a_v_places, .inl (cy 0, 5, .inl (fun j => zI (v_places j))))]
set_option maxHeartbeats 4000000 in
set_option maxRecDepth 100000 in
theorem c_X5_strangeHoursOfAll (l : Launch) (D : va_G) (cy : Nat → ClassId) (sa : Nat → Nat) (a_v : Nat) (a_v_facts : Nat) (a_v_places : Nat) (v_boxes : Int) (v_startsAt : Int) (v_facts : Nat → Int) (v_places : Nat → Int) (o : Int) (h : f_Shop_strangeHoursOfAll v_boxes v_startsAt v_facts v_places = some o) : CtI l yX5_strangeHoursOfAll wsX5_strangeHoursOfAll ({ frames := 5, cells := 0, slots := 0, locals := 114 }) D cy sa [.ref a_v] (wd_X5_strangeHoursOfAll cy a_v a_v_facts a_v_places v_boxes v_startsAt v_facts v_places) (wd_X5_strangeHoursOfAll cy a_v a_v_facts a_v_places v_boxes v_startsAt v_facts v_places) o := by
  refine ct_I (cc := cX5_strangeHoursOfAll) (maxL := 3) (plainFor_of_name (by decide)) rfl (Nat.le_of_ble_eq_true rfl) ?_
  intro p e s m below meth c A args QQ hx hb hml hown hts hE hDD hP KR ls hl
  have hl : lv_has ls 3 [(0, .ref a_v)] := hl
  have hDD : DD A [a_v, a_v_facts, a_v_places] := hDD
  have hS : va_S A s.heap s.heap [] := va_S.rf
  have L4 : ∀ (fuel : Nat) (x1 : Int) (x2 : Int) (H : Heap) (locs : List Loc) (ls : Array Slot) (ex : Int), va_P D vwCl (wd_X5_strangeHoursOfAll cy a_v a_v_facts a_v_places v_boxes v_startsAt v_facts v_places) H → va_S A s.heap H locs → lv_has ls 3 [(0, .ref a_v), (1, .int (zI x1)), (2, .int (zI x2))] → f_Shop_strangeHoursOfAll_L4 fuel v_boxes v_startsAt v_facts v_places x1 x2 = some ex → (∀ (H : Heap) (locs : List Loc) (ls : Array Slot), va_P D vwCl (wd_X5_strangeHoursOfAll cy a_v a_v_facts a_v_places v_boxes v_startsAt v_facts v_places) H → va_S A s.heap H locs → lv_has ls 3 [(1, .int (zI ex))] → W p l e { frames := 5, cells := 0, slots := 0, locals := 114 } s m args below meth c H locs 0 0 QQ (F0 m 26 ls [])) → W p l e { frames := 5, cells := 0, slots := 0, locals := 114 } s m args below meth c H locs 0 0 QQ (F0 m 4 ls []) := by
    intro fuel
    induction fuel with
    | zero => intro _ _ H locs ls ex hP hS hl h K; cases h
    | succ fuel ih =>
      intro x1 x2 H locs ls ex hP hS hl h K
      refine lv_iload_n hx hb dX5_strangeHoursOfAll_4 rfl (lv_at hl 2 rfl) ?_
      refine wi_ic hx hb dX5_strangeHoursOfAll_5 ?_
      obtain ⟨hr1, h⟩ := chk_some h
      refine wi_ic_ge (tgt := 26) hx hb dX5_strangeHoursOfAll_6 (by decide) hr1 (by decide) (fun c3 => ?_) (fun c3 => ?_)
      · have h := ite_t c3 h
        obtain rfl := Option.some.inj h
        exact K _ _ _ hP hS (lv_sub hl [1] rfl)
      · have h := ite_f c3 h
        refine lv_iload_n hx hb dX5_strangeHoursOfAll_9 rfl (lv_at hl 1 rfl) ?_
        refine lv_aload_n hx hb dX5_strangeHoursOfAll_10 rfl (lv_at hl 0 rfl) ?_
        refine lv_iload_n hx hb dX5_strangeHoursOfAll_11 rfl (lv_at hl 2 rfl) ?_
        obtain ⟨o4, hc5, h⟩ := bnd_some h
        refine cV_i (rest := [.int (zI x1)]) (w2 := (wd_X5_strangeHoursOfAll cy a_v a_v_facts a_v_places v_boxes v_startsAt v_facts v_places)) ⟨hx, hb, hml, hown, hts⟩ (c_X5_strangeHoursIn l D cy sa a_v a_v_facts a_v_places v_boxes v_startsAt v_facts v_places x2 o4 hc5) (cwV 1 hts gX5_strangeHoursOfAll_X5_strangeHoursIn rfl rfl rfl (by decide +kernel) ⟨Nat.le_of_ble_eq_true rfl, Nat.le_of_ble_eq_true rfl⟩) rfl rfl rfl hE hP hDD rfl hS [0, 1, 2] rfl rfl rfl rfl hl.1 (Nat.le_of_ble_eq_true rfl) ⟨Nat.zero_le _, Nat.zero_le _⟩ rfl dX5_strangeHoursOfAll_12 rfl (fun H locs hP hS => ?_)
        obtain ⟨o6, hc7, h⟩ := bnd_some h
        refine cS_i (rest := [.int (zI x1)]) (w2 := (wd_X5_strangeHoursOfAll cy a_v a_v_facts a_v_places v_boxes v_startsAt v_facts v_places)) ⟨hx, hb, hml, hown, hts⟩ (c_J6_bitCount_0f7a4 l D cy sa o4 o6 hc7) (va_cwS 1 hts gX5_strangeHoursOfAll_J6_bitCount_0f7a4 rfl rfl rfl (by decide +kernel) ⟨Nat.le_of_ble_eq_true rfl, Nat.le_of_ble_eq_true rfl⟩) hE hP hDD rfl hS [] rfl rfl rfl rfl hl.1 (Nat.le_of_ble_eq_true rfl) ⟨Nat.zero_le _, Nat.zero_le _⟩ rfl dX5_strangeHoursOfAll_15 rfl (fun H locs hP hS => ?_)
        refine wi_iadd hx hb dX5_strangeHoursOfAll_18 ?_
        refine lv_istore_n (lv' := [(1, .int (zI (x1 + o6))), (0, .ref a_v), (2, .int (zI x2))]) hx hb dX5_strangeHoursOfAll_19 rfl hl (by decide) rfl (fun ls hl => ?_)
        refine wi_iinc (k := 2) (lv' := [(2, .int (zI (x2 + 1))), (1, .int (zI (x1 + o6))), (0, .ref a_v)]) hx hb dX5_strangeHoursOfAll_20 hl rfl (by decide) rfl (fun ls hl => ?_)
        refine lv_goto (tgt := 4) hx hb dX5_strangeHoursOfAll_23 (by decide) ?_
        exact ih (x1 + o6) (x2 + 1) _ _ _ _ hP hS (lv_sub hl [2, 1, 0] rfl) h K
  refine wi_ic hx hb dX5_strangeHoursOfAll_0 ?_
  refine lv_istore_n (lv' := [(1, .int (zI 0)), (0, .ref a_v)]) hx hb dX5_strangeHoursOfAll_1 rfl hl (by decide) rfl (fun ls hl => ?_)
  refine wi_ic hx hb dX5_strangeHoursOfAll_2 ?_
  refine lv_istore_n (lv' := [(2, .int (zI 0)), (1, .int (zI 0)), (0, .ref a_v)]) hx hb dX5_strangeHoursOfAll_3 rfl hl (by decide) rfl (fun ls hl => ?_)
  obtain ⟨o8, hx9, h⟩ := bnd_some h
  refine L4 5000 0 0 _ _ _ _ hP hS (lv_sub hl [2, 1, 0] rfl) hx9 ?_
  clear hx9
  intro H locs ls hP hS hl
  refine lv_iload_n hx hb dX5_strangeHoursOfAll_26 rfl (lv_at hl 0 rfl) ?_
  obtain rfl := Option.some.inj h
  exact KR _ _ _ _ hP hS dX5_strangeHoursOfAll_27
abbrev wd_X9_isEither (cy : Nat → ClassId) : va_W := []
set_option maxHeartbeats 4000000 in
set_option maxRecDepth 100000 in
theorem c_X9_isEither (l : Launch) (D : va_G) (cy : Nat → ClassId) (sa : Nat → Nat) (x0 : Int) (o : Int) (h : f_HH_isEither x0 = some o) : CtI l yX9_isEither wsX9_isEither ({ frames := 0, cells := 0, slots := 0, locals := 0 }) D cy sa [.int (zI x0)] (wd_X9_isEither cy ) (wd_X9_isEither cy ) o := by
  refine ct_Z (cc := cX9_isEither) (maxL := 1) (plainFor_of_name (by decide)) rfl (Nat.le_of_ble_eq_true rfl) ?_
  intro p e s m below meth c A args QQ hx hb hml hown hts hE hDD hP KR ls hl
  have hl : lv_has ls 1 [(0, .int (zI x0))] := hl
  have hDD : DD A [] := hDD
  have hS : va_S A s.heap s.heap [] := va_S.rf
  refine lv_iload_n hx hb dX9_isEither_0 rfl (lv_at hl 0 rfl) ?_
  obtain ⟨hr1, h⟩ := chk_some h
  refine wi_if_eq (tgt := 9) hx hb dX9_isEither_1 (by decide) hr1 (fun c3 => ?_) (fun c3 => ?_)
  · have h := ite_t c3 h
    refine wi_ic hx hb dX9_isEither_9 ?_
    refine lv_goto (tgt := 14) hx hb dX9_isEither_10 (by decide) ?_
    obtain rfl := Option.some.inj h
    exact KR _ _ _ _ (z01 (Or.inr rfl)) hP hS dX9_isEither_14
  · have h := ite_f c3 h
    refine lv_iload_n hx hb dX9_isEither_4 rfl (lv_at hl 0 rfl) ?_
    refine wi_ic hx hb dX9_isEither_5 ?_
    refine wi_ic_ne (tgt := 13) hx hb dX9_isEither_6 (by decide) hr1 (by decide) (fun c5 => ?_) (fun c5 => ?_)
    · have h := ite_f c5 h
      refine wi_ic hx hb dX9_isEither_13 ?_
      obtain rfl := Option.some.inj h
      exact KR _ _ _ _ (z01 (Or.inl rfl)) hP hS dX9_isEither_14
    · have h := ite_t c5 h
      refine wi_ic hx hb dX9_isEither_9 ?_
      refine lv_goto (tgt := 14) hx hb dX9_isEither_10 (by decide) ?_
      obtain rfl := Option.some.inj h
      exact KR _ _ _ _ (z01 (Or.inr rfl)) hP hS dX9_isEither_14
abbrev wd_X5_boxIn (cy : Nat → ClassId) (a_v : Nat) (a_v_places : Nat) (a_v_facts : Nat) (v_boxes : Int) (v_startsAt : Int) (v_places : Nat → Int) : va_W := [(a_v, .inr (5, [.ref a_v_facts, .ref a_v_places, .int (zI v_boxes), .int (zI v_startsAt)])), (a_v_places, .inl (cy 0, 5, .inl (fun j => zI (v_places j))))]
set_option maxHeartbeats 4000000 in
set_option maxRecDepth 100000 in
theorem c_X5_boxIn (l : Launch) (D : va_G) (cy : Nat → ClassId) (sa : Nat → Nat) (a_v : Nat) (a_v_places : Nat) (a_v_facts : Nat) (v_boxes : Int) (v_startsAt : Int) (v_places : Nat → Int) (x1 : Int) (o : Int) (h : f_Shop_boxIn v_boxes v_places x1 = some o) : CtI l yX5_boxIn wsX5_boxIn ({ frames := 1, cells := 0, slots := 0, locals := 21 }) D cy sa [.ref a_v, .int (zI x1)] (wd_X5_boxIn cy a_v a_v_places a_v_facts v_boxes v_startsAt v_places) (wd_X5_boxIn cy a_v a_v_places a_v_facts v_boxes v_startsAt v_places) o := by
  refine ct_I (cc := cX5_boxIn) (maxL := 2) (plainFor_of_name (by decide)) rfl (Nat.le_of_ble_eq_true rfl) ?_
  intro p e s m below meth c A args QQ hx hb hml hown hts hE hDD hP KR ls hl
  have hl : lv_has ls 2 [(0, .ref a_v), (1, .int (zI x1))] := hl
  have hDD : DD A [a_v, a_v_places] := hDD
  have hS : va_S A s.heap s.heap [] := va_S.rf
  have q0 := hts (.fieldLink RX5 15 "HatHours$Shop" "places" "[I") (List.mem_of_getElem? (i := 1) rfl)
  have iX5 : ∀ w ∈ u_ws RX5 TX5 4, w ∈ wsX5_boxIn := in_slice 8 4 rfl
  refine lv_aload_n hx hb dX5_boxIn_0 rfl (lv_at hl 0 rfl) ?_
  refine lv_iload_n hx hb dX5_boxIn_1 rfl (lv_at hl 1 rfl) ?_
  obtain ⟨o1, hc2, h⟩ := bnd_some h
  refine cV_i (rest := []) (w2 := (wd_X5_boxIn cy a_v a_v_places a_v_facts v_boxes v_startsAt v_places)) ⟨hx, hb, hml, hown, hts⟩ (c_X5_has l D cy sa a_v a_v_facts a_v_places v_boxes v_startsAt x1 o1 hc2) (cwV 1 hts gX5_boxIn_X5_has rfl rfl rfl (by decide +kernel) ⟨Nat.le_of_ble_eq_true rfl, Nat.le_of_ble_eq_true rfl⟩) rfl rfl rfl hE hP hDD rfl hS [0] rfl rfl rfl rfl hl.1 (Nat.le_of_ble_eq_true rfl) ⟨Nat.zero_le _, Nat.zero_le _⟩ rfl dX5_boxIn_2 rfl (fun H locs hP hS => ?_)
  obtain ⟨hr3, h⟩ := chk_some h
  refine wi_if_eq (tgt := 17) hx hb dX5_boxIn_5 (by decide) hr3 (fun c5 => ?_) (fun c5 => ?_)
  · have h := ite_t c5 h
    refine wi_bi hx hb dX5_boxIn_17 (by decide) ?_
    obtain rfl := Option.some.inj h
    exact KR _ _ _ _ hP hS dX5_boxIn_19
  · have h := ite_f c5 h
    refine lv_aload_n hx hb dX5_boxIn_8 rfl (lv_at hl 0 rfl) ?_
    refine wi_get (v := .ref a_v_places) hx hb hts iX5 hown hE hP 0 rfl rfl 1 (by decide) q0 rfl dX5_boxIn_9 ?_
    refine lv_iload_n hx hb dX5_boxIn_12 rfl (lv_at hl 1 rfl) ?_
    obtain ⟨hk6, h⟩ := chk_some h
    refine wi_iald hx hb hE hP 1 rfl (by decide) hk6 dX5_boxIn_13 ?_
    refine lv_goto (tgt := 19) hx hb dX5_boxIn_14 (by decide) ?_
    obtain rfl := Option.some.inj h
    exact KR _ _ _ _ hP hS dX5_boxIn_19
abbrev wd_X5_doneIn (cy : Nat → ClassId) (a_v : Nat) (a_v_facts : Nat) (a_v_places : Nat) (v_boxes : Int) (v_startsAt : Int) (v_facts : Nat → Int) (v_places : Nat → Int) : va_W := [(a_v, .inr (5, [.ref a_v_facts, .ref a_v_places, .int (zI v_boxes), .int (zI v_startsAt)])), (a_v_facts, .inl (cy 0, 30, .inl (fun j => zI (v_facts j)))), (a_v_places, .inl (cy 0, 5, .inl (fun j => zI (v_places j))))]
set_option maxHeartbeats 4000000 in
set_option maxRecDepth 100000 in
theorem c_X5_doneIn (l : Launch) (D : va_G) (cy : Nat → ClassId) (sa : Nat → Nat) (a_v : Nat) (a_v_facts : Nat) (a_v_places : Nat) (v_boxes : Int) (v_startsAt : Int) (v_facts : Nat → Int) (v_places : Nat → Int) (x1 : Int) (o : Int) (h : f_Shop_doneIn v_boxes v_startsAt v_facts v_places x1 = some o) : CtI l yX5_doneIn wsX5_doneIn ({ frames := 1, cells := 0, slots := 0, locals := 23 }) D cy sa [.ref a_v, .int (zI x1)] (wd_X5_doneIn cy a_v a_v_facts a_v_places v_boxes v_startsAt v_facts v_places) (wd_X5_doneIn cy a_v a_v_facts a_v_places v_boxes v_startsAt v_facts v_places) o := by
  refine ct_I (cc := cX5_doneIn) (maxL := 4) (plainFor_of_name (by decide)) rfl (Nat.le_of_ble_eq_true rfl) ?_
  intro p e s m below meth c A args QQ hx hb hml hown hts hE hDD hP KR ls hl
  have hl : lv_has ls 4 [(0, .ref a_v), (1, .int (zI x1))] := hl
  have hDD : DD A [a_v, a_v_facts, a_v_places] := hDD
  have hS : va_S A s.heap s.heap [] := va_S.rf
  have q0 := hts (.fieldLink RX5 22 "HatHours$Shop" "startsAt" "I") (List.mem_of_getElem? (i := 1) rfl)
  have q1 := hts (.fieldLink RX5 18 "HatHours$Shop" "boxes" "I") (List.mem_of_getElem? (i := 2) rfl)
  have q2 := hts (.fieldLink RX5 15 "HatHours$Shop" "places" "[I") (List.mem_of_getElem? (i := 3) rfl)
  have iX5 : ∀ w ∈ u_ws RX5 TX5 4, w ∈ wsX5_doneIn := in_slice 10 4 rfl
  have L7 : ∀ (fuel : Nat) (x1 : Int) (x2 : Int) (x3 : Int) (H : Heap) (locs : List Loc) (ls : Array Slot) (ex : Int), va_P D vwCl (wd_X5_doneIn cy a_v a_v_facts a_v_places v_boxes v_startsAt v_facts v_places) H → va_S A s.heap H locs → lv_has ls 4 [(0, .ref a_v), (1, .int (zI x1)), (2, .int (zI x2)), (3, .int (zI x3))] → f_Shop_doneIn_L7 fuel v_boxes v_facts v_places x1 x2 x3 = some ex → (∀ (H : Heap) (locs : List Loc) (ls : Array Slot), va_P D vwCl (wd_X5_doneIn cy a_v a_v_facts a_v_places v_boxes v_startsAt v_facts v_places) H → va_S A s.heap H locs → lv_has ls 4 [(2, .int (zI ex))] → W p l e { frames := 1, cells := 0, slots := 0, locals := 23 } s m args below meth c H locs 0 0 QQ (F0 m 40 ls [])) → W p l e { frames := 1, cells := 0, slots := 0, locals := 23 } s m args below meth c H locs 0 0 QQ (F0 m 7 ls []) := by
    intro fuel
    induction fuel with
    | zero => intro _ _ _ H locs ls ex hP hS hl h K; cases h
    | succ fuel ih =>
      intro x1 x2 x3 H locs ls ex hP hS hl h K
      refine lv_iload_n hx hb dX5_doneIn_7 rfl (lv_at hl 3 rfl) ?_
      refine lv_iload_n hx hb dX5_doneIn_8 rfl (lv_at hl 1 rfl) ?_
      obtain ⟨hr1, h⟩ := chk_some h
      obtain ⟨hr2, h⟩ := chk_some h
      refine wi_ic_gt (tgt := 40) hx hb dX5_doneIn_9 (by decide) hr1 hr2 (fun c4 => ?_) (fun c4 => ?_)
      · have h := ite_t c4 h
        obtain rfl := Option.some.inj h
        exact K _ _ _ hP hS (lv_sub hl [2] rfl)
      · have h := ite_f c4 h
        refine lv_iload_n hx hb dX5_doneIn_12 rfl (lv_at hl 3 rfl) ?_
        refine lv_aload_n hx hb dX5_doneIn_13 rfl (lv_at hl 0 rfl) ?_
        refine wi_get (v := .int (zI v_boxes)) hx hb hts iX5 hown hE hP 0 rfl rfl 2 (by decide) q1 rfl dX5_doneIn_14 ?_
        obtain ⟨hr5, h⟩ := chk_some h
        refine wi_ic_ge (tgt := 40) hx hb dX5_doneIn_17 (by decide) hr1 hr5 (fun c7 => ?_) (fun c7 => ?_)
        · have h := ite_t c7 h
          obtain rfl := Option.some.inj h
          exact K _ _ _ hP hS (lv_sub hl [2] rfl)
        · have h := ite_f c7 h
          refine lv_iload_n hx hb dX5_doneIn_20 rfl (lv_at hl 2 rfl) ?_
          refine lv_aload_n hx hb dX5_doneIn_21 rfl (lv_at hl 0 rfl) ?_
          refine lv_aload_n hx hb dX5_doneIn_22 rfl (lv_at hl 0 rfl) ?_
          refine wi_get (v := .ref a_v_places) hx hb hts iX5 hown hE hP 0 rfl rfl 1 (by decide) q2 rfl dX5_doneIn_23 ?_
          refine lv_iload_n hx hb dX5_doneIn_26 rfl (lv_at hl 3 rfl) ?_
          obtain ⟨hk8, h⟩ := chk_some h
          refine wi_iald hx hb hE hP 2 rfl (by decide) hk8 dX5_doneIn_27 ?_
          refine wi_ic hx hb dX5_doneIn_28 ?_
          obtain ⟨o9, hc10, h⟩ := bnd_some h
          refine cV_i (rest := [.int (zI x2)]) (w2 := (wd_X5_doneIn cy a_v a_v_facts a_v_places v_boxes v_startsAt v_facts v_places)) ⟨hx, hb, hml, hown, hts⟩ (c_X5_fact l D cy sa a_v a_v_facts a_v_places v_boxes v_startsAt v_facts (v_places (x3).toNat) 1 o9 hc10) (cwV 2 hts gX5_doneIn_X5_fact rfl rfl rfl (by decide +kernel) ⟨Nat.le_of_ble_eq_true rfl, Nat.le_of_ble_eq_true rfl⟩) rfl rfl rfl hE hP hDD rfl hS [0, 1] rfl rfl rfl rfl hl.1 (Nat.le_of_ble_eq_true rfl) ⟨Nat.zero_le _, Nat.zero_le _⟩ rfl dX5_doneIn_29 rfl (fun H locs hP hS => ?_)
          refine wi_iadd hx hb dX5_doneIn_32 ?_
          refine lv_istore_n (lv' := [(2, .int (zI (x2 + o9))), (0, .ref a_v), (1, .int (zI x1)), (3, .int (zI x3))]) hx hb dX5_doneIn_33 rfl hl (by decide) rfl (fun ls hl => ?_)
          refine wi_iinc (k := 3) (lv' := [(3, .int (zI (x3 + 1))), (2, .int (zI (x2 + o9))), (0, .ref a_v), (1, .int (zI x1))]) hx hb dX5_doneIn_34 hl rfl (by decide) rfl (fun ls hl => ?_)
          refine lv_goto (tgt := 7) hx hb dX5_doneIn_37 (by decide) ?_
          exact ih x1 (x2 + o9) (x3 + 1) _ _ _ _ hP hS (lv_sub hl [2, 3, 1, 0] rfl) h K
  refine lv_aload_n hx hb dX5_doneIn_0 rfl (lv_at hl 0 rfl) ?_
  refine wi_get (v := .int (zI v_startsAt)) hx hb hts iX5 hown hE hP 0 rfl rfl 3 (by decide) q0 rfl dX5_doneIn_1 ?_
  refine lv_istore_n (lv' := [(2, .int (zI v_startsAt)), (0, .ref a_v), (1, .int (zI x1))]) hx hb dX5_doneIn_4 rfl hl (by decide) rfl (fun ls hl => ?_)
  refine wi_ic hx hb dX5_doneIn_5 ?_
  refine lv_istore_n (lv' := [(3, .int (zI 0)), (2, .int (zI v_startsAt)), (0, .ref a_v), (1, .int (zI x1))]) hx hb dX5_doneIn_6 rfl hl (by decide) rfl (fun ls hl => ?_)
  obtain ⟨o11, hx12, h⟩ := bnd_some h
  refine L7 5000 x1 v_startsAt 0 _ _ _ _ hP hS (lv_sub hl [2, 3, 1, 0] rfl) hx12 ?_
  clear hx12
  intro H locs ls hP hS hl
  refine lv_iload_n hx hb dX5_doneIn_40 rfl (lv_at hl 0 rfl) ?_
  obtain rfl := Option.some.inj h
  exact KR _ _ _ _ hP hS dX5_doneIn_41
abbrev wd_X5_fits (cy : Nat → ClassId) : va_W := []
set_option maxHeartbeats 4000000 in
set_option maxRecDepth 100000 in
theorem c_X5_fits (l : Launch) (D : va_G) (cy : Nat → ClassId) (sa : Nat → Nat) (x0 : Int) (x1 : Int) (o : Int) (h : f_Shop_fits x0 x1 = some o) : CtI l yX5_fits wsX5_fits ({ frames := 2, cells := 0, slots := 0, locals := 42 }) D cy sa [.int (zI x0), .int (zI x1)] (wd_X5_fits cy ) (wd_X5_fits cy ) o := by
  refine ct_Z (cc := cX5_fits) (maxL := 2) (plainFor_of_name (by decide)) rfl (Nat.le_of_ble_eq_true rfl) ?_
  intro p e s m below meth c A args QQ hx hb hml hown hts hE hDD hP KR ls hl
  have hl : lv_has ls 2 [(0, .int (zI x0)), (1, .int (zI x1))] := hl
  have hDD : DD A [] := hDD
  have hS : va_S A s.heap s.heap [] := va_S.rf
  have q0 := hts (.fieldLink RX5 39 "HatHours$Shop" "LEAST" "[I") (List.mem_of_getElem? (i := 1) rfl)
  have q1 := hts (.fieldLink RX5 42 "HatHours$Shop" "MOST" "[I") (List.mem_of_getElem? (i := 2) rfl)
  have q2 := hts (.initialized RX9) (List.mem_of_getElem? (i := 8) rfl)
  have q3 := hts (.static yX9_within) (List.mem_of_getElem? (i := 7) rfl)
  refine lv_iload_n hx hb dX5_fits_0 rfl (lv_at hl 0 rfl) ?_
  obtain ⟨o1, hc2, h⟩ := bnd_some h
  refine cS_i (rest := []) (w2 := (wd_X5_fits cy )) ⟨hx, hb, hml, hown, hts⟩ (c_X5_isFact l D cy sa x0 o1 hc2) (va_cwS 1 hts gX5_fits_X5_isFact rfl rfl rfl (by decide +kernel) ⟨Nat.le_of_ble_eq_true rfl, Nat.le_of_ble_eq_true rfl⟩) hE hP hDD rfl hS [] rfl rfl rfl rfl hl.1 (Nat.le_of_ble_eq_true rfl) ⟨Nat.zero_le _, Nat.zero_le _⟩ rfl dX5_fits_1 rfl (fun H locs hP hS => ?_)
  obtain ⟨hr3, h⟩ := chk_some h
  refine wi_if_eq (tgt := 28) hx hb dX5_fits_4 (by decide) hr3 (fun c5 => ?_) (fun c5 => ?_)
  · have h := ite_t c5 h
    refine wi_ic hx hb dX5_fits_28 ?_
    obtain rfl := Option.some.inj h
    exact KR _ _ _ _ (z01 (Or.inl rfl)) hP hS dX5_fits_29
  · have h := ite_f c5 h
    refine lv_iload_n hx hb dX5_fits_7 rfl (lv_at hl 1 rfl) ?_
    refine wi_gets hx hb hE.2.1.2.1.1 hS hown q0 dX5_fits_8 ?_
    refine lv_iload_n hx hb dX5_fits_11 rfl (lv_at hl 0 rfl) ?_
    obtain ⟨hk6, h⟩ := chk_some h
    refine wi_ti hx hb hE.2.1.2.1.2 hS (by decide) hk6 dX5_fits_12 ?_
    refine wi_gets hx hb hE.2.1.2.2.1.1 hS hown q1 dX5_fits_13 ?_
    refine lv_iload_n hx hb dX5_fits_16 rfl (lv_at hl 0 rfl) ?_
    refine wi_ti hx hb hE.2.1.2.2.1.2 hS (by decide) hk6 dX5_fits_17 ?_
    obtain ⟨o7, hc8, h⟩ := bnd_some h
    refine cN_i (rest := []) (w2 := (wd_X5_fits cy )) ⟨hx, hb, hml, hown, hts⟩ (c_X9_within l D cy sa x1 (tLEAST (x0).toNat) (tMOST (x0).toNat) o7 hc8) ⟨va_cnB 3 hts gX5_fits_X9_within_n31 rfl rfl rfl (hE.2.1.1 ("HatHours$Shop", 31, ⟨"HatHours", "within", "(III)Z"⟩, "HatHours") (List.mem_of_getElem? (i := 14) rfl)) q2 (by decide +kernel) ⟨Nat.le_of_ble_eq_true rfl, Nat.le_of_ble_eq_true rfl⟩, q3, trivial⟩ hE hP hDD rfl hS [] rfl rfl rfl rfl hl.1 (Nat.le_of_ble_eq_true rfl) ⟨Nat.zero_le _, Nat.zero_le _⟩ rfl dX5_fits_18 rfl (fun H locs hP hS => ?_)
    obtain ⟨hr9, h⟩ := chk_some h
    refine wi_if_eq (tgt := 28) hx hb dX5_fits_21 (by decide) hr9 (fun c11 => ?_) (fun c11 => ?_)
    · have h := ite_t c11 h
      refine wi_ic hx hb dX5_fits_28 ?_
      obtain rfl := Option.some.inj h
      exact KR _ _ _ _ (z01 (Or.inl rfl)) hP hS dX5_fits_29
    · have h := ite_f c11 h
      refine wi_ic hx hb dX5_fits_24 ?_
      refine lv_goto (tgt := 29) hx hb dX5_fits_25 (by decide) ?_
      obtain rfl := Option.some.inj h
      exact KR _ _ _ _ (z01 (Or.inr rfl)) hP hS dX5_fits_29
abbrev wd_X9_isHour (cy : Nat → ClassId) : va_W := []
set_option maxHeartbeats 4000000 in
set_option maxRecDepth 100000 in
theorem c_X9_isHour (l : Launch) (D : va_G) (cy : Nat → ClassId) (sa : Nat → Nat) (x0 : Int) (o : Int) (h : f_HH_isHour x0 = some o) : CtI l yX9_isHour wsX9_isHour ({ frames := 1, cells := 0, slots := 0, locals := 22 }) D cy sa [.int (zI x0)] (wd_X9_isHour cy ) (wd_X9_isHour cy ) o := by
  refine ct_Z (cc := cX9_isHour) (maxL := 1) (plainFor_of_name (by decide)) rfl (Nat.le_of_ble_eq_true rfl) ?_
  intro p e s m below meth c A args QQ hx hb hml hown hts hE hDD hP KR ls hl
  have hl : lv_has ls 1 [(0, .int (zI x0))] := hl
  have hDD : DD A [] := hDD
  have hS : va_S A s.heap s.heap [] := va_S.rf
  refine lv_iload_n hx hb dX9_isHour_0 rfl (lv_at hl 0 rfl) ?_
  refine wi_ic hx hb dX9_isHour_1 ?_
  refine wi_bi hx hb dX9_isHour_2 (by decide) ?_
  obtain ⟨o1, hc2, h⟩ := bnd_some h
  refine cS_i (rest := []) (w2 := (wd_X9_isHour cy )) ⟨hx, hb, hml, hown, hts⟩ (c_X9_within l D cy sa x0 0 23 o1 hc2) (va_cwS 3 hts gX9_isHour_X9_within rfl rfl rfl (by decide +kernel) ⟨Nat.le_of_ble_eq_true rfl, Nat.le_of_ble_eq_true rfl⟩) hE hP hDD rfl hS [] rfl rfl rfl rfl hl.1 (Nat.le_of_ble_eq_true rfl) ⟨Nat.zero_le _, Nat.zero_le _⟩ rfl dX9_isHour_4 rfl (fun H locs hP hS => ?_)
  obtain ⟨hk3, h⟩ := chk_some h
  obtain rfl := Option.some.inj h
  exact KR _ _ _ _ (z01 hk3) hP hS dX9_isHour_7
abbrev wd_X5_refusal (cy : Nat → ClassId) (a_v : Nat) (a_v_facts : Nat) (a_v_places : Nat) (v_boxes : Int) (v_startsAt : Int) : va_W := [(a_v, .inr (5, [.ref a_v_facts, .ref a_v_places, .int (zI v_boxes), .int (zI v_startsAt)]))]
set_option maxHeartbeats 4000000 in
set_option maxRecDepth 100000 in
theorem c_X5_refusal (l : Launch) (D : va_G) (cy : Nat → ClassId) (sa : Nat → Nat) (a_v : Nat) (a_v_facts : Nat) (a_v_places : Nat) (v_boxes : Int) (v_startsAt : Int) (x1 : Int) (x2 : Int) (x3 : Int) (o : Int) (h : f_Shop_refusal v_boxes x1 x2 x3 = some o) : CtI l yX5_refusal wsX5_refusal ({ frames := 3, cells := 0, slots := 0, locals := 63 }) D cy sa [.ref a_v, .int (zI x1), .int (zI x2), .int (zI x3)] (wd_X5_refusal cy a_v a_v_facts a_v_places v_boxes v_startsAt) (wd_X5_refusal cy a_v a_v_facts a_v_places v_boxes v_startsAt) o := by
  refine ct_I (cc := cX5_refusal) (maxL := 4) (plainFor_of_name (by decide)) rfl (Nat.le_of_ble_eq_true rfl) ?_
  intro p e s m below meth c A args QQ hx hb hml hown hts hE hDD hP KR ls hl
  have hl : lv_has ls 4 [(0, .ref a_v), (1, .int (zI x1)), (2, .int (zI x2)), (3, .int (zI x3))] := hl
  have hDD : DD A [a_v] := hDD
  have hS : va_S A s.heap s.heap [] := va_S.rf
  refine wi_ic hx hb dX5_refusal_0 ?_
  refine lv_iload_n hx hb dX5_refusal_1 rfl (lv_at hl 1 rfl) ?_
  obtain ⟨o1, hc2, h⟩ := bnd_some h
  refine cS_i (rest := []) (w2 := (wd_X5_refusal cy a_v a_v_facts a_v_places v_boxes v_startsAt)) ⟨hx, hb, hml, hown, hts⟩ (c_X5_fits l D cy sa 0 x1 o1 hc2) (va_cwS 2 hts gX5_refusal_X5_fits rfl rfl rfl (by decide +kernel) ⟨Nat.le_of_ble_eq_true rfl, Nat.le_of_ble_eq_true rfl⟩) hE hP hDD rfl hS [] rfl rfl rfl rfl hl.1 (Nat.le_of_ble_eq_true rfl) ⟨Nat.zero_le _, Nat.zero_le _⟩ rfl dX5_refusal_2 rfl (fun H locs hP hS => ?_)
  obtain ⟨hr3, h⟩ := chk_some h
  refine wi_if_eq (tgt := 24) hx hb dX5_refusal_5 (by decide) hr3 (fun c5 => ?_) (fun c5 => ?_)
  · have h := ite_t c5 h
    refine wi_ic hx hb dX5_refusal_24 ?_
    obtain rfl := Option.some.inj h
    exact KR _ _ _ _ hP hS dX5_refusal_25
  · have h := ite_f c5 h
    refine wi_ic hx hb dX5_refusal_8 ?_
    refine lv_iload_n hx hb dX5_refusal_9 rfl (lv_at hl 2 rfl) ?_
    obtain ⟨o6, hc7, h⟩ := bnd_some h
    refine cS_i (rest := []) (w2 := (wd_X5_refusal cy a_v a_v_facts a_v_places v_boxes v_startsAt)) ⟨hx, hb, hml, hown, hts⟩ (c_X5_fits l D cy sa 1 x2 o6 hc7) (va_cwS 2 hts gX5_refusal_X5_fits rfl rfl rfl (by decide +kernel) ⟨Nat.le_of_ble_eq_true rfl, Nat.le_of_ble_eq_true rfl⟩) hE hP hDD rfl hS [] rfl rfl rfl rfl hl.1 (Nat.le_of_ble_eq_true rfl) ⟨Nat.zero_le _, Nat.zero_le _⟩ rfl dX5_refusal_10 rfl (fun H locs hP hS => ?_)
    obtain ⟨hr8, h⟩ := chk_some h
    refine wi_if_eq (tgt := 24) hx hb dX5_refusal_13 (by decide) hr8 (fun c10 => ?_) (fun c10 => ?_)
    · have h := ite_t c10 h
      refine wi_ic hx hb dX5_refusal_24 ?_
      obtain rfl := Option.some.inj h
      exact KR _ _ _ _ hP hS dX5_refusal_25
    · have h := ite_f c10 h
      refine wi_ic hx hb dX5_refusal_16 ?_
      refine lv_iload_n hx hb dX5_refusal_17 rfl (lv_at hl 3 rfl) ?_
      obtain ⟨o11, hc12, h⟩ := bnd_some h
      refine cS_i (rest := []) (w2 := (wd_X5_refusal cy a_v a_v_facts a_v_places v_boxes v_startsAt)) ⟨hx, hb, hml, hown, hts⟩ (c_X5_fits l D cy sa 2 x3 o11 hc12) (va_cwS 2 hts gX5_refusal_X5_fits rfl rfl rfl (by decide +kernel) ⟨Nat.le_of_ble_eq_true rfl, Nat.le_of_ble_eq_true rfl⟩) hE hP hDD rfl hS [] rfl rfl rfl rfl hl.1 (Nat.le_of_ble_eq_true rfl) ⟨Nat.zero_le _, Nat.zero_le _⟩ rfl dX5_refusal_18 rfl (fun H locs hP hS => ?_)
      obtain ⟨hr13, h⟩ := chk_some h
      refine wi_if_ne (tgt := 26) hx hb dX5_refusal_21 (by decide) hr13 (fun c15 => ?_) (fun c15 => ?_)
      · have h := ite_f c15 h
        refine lv_aload_n hx hb dX5_refusal_26 rfl (lv_at hl 0 rfl) ?_
        obtain ⟨o16, hc17, h⟩ := bnd_some h
        refine cV_i (rest := []) (w2 := (wd_X5_refusal cy a_v a_v_facts a_v_places v_boxes v_startsAt)) ⟨hx, hb, hml, hown, hts⟩ (c_X5_isFull l D cy sa a_v a_v_facts a_v_places v_boxes v_startsAt o16 hc17) (cwV 0 hts gX5_refusal_X5_isFull rfl rfl rfl (by decide +kernel) ⟨Nat.le_of_ble_eq_true rfl, Nat.le_of_ble_eq_true rfl⟩) rfl rfl rfl hE hP hDD rfl hS [0] rfl rfl rfl rfl hl.1 (Nat.le_of_ble_eq_true rfl) ⟨Nat.zero_le _, Nat.zero_le _⟩ rfl dX5_refusal_27 rfl (fun H locs hP hS => ?_)
        obtain ⟨hr18, h⟩ := chk_some h
        refine wi_if_eq (tgt := 38) hx hb dX5_refusal_30 (by decide) hr18 (fun c20 => ?_) (fun c20 => ?_)
        · have h := ite_t c20 h
          refine wi_ic hx hb dX5_refusal_38 ?_
          obtain rfl := Option.some.inj h
          exact KR _ _ _ _ hP hS dX5_refusal_39
        · have h := ite_f c20 h
          refine wi_bi hx hb dX5_refusal_33 (by decide) ?_
          refine lv_goto (tgt := 39) hx hb dX5_refusal_35 (by decide) ?_
          obtain rfl := Option.some.inj h
          exact KR _ _ _ _ hP hS dX5_refusal_39
      · have h := ite_t c15 h
        refine wi_ic hx hb dX5_refusal_24 ?_
        obtain rfl := Option.some.inj h
        exact KR _ _ _ _ hP hS dX5_refusal_25
abbrev wd_X9_isRoom (cy : Nat → ClassId) : va_W := []
set_option maxHeartbeats 4000000 in
set_option maxRecDepth 100000 in
theorem c_X9_isRoom (l : Launch) (D : va_G) (cy : Nat → ClassId) (sa : Nat → Nat) (x0 : Int) (o : Int) (h : f_HH_isRoom x0 = some o) : CtI l yX9_isRoom wsX9_isRoom ({ frames := 1, cells := 0, slots := 0, locals := 22 }) D cy sa [.int (zI x0)] (wd_X9_isRoom cy ) (wd_X9_isRoom cy ) o := by
  refine ct_Z (cc := cX9_isRoom) (maxL := 1) (plainFor_of_name (by decide)) rfl (Nat.le_of_ble_eq_true rfl) ?_
  intro p e s m below meth c A args QQ hx hb hml hown hts hE hDD hP KR ls hl
  have hl : lv_has ls 1 [(0, .int (zI x0))] := hl
  have hDD : DD A [] := hDD
  have hS : va_S A s.heap s.heap [] := va_S.rf
  refine lv_iload_n hx hb dX9_isRoom_0 rfl (lv_at hl 0 rfl) ?_
  refine wi_ic hx hb dX9_isRoom_1 ?_
  refine wi_ic hx hb dX9_isRoom_2 ?_
  obtain ⟨o1, hc2, h⟩ := bnd_some h
  refine cS_i (rest := []) (w2 := (wd_X9_isRoom cy )) ⟨hx, hb, hml, hown, hts⟩ (c_X9_within l D cy sa x0 0 4 o1 hc2) (va_cwS 3 hts gX9_isRoom_X9_within rfl rfl rfl (by decide +kernel) ⟨Nat.le_of_ble_eq_true rfl, Nat.le_of_ble_eq_true rfl⟩) hE hP hDD rfl hS [] rfl rfl rfl rfl hl.1 (Nat.le_of_ble_eq_true rfl) ⟨Nat.zero_le _, Nat.zero_le _⟩ rfl dX9_isRoom_3 rfl (fun H locs hP hS => ?_)
  obtain ⟨hk3, h⟩ := chk_some h
  obtain rfl := Option.some.inj h
  exact KR _ _ _ _ (z01 hk3) hP hS dX9_isRoom_6
