abbrev wd_X5_yawnsIn (cy : Nat → ClassId) (a_v : Nat) (a_v_facts : Nat) (a_v_places : Nat) (v_boxes : Int) (v_startsAt : Int) (v_facts : Nat → Int) (v_places : Nat → Int) : va_W := [(a_v, .inr (5, [.ref a_v_facts, .ref a_v_places, .int (zI v_boxes), .int (zI v_startsAt)])), (a_v_facts, .inl (cy 0, 30, .inl (fun j => zI (v_facts j)))), (a_v_places, .inl (cy 0, 5, .inl (fun j => zI (v_places j))))]
set_option maxHeartbeats 4000000 in
set_option maxRecDepth 100000 in
theorem c_X5_yawnsIn (l : Launch) (D : va_G) (cy : Nat → ClassId) (sa : Nat → Nat) (a_v : Nat) (a_v_facts : Nat) (a_v_places : Nat) (v_boxes : Int) (v_startsAt : Int) (v_facts : Nat → Int) (v_places : Nat → Int) (x1 : Int) (o : Int) (h : f_Shop_yawnsIn v_boxes v_startsAt v_facts v_places x1 = some o) : CtI l yX5_yawnsIn wsX5_yawnsIn ({ frames := 3, cells := 0, slots := 0, locals := 78 }) D cy sa [.ref a_v, .int (zI x1)] (wd_X5_yawnsIn cy a_v a_v_facts a_v_places v_boxes v_startsAt v_facts v_places) (wd_X5_yawnsIn cy a_v a_v_facts a_v_places v_boxes v_startsAt v_facts v_places) o := by
  refine ct_I (cc := cX5_yawnsIn) (maxL := 4) (plainFor_of_name (by decide)) rfl (Nat.le_of_ble_eq_true rfl) ?_
  intro p e s m below meth c A args QQ hx hb hml hown hts hE hDD hP KR ls hl
  have hl : lv_has ls 4 [(0, .ref a_v), (1, .int (zI x1))] := hl
  have hDD : DD A [a_v, a_v_facts, a_v_places] := hDD
  have hS : va_S A s.heap s.heap [] := va_S.rf
  have q0 := hts (.fieldLink RX5 18 "HatHours$Shop" "boxes" "I") (List.mem_of_getElem? (i := 1) rfl)
  have iX5 : ∀ w ∈ u_ws RX5 TX5 4, w ∈ wsX5_yawnsIn := in_slice 33 4 rfl
  have L4 : ∀ (fuel : Nat) (x1 : Int) (x2 : Int) (x3 : Int) (H : Heap) (locs : List Loc) (ls : Array Slot) (ex : Int), va_P D vwCl (wd_X5_yawnsIn cy a_v a_v_facts a_v_places v_boxes v_startsAt v_facts v_places) H → va_S A s.heap H locs → lv_has ls 4 [(0, .ref a_v), (1, .int (zI x1)), (2, .int (zI x2)), (3, .int (zI x3))] → f_Shop_yawnsIn_L4 fuel v_boxes v_startsAt v_facts v_places x1 x2 x3 = some ex → (∀ (H : Heap) (locs : List Loc) (ls : Array Slot), va_P D vwCl (wd_X5_yawnsIn cy a_v a_v_facts a_v_places v_boxes v_startsAt v_facts v_places) H → va_S A s.heap H locs → lv_has ls 4 [(2, .int (zI ex))] → W p l e { frames := 3, cells := 0, slots := 0, locals := 78 } s m args below meth c H locs 0 0 QQ (F0 m 36 ls [])) → W p l e { frames := 3, cells := 0, slots := 0, locals := 78 } s m args below meth c H locs 0 0 QQ (F0 m 4 ls []) := by
    intro fuel
    induction fuel with
    | zero => intro _ _ _ H locs ls ex hP hS hl h K; cases h
    | succ fuel ih =>
      intro x1 x2 x3 H locs ls ex hP hS hl h K
      refine lv_iload_n hx hb dX5_yawnsIn_4 rfl (lv_at hl 3 rfl) ?_
      refine lv_aload_n hx hb dX5_yawnsIn_5 rfl (lv_at hl 0 rfl) ?_
      refine wi_get (v := .int (zI v_boxes)) hx hb hts iX5 hown hE hP 0 rfl rfl 2 (by decide) q0 rfl dX5_yawnsIn_6 ?_
      obtain ⟨hr1, h⟩ := chk_some h
      obtain ⟨hr2, h⟩ := chk_some h
      refine wi_ic_ge (tgt := 36) hx hb dX5_yawnsIn_9 (by decide) hr1 hr2 (fun c4 => ?_) (fun c4 => ?_)
      · have h := ite_t c4 h
        obtain rfl := Option.some.inj h
        exact K _ _ _ hP hS (lv_sub hl [2] rfl)
      · have h := ite_f c4 h
        refine lv_aload_n hx hb dX5_yawnsIn_12 rfl (lv_at hl 0 rfl) ?_
        refine lv_iload_n hx hb dX5_yawnsIn_13 rfl (lv_at hl 3 rfl) ?_
        refine wi_ic hx hb dX5_yawnsIn_14 ?_
        obtain ⟨o5, hc6, h⟩ := bnd_some h
        refine cV_i (rest := []) (w2 := (wd_X5_yawnsIn cy a_v a_v_facts a_v_places v_boxes v_startsAt v_facts v_places)) ⟨hx, hb, hml, hown, hts⟩ (c_X5_fact l D cy sa a_v a_v_facts a_v_places v_boxes v_startsAt v_facts x3 5 o5 hc6) (cwV 2 hts gX5_yawnsIn_X5_fact rfl rfl rfl (by decide +kernel) ⟨Nat.le_of_ble_eq_true rfl, Nat.le_of_ble_eq_true rfl⟩) rfl rfl rfl hE hP hDD rfl hS [0, 1] rfl rfl rfl rfl hl.1 (Nat.le_of_ble_eq_true rfl) ⟨Nat.zero_le _, Nat.zero_le _⟩ rfl dX5_yawnsIn_15 rfl (fun H locs hP hS => ?_)
        refine lv_iload_n hx hb dX5_yawnsIn_18 rfl (lv_at hl 1 rfl) ?_
        obtain ⟨hr7, h⟩ := chk_some h
        obtain ⟨hr8, h⟩ := chk_some h
        refine wi_ic_ne (tgt := 30) hx hb dX5_yawnsIn_19 (by decide) hr7 hr8 (fun c10 => ?_) (fun c10 => ?_)
        · have h := ite_f c10 h
          refine wi_iinc (k := 3) (lv' := [(3, .int (zI (x3 + 1))), (0, .ref a_v), (1, .int (zI x1)), (2, .int (zI x2))]) hx hb dX5_yawnsIn_30 hl rfl (by decide) rfl (fun ls hl => ?_)
          refine lv_goto (tgt := 4) hx hb dX5_yawnsIn_33 (by decide) ?_
          exact ih x1 x2 (x3 + 1) _ _ _ _ hP hS (lv_sub hl [1, 2, 3, 0] rfl) h K
        · have h := ite_t c10 h
          refine lv_iload_n hx hb dX5_yawnsIn_22 rfl (lv_at hl 2 rfl) ?_
          refine lv_aload_n hx hb dX5_yawnsIn_23 rfl (lv_at hl 0 rfl) ?_
          refine lv_iload_n hx hb dX5_yawnsIn_24 rfl (lv_at hl 3 rfl) ?_
          obtain ⟨o11, hc12, h⟩ := bnd_some h
          refine cV_i (rest := [.int (zI x2)]) (w2 := (wd_X5_yawnsIn cy a_v a_v_facts a_v_places v_boxes v_startsAt v_facts v_places)) ⟨hx, hb, hml, hown, hts⟩ (c_X5_yawnsBy l D cy sa a_v a_v_facts a_v_places v_boxes v_startsAt v_facts v_places x3 o11 hc12) (cwV 1 hts gX5_yawnsIn_X5_yawnsBy rfl rfl rfl (by decide +kernel) ⟨Nat.le_of_ble_eq_true rfl, Nat.le_of_ble_eq_true rfl⟩) rfl rfl rfl hE hP hDD rfl hS [0, 1, 2] rfl rfl rfl rfl hl.1 (Nat.le_of_ble_eq_true rfl) ⟨Nat.zero_le _, Nat.zero_le _⟩ rfl dX5_yawnsIn_25 rfl (fun H locs hP hS => ?_)
          refine wi_iadd hx hb dX5_yawnsIn_28 ?_
          refine lv_istore_n (lv' := [(2, .int (zI (x2 + o11))), (0, .ref a_v), (1, .int (zI x1)), (3, .int (zI x3))]) hx hb dX5_yawnsIn_29 rfl hl (by decide) rfl (fun ls hl => ?_)
          refine wi_iinc (k := 3) (lv' := [(3, .int (zI (x3 + 1))), (2, .int (zI (x2 + o11))), (0, .ref a_v), (1, .int (zI x1))]) hx hb dX5_yawnsIn_30 hl rfl (by decide) rfl (fun ls hl => ?_)
          refine lv_goto (tgt := 4) hx hb dX5_yawnsIn_33 (by decide) ?_
          exact ih x1 (x2 + o11) (x3 + 1) _ _ _ _ hP hS (lv_sub hl [2, 3, 1, 0] rfl) h K
  refine wi_ic hx hb dX5_yawnsIn_0 ?_
  refine lv_istore_n (lv' := [(2, .int (zI 0)), (0, .ref a_v), (1, .int (zI x1))]) hx hb dX5_yawnsIn_1 rfl hl (by decide) rfl (fun ls hl => ?_)
  refine wi_ic hx hb dX5_yawnsIn_2 ?_
  refine lv_istore_n (lv' := [(3, .int (zI 0)), (2, .int (zI 0)), (0, .ref a_v), (1, .int (zI x1))]) hx hb dX5_yawnsIn_3 rfl hl (by decide) rfl (fun ls hl => ?_)
  obtain ⟨o13, hx14, h⟩ := bnd_some h
  refine L4 5000 x1 0 0 _ _ _ _ hP hS (lv_sub hl [2, 3, 1, 0] rfl) hx14 ?_
  clear hx14
  intro H locs ls hP hS hl
  refine lv_iload_n hx hb dX5_yawnsIn_36 rfl (lv_at hl 0 rfl) ?_
  obtain rfl := Option.some.inj h
  exact KR _ _ _ _ hP hS dX5_yawnsIn_37
abbrev wd_X5_hoursBy (cy : Nat → ClassId) (a_v : Nat) (a_v_facts : Nat) (a_v_places : Nat) (v_boxes : Int) (v_startsAt : Int) (v_facts : Nat → Int) : va_W := [(a_v, .inr (5, [.ref a_v_facts, .ref a_v_places, .int (zI v_boxes), .int (zI v_startsAt)])), (a_v_facts, .inl (cy 0, 30, .inl (fun j => zI (v_facts j))))]
set_option maxHeartbeats 4000000 in
set_option maxRecDepth 100000 in
theorem c_X5_hoursBy (l : Launch) (D : va_G) (cy : Nat → ClassId) (sa : Nat → Nat) (a_v : Nat) (a_v_facts : Nat) (a_v_places : Nat) (v_boxes : Int) (v_startsAt : Int) (v_facts : Nat → Int) (x1 : Int) (o : Int) (h : f_Shop_hoursBy v_boxes v_facts x1 = some o) : CtI l yX5_hoursBy wsX5_hoursBy ({ frames := 2, cells := 0, slots := 0, locals := 50 }) D cy sa [.ref a_v, .int (zI x1)] (wd_X5_hoursBy cy a_v a_v_facts a_v_places v_boxes v_startsAt v_facts) (wd_X5_hoursBy cy a_v a_v_facts a_v_places v_boxes v_startsAt v_facts) o := by
  refine ct_I (cc := cX5_hoursBy) (maxL := 7) (plainFor_of_name (by decide)) rfl (Nat.le_of_ble_eq_true rfl) ?_
  intro p e s m below meth c A args QQ hx hb hml hown hts hE hDD hP KR ls hl
  have hl : lv_has ls 7 [(0, .ref a_v), (1, .int (zI x1))] := hl
  have hDD : DD A [a_v, a_v_facts] := hDD
  have hS : va_S A s.heap s.heap [] := va_S.rf
  have q0 := hts (.methodLink RX5 98 Lib.Math.max.name) (List.mem_of_getElem? (i := 1) rfl)
  have q1 := hts (.static Lib.Math.max.name) (List.mem_of_getElem? (i := 2) rfl)
  have q2 := hts (.initialized "java/lang/Math") (List.mem_of_getElem? (i := 3) rfl)
  have q3 := hts (.code Lib.Math.max.name Lib.Math.max.code 2 (some .int)) (List.mem_of_getElem? (i := 4) rfl)
  have q4 := hts (.methodLink RX5 77 Lib.Math.min.name) (List.mem_of_getElem? (i := 5) rfl)
  have q5 := hts (.static Lib.Math.min.name) (List.mem_of_getElem? (i := 6) rfl)
  have q6 := hts (.code Lib.Math.min.name Lib.Math.min.code 2 (some .int)) (List.mem_of_getElem? (i := 7) rfl)
  have L42 : ∀ (fuel : Nat) (x1 : Int) (x3 : Int) (x4 : Int) (x5 : Int) (x6 : Int) (H : Heap) (locs : List Loc) (ls : Array Slot) (ex : Int), va_P D vwCl (wd_X5_hoursBy cy a_v a_v_facts a_v_places v_boxes v_startsAt v_facts) H → va_S A s.heap H locs → lv_has ls 7 [(0, .ref a_v), (1, .int (zI x1)), (3, .int (zI x3)), (4, .int (zI x4)), (5, .int (zI x5)), (6, .int (zI x6))] → f_Shop_hoursBy_L42 fuel v_boxes v_facts x1 x3 x4 x5 x6 = some ex → (∀ (H : Heap) (locs : List Loc) (ls : Array Slot), va_P D vwCl (wd_X5_hoursBy cy a_v a_v_facts a_v_places v_boxes v_startsAt v_facts) H → va_S A s.heap H locs → lv_has ls 7 [(5, .int (zI ex))] → W p l e { frames := 2, cells := 0, slots := 0, locals := 50 } s m args below meth c H locs 0 0 QQ (F0 m 75 ls [])) → W p l e { frames := 2, cells := 0, slots := 0, locals := 50 } s m args below meth c H locs 0 0 QQ (F0 m 42 ls []) := by
    intro fuel
    induction fuel with
    | zero => intro _ _ _ _ _ H locs ls ex hP hS hl h K; cases h
    | succ fuel ih =>
      intro x1 x3 x4 x5 x6 H locs ls ex hP hS hl h K
      refine lv_iload hx hb dX5_hoursBy_42 (lv_at hl 5 rfl) ?_
      refine lv_iload hx hb dX5_hoursBy_44 (lv_at hl 3 rfl) ?_
      obtain ⟨hr11, h⟩ := chk_some h
      obtain ⟨hr12, h⟩ := chk_some h
      refine wi_ic_ge (tgt := 75) hx hb dX5_hoursBy_46 (by decide) hr11 hr12 (fun c14 => ?_) (fun c14 => ?_)
      · have h := ite_t c14 h
        obtain rfl := Option.some.inj h
        exact K _ _ _ hP hS (lv_sub hl [4] rfl)
      · have h := ite_f c14 h
        refine lv_aload_n hx hb dX5_hoursBy_49 rfl (lv_at hl 0 rfl) ?_
        refine lv_iload_n hx hb dX5_hoursBy_50 rfl (lv_at hl 2 rfl) ?_
        refine lv_iload hx hb dX5_hoursBy_51 (lv_at hl 5 rfl) ?_
        obtain ⟨o15, hc16, h⟩ := bnd_some h
        refine cV_i (rest := []) (w2 := (wd_X5_hoursBy cy a_v a_v_facts a_v_places v_boxes v_startsAt v_facts)) ⟨hx, hb, hml, hown, hts⟩ (c_X5_boxAt l D cy sa a_v a_v_facts a_v_places v_boxes v_startsAt v_facts x3 x6 o15 hc16) (cwV 2 hts gX5_hoursBy_X5_boxAt rfl rfl rfl (by decide +kernel) ⟨Nat.le_of_ble_eq_true rfl, Nat.le_of_ble_eq_true rfl⟩) rfl rfl rfl hE hP hDD rfl hS [0, 1] rfl rfl rfl rfl hl.1 (Nat.le_of_ble_eq_true rfl) ⟨Nat.zero_le _, Nat.zero_le _⟩ rfl dX5_hoursBy_53 rfl (fun H locs hP hS => ?_)
        refine lv_iload_n hx hb dX5_hoursBy_56 rfl (lv_at hl 1 rfl) ?_
        obtain ⟨hr17, h⟩ := chk_some h
        obtain ⟨hr18, h⟩ := chk_some h
        refine wi_ic_ne (tgt := 69) hx hb dX5_hoursBy_57 (by decide) hr17 hr18 (fun c20 => ?_) (fun c20 => ?_)
        · have h := ite_f c20 h
          refine wi_iinc (k := 5) (lv' := [(6, .int (zI (x6 + 1))), (0, .ref a_v), (1, .int (zI x1)), (3, .int (zI x3)), (4, .int (zI x4)), (5, .int (zI x5))]) hx hb dX5_hoursBy_69 hl rfl (by decide) rfl (fun ls hl => ?_)
          refine lv_goto (tgt := 42) hx hb dX5_hoursBy_72 (by decide) ?_
          exact ih x1 x3 x4 x5 (x6 + 1) _ _ _ _ hP hS (lv_sub hl [1, 2, 3, 4, 5, 0] rfl) h K
        · have h := ite_t c20 h
          refine lv_iload hx hb dX5_hoursBy_60 (lv_at hl 4 rfl) ?_
          refine wi_ic hx hb dX5_hoursBy_62 ?_
          refine lv_iload hx hb dX5_hoursBy_63 (lv_at hl 5 rfl) ?_
          refine wi_ishl hx hb dX5_hoursBy_65 ?_
          refine wi_ior hx hb dX5_hoursBy_66 ?_
          refine lv_istore (lv' := [(5, .int (zI (zor x5 (zshl 1 x6)))), (0, .ref a_v), (1, .int (zI x1)), (3, .int (zI x3)), (4, .int (zI x4)), (6, .int (zI x6))]) hx hb dX5_hoursBy_67 hl (by decide) rfl (fun ls hl => ?_)
          refine wi_iinc (k := 5) (lv' := [(6, .int (zI (x6 + 1))), (5, .int (zI (zor x5 (zshl 1 x6)))), (0, .ref a_v), (1, .int (zI x1)), (3, .int (zI x3)), (4, .int (zI x4))]) hx hb dX5_hoursBy_69 hl rfl (by decide) rfl (fun ls hl => ?_)
          refine lv_goto (tgt := 42) hx hb dX5_hoursBy_72 (by decide) ?_
          exact ih x1 x3 x4 (zor x5 (zshl 1 x6)) (x6 + 1) _ _ _ _ hP hS (lv_sub hl [2, 3, 4, 5, 1, 0] rfl) h K
  refine wi_ic hx hb dX5_hoursBy_0 ?_
  refine lv_aload_n hx hb dX5_hoursBy_1 rfl (lv_at hl 0 rfl) ?_
  refine lv_iload_n hx hb dX5_hoursBy_2 rfl (lv_at hl 1 rfl) ?_
  refine wi_ic hx hb dX5_hoursBy_3 ?_
  obtain ⟨o1, hc2, h⟩ := bnd_some h
  refine cV_i (rest := [.int (zI 0)]) (w2 := (wd_X5_hoursBy cy a_v a_v_facts a_v_places v_boxes v_startsAt v_facts)) ⟨hx, hb, hml, hown, hts⟩ (c_X5_fact l D cy sa a_v a_v_facts a_v_places v_boxes v_startsAt v_facts x1 4 o1 hc2) (cwV 2 hts gX5_hoursBy_X5_fact rfl rfl rfl (by decide +kernel) ⟨Nat.le_of_ble_eq_true rfl, Nat.le_of_ble_eq_true rfl⟩) rfl rfl rfl hE hP hDD rfl hS [0, 1] rfl rfl rfl rfl hl.1 (Nat.le_of_ble_eq_true rfl) ⟨Nat.zero_le _, Nat.zero_le _⟩ rfl dX5_hoursBy_4 rfl (fun H locs hP hS => ?_)
  obtain ⟨hr3, h⟩ := chk_some h
  refine wi_max hx hb (by rw [hml]; exact hl.1.symm) hown q0 q1 q2 q3 (Nat.le_of_ble_eq_true rfl) (Nat.le_of_ble_eq_true rfl) ⟨Nat.zero_le _, Nat.zero_le _⟩ (by decide) hr3 dX5_hoursBy_7 ?_
  refine lv_istore_n (lv' := [(2, .int (zI (if 0 < o1 then o1 else 0))), (0, .ref a_v), (1, .int (zI x1))]) hx hb dX5_hoursBy_10 rfl hl (by decide) rfl (fun ls hl => ?_)
  refine lv_aload_n hx hb dX5_hoursBy_11 rfl (lv_at hl 1 rfl) ?_
  refine lv_iload_n hx hb dX5_hoursBy_12 rfl (lv_at hl 2 rfl) ?_
  refine wi_ic hx hb dX5_hoursBy_13 ?_
  obtain ⟨o4, hc5, h⟩ := bnd_some h
  refine cV_i (rest := []) (w2 := (wd_X5_hoursBy cy a_v a_v_facts a_v_places v_boxes v_startsAt v_facts)) ⟨hx, hb, hml, hown, hts⟩ (c_X5_fact l D cy sa a_v a_v_facts a_v_places v_boxes v_startsAt v_facts x1 5 o4 hc5) (cwV 2 hts gX5_hoursBy_X5_fact rfl rfl rfl (by decide +kernel) ⟨Nat.le_of_ble_eq_true rfl, Nat.le_of_ble_eq_true rfl⟩) rfl rfl rfl hE hP hDD rfl hS [0, 1] rfl rfl rfl rfl hl.1 (Nat.le_of_ble_eq_true rfl) ⟨Nat.zero_le _, Nat.zero_le _⟩ rfl dX5_hoursBy_14 rfl (fun H locs hP hS => ?_)
  refine lv_istore_n (lv' := [(3, .int (zI o4)), (2, .int (zI (if 0 < o1 then o1 else 0))), (0, .ref a_v), (1, .int (zI x1))]) hx hb dX5_hoursBy_17 rfl hl (by decide) rfl (fun ls hl => ?_)
  refine wi_bi hx hb dX5_hoursBy_18 (by decide) ?_
  refine lv_iload_n hx hb dX5_hoursBy_20 rfl (lv_at hl 1 rfl) ?_
  refine lv_aload_n hx hb dX5_hoursBy_21 rfl (lv_at hl 2 rfl) ?_
  refine lv_iload_n hx hb dX5_hoursBy_22 rfl (lv_at hl 3 rfl) ?_
  refine wi_ic hx hb dX5_hoursBy_23 ?_
  obtain ⟨o6, hc7, h⟩ := bnd_some h
  refine cV_i (rest := [.int (zI (if 0 < o1 then o1 else 0)), .int (zI 24)]) (w2 := (wd_X5_hoursBy cy a_v a_v_facts a_v_places v_boxes v_startsAt v_facts)) ⟨hx, hb, hml, hown, hts⟩ (c_X5_fact l D cy sa a_v a_v_facts a_v_places v_boxes v_startsAt v_facts x1 0 o6 hc7) (cwV 2 hts gX5_hoursBy_X5_fact rfl rfl rfl (by decide +kernel) ⟨Nat.le_of_ble_eq_true rfl, Nat.le_of_ble_eq_true rfl⟩) rfl rfl rfl hE hP hDD rfl hS [0, 1] rfl rfl rfl rfl hl.1 (Nat.le_of_ble_eq_true rfl) ⟨Nat.zero_le _, Nat.zero_le _⟩ rfl dX5_hoursBy_24 rfl (fun H locs hP hS => ?_)
  obtain ⟨o8, hc9, h⟩ := bnd_some h
  refine cS_i (rest := [.int (zI (if 0 < o1 then o1 else 0)), .int (zI 24)]) (w2 := (wd_X5_hoursBy cy a_v a_v_facts a_v_places v_boxes v_startsAt v_facts)) ⟨hx, hb, hml, hown, hts⟩ (c_X5_lastsOf l D cy sa o6 o8 hc9) (va_cwS 1 hts gX5_hoursBy_X5_lastsOf rfl rfl rfl (by decide +kernel) ⟨Nat.le_of_ble_eq_true rfl, Nat.le_of_ble_eq_true rfl⟩) hE hP hDD rfl hS [] rfl rfl rfl rfl hl.1 (Nat.le_of_ble_eq_true rfl) ⟨Nat.zero_le _, Nat.zero_le _⟩ rfl dX5_hoursBy_27 rfl (fun H locs hP hS => ?_)
  refine wi_iadd hx hb dX5_hoursBy_30 ?_
  obtain ⟨hr10, h⟩ := chk_some h
  refine wi_min hx hb (by rw [hml]; exact hl.1.symm) hown q4 q5 q2 q6 (Nat.le_of_ble_eq_true rfl) (Nat.le_of_ble_eq_true rfl) ⟨Nat.zero_le _, Nat.zero_le _⟩ (by decide) hr10 dX5_hoursBy_31 ?_
  refine lv_istore (lv' := [(4, .int (zI (if ((if 0 < o1 then o1 else 0) + o8) < 24 then (if 0 < o1 then o1 else 0) + o8 else 24))), (3, .int (zI o4)), (2, .int (zI (if 0 < o1 then o1 else 0))), (0, .ref a_v), (1, .int (zI x1))]) hx hb dX5_hoursBy_34 hl (by decide) rfl (fun ls hl => ?_)
  refine wi_ic hx hb dX5_hoursBy_36 ?_
  refine lv_istore (lv' := [(5, .int (zI 0)), (4, .int (zI (if ((if 0 < o1 then o1 else 0) + o8) < 24 then (if 0 < o1 then o1 else 0) + o8 else 24))), (3, .int (zI o4)), (2, .int (zI (if 0 < o1 then o1 else 0))), (0, .ref a_v), (1, .int (zI x1))]) hx hb dX5_hoursBy_37 hl (by decide) rfl (fun ls hl => ?_)
  refine lv_iload_n hx hb dX5_hoursBy_39 rfl (lv_at hl 3 rfl) ?_
  refine lv_istore (lv' := [(6, .int (zI (if 0 < o1 then o1 else 0))), (5, .int (zI 0)), (4, .int (zI (if ((if 0 < o1 then o1 else 0) + o8) < 24 then (if 0 < o1 then o1 else 0) + o8 else 24))), (3, .int (zI o4)), (2, .int (zI (if 0 < o1 then o1 else 0))), (0, .ref a_v), (1, .int (zI x1))]) hx hb dX5_hoursBy_40 hl (by decide) rfl (fun ls hl => ?_)
  obtain ⟨o21, hx22, h⟩ := bnd_some h
  refine L42 5000 x1 o4 (if ((if 0 < o1 then o1 else 0) + o8) < 24 then (if 0 < o1 then o1 else 0) + o8 else 24) 0 (if 0 < o1 then o1 else 0) _ _ _ _ hP hS (lv_sub hl [5, 6, 3, 2, 1, 0] rfl) hx22 ?_
  clear hx22
  intro H locs ls hP hS hl
  refine lv_iload hx hb dX5_hoursBy_75 (lv_at hl 0 rfl) ?_
  obtain rfl := Option.some.inj h
  exact KR _ _ _ _ hP hS dX5_hoursBy_77
abbrev wd_X5_orderByNumber (cy : Nat → ClassId) (a_v : Nat) (a_v_places : Nat) (a_v_facts : Nat) (v_boxes : Int) (v_startsAt : Int) (v_places : Nat → Int) : va_W := [(a_v, .inr (5, [.ref a_v_facts, .ref a_v_places, .int (zI v_boxes), .int (zI v_startsAt)])), (a_v_places, .inl (cy 0, 5, .inl (fun j => zI (v_places j))))]
set_option maxHeartbeats 4000000 in
set_option maxRecDepth 100000 in
theorem c_X5_orderByNumber (l : Launch) (D : va_G) (cy : Nat → ClassId) (sa : Nat → Nat) (a_v : Nat) (a_v_places : Nat) (a_v_facts : Nat) (v_boxes : Int) (v_startsAt : Int) (v_places : Nat → Int) (o : (Nat → Int)) (h : f_Shop_orderByNumber v_boxes v_places = some o) : CtV l yX5_orderByNumber wsX5_orderByNumber ({ frames := 0, cells := 0, slots := 0, locals := 0 }) D cy sa [.ref a_v] (wd_X5_orderByNumber cy a_v a_v_places a_v_facts v_boxes v_startsAt v_places) (wd_X5_orderByNumber cy a_v a_v_places a_v_facts v_boxes v_startsAt o)  := by
  refine ct_V (cc := cX5_orderByNumber) (maxL := 2) (plainFor_of_name (by decide)) rfl (Nat.le_of_ble_eq_true rfl) ?_
  intro p e s m below meth c A args QQ hx hb hml hown hts hE hDD hP KR ls hl
  have hl : lv_has ls 2 [(0, .ref a_v)] := hl
  have hDD : DD A [a_v, a_v_places] := hDD
  have hS : va_S A s.heap s.heap [] := va_S.rf
  have q0 := hts (.fieldLink RX5 18 "HatHours$Shop" "boxes" "I") (List.mem_of_getElem? (i := 1) rfl)
  have q1 := hts (.fieldLink RX5 15 "HatHours$Shop" "places" "[I") (List.mem_of_getElem? (i := 2) rfl)
  have iX5 : ∀ w ∈ u_ws RX5 TX5 4, w ∈ wsX5_orderByNumber := in_slice 3 4 rfl
  have L2 : ∀ (fuel : Nat) (v_places : Nat → Int) (x1 : Int) (H : Heap) (locs : List Loc) (ls : Array Slot) (ex : (Nat → Int)), va_P D vwCl (wd_X5_orderByNumber cy a_v a_v_places a_v_facts v_boxes v_startsAt v_places) H → va_S A s.heap H locs → lv_has ls 2 [(0, .ref a_v), (1, .int (zI x1))] → f_Shop_orderByNumber_L2 fuel v_boxes v_places x1 = some ex → (∀ (H : Heap) (locs : List Loc) (ls : Array Slot), va_P D vwCl (wd_X5_orderByNumber cy a_v a_v_places a_v_facts v_boxes v_startsAt ex) H → va_S A s.heap H locs → lv_has ls 2 [] → W p l e { frames := 0, cells := 0, slots := 0, locals := 0 } s m args below meth c H locs 0 0 QQ (F0 m 23 ls [])) → W p l e { frames := 0, cells := 0, slots := 0, locals := 0 } s m args below meth c H locs 0 0 QQ (F0 m 2 ls []) := by
    intro fuel
    induction fuel with
    | zero => intro _ _ H locs ls ex hP hS hl h K; cases h
    | succ fuel ih =>
      intro v_places x1 H locs ls ex hP hS hl h K
      refine lv_iload_n hx hb dX5_orderByNumber_2 rfl (lv_at hl 1 rfl) ?_
      refine lv_aload_n hx hb dX5_orderByNumber_3 rfl (lv_at hl 0 rfl) ?_
      refine wi_get (v := .int (zI v_boxes)) hx hb hts iX5 hown hE hP 0 rfl rfl 2 (by decide) q0 rfl dX5_orderByNumber_4 ?_
      obtain ⟨hr1, h⟩ := chk_some h
      obtain ⟨hr2, h⟩ := chk_some h
      refine wi_ic_ge (tgt := 23) hx hb dX5_orderByNumber_7 (by decide) hr1 hr2 (fun c4 => ?_) (fun c4 => ?_)
      · have h := ite_t c4 h
        obtain rfl := Option.some.inj h
        exact K _ _ _ hP hS (lv_sub hl [] rfl)
      · have h := ite_f c4 h
        refine lv_aload_n hx hb dX5_orderByNumber_10 rfl (lv_at hl 0 rfl) ?_
        refine wi_get (v := .ref a_v_places) hx hb hts iX5 hown hE hP 0 rfl rfl 1 (by decide) q1 rfl dX5_orderByNumber_11 ?_
        refine lv_iload_n hx hb dX5_orderByNumber_14 rfl (lv_at hl 1 rfl) ?_
        refine lv_iload_n hx hb dX5_orderByNumber_15 rfl (lv_at hl 1 rfl) ?_
        obtain ⟨hk5, h⟩ := chk_some h
        refine wi_iast (w2 := (wd_X5_orderByNumber cy a_v a_v_places a_v_facts v_boxes v_startsAt (upZ v_places (x1).toNat x1))) hx hb hE hP hDD rfl hS 1 rfl (by decide) hk5 dX5_orderByNumber_16 rfl (fun H locs hP hS => ?_)
        refine wi_iinc (k := 1) (lv' := [(1, .int (zI (x1 + 1))), (0, .ref a_v)]) hx hb dX5_orderByNumber_17 hl rfl (by decide) rfl (fun ls hl => ?_)
        refine lv_goto (tgt := 2) hx hb dX5_orderByNumber_20 (by decide) ?_
        exact ih (upZ v_places (x1).toNat x1) (x1 + 1) _ _ _ _ hP hS (lv_sub hl [1, 0] rfl) h K
  refine wi_ic hx hb dX5_orderByNumber_0 ?_
  refine lv_istore_n (lv' := [(1, .int (zI 0)), (0, .ref a_v)]) hx hb dX5_orderByNumber_1 rfl hl (by decide) rfl (fun ls hl => ?_)
  obtain ⟨o6, hx7, h⟩ := bnd_some h
  refine L2 5000 v_places 0 _ _ _ _ hP hS (lv_sub hl [1, 0] rfl) hx7 ?_
  clear hx7
  intro H locs ls hP hS hl
  obtain rfl := Option.some.inj h
  exact KR _ _ _ _ hP hS dX5_orderByNumber_23
abbrev wd_X1_seekBelow (cy : Nat → ClassId) (a_v : Nat) (v_at : Int) (v_value : Int) : va_W := [(a_v, .inr (1, [.int (zI v_at), .int (zI v_value)]))]
set_option maxHeartbeats 4000000 in
set_option maxRecDepth 100000 in
theorem c_X1_seekBelow (l : Launch) (D : va_G) (cy : Nat → ClassId) (sa : Nat → Nat) (a_v : Nat) (v_at : Int) (v_value : Int) (x1 : Int) (o : Int × Int) (h : f_Least_seekBelow v_at v_value x1 = some o) : CtV l yX1_seekBelow wsX1_seekBelow ({ frames := 0, cells := 0, slots := 0, locals := 0 }) D cy sa [.ref a_v, .int (zI x1)] (wd_X1_seekBelow cy a_v v_at v_value) (wd_X1_seekBelow cy a_v o.1 o.2)  := by
  refine ct_V (cc := cX1_seekBelow) (maxL := 2) (plainFor_of_name (by decide)) rfl (Nat.le_of_ble_eq_true rfl) ?_
  intro p e s m below meth c A args QQ hx hb hml hown hts hE hDD hP KR ls hl
  have hl : lv_has ls 2 [(0, .ref a_v), (1, .int (zI x1))] := hl
  have hDD : DD A [a_v] := hDD
  have hS : va_S A s.heap s.heap [] := va_S.rf
  have q0 := hts (.fieldLink RX1 9 "HatHours$Least" "at" "I") (List.mem_of_getElem? (i := 1) rfl)
  have q1 := hts (.fieldLink RX1 15 "HatHours$Least" "value" "I") (List.mem_of_getElem? (i := 2) rfl)
  have iX1 : ∀ w ∈ u_ws RX1 TX1 2, w ∈ wsX1_seekBelow := in_slice 3 2 rfl
  refine lv_aload_n hx hb dX1_seekBelow_0 rfl (lv_at hl 0 rfl) ?_
  refine wi_bi hx hb dX1_seekBelow_1 (by decide) ?_
  refine wi_put (ty := .int) (v := .int (zI (-4))) (w2 := (wd_X1_seekBelow cy a_v (-4) v_value)) hx hb hts iX1 tyX1 tyX1_ok nmX1 hown hE hP hDD rfl hS 0 rfl rfl 0 (by decide) q0 rfl (by decide +kernel) rfl rfl (Nat.le_of_ble_eq_true rfl) dX1_seekBelow_3 rfl (fun H locs hP hS => ?_)
  refine lv_aload_n hx hb dX1_seekBelow_6 rfl (lv_at hl 0 rfl) ?_
  refine lv_iload_n hx hb dX1_seekBelow_7 rfl (lv_at hl 1 rfl) ?_
  refine wi_put (ty := .int) (v := .int (zI x1)) (w2 := (wd_X1_seekBelow cy a_v (-4) x1)) hx hb hts iX1 tyX1 tyX1_ok nmX1 hown hE hP hDD rfl hS 0 rfl rfl 1 (by decide) q1 rfl (by decide +kernel) rfl rfl (Nat.le_of_ble_eq_true rfl) dX1_seekBelow_8 rfl (fun H locs hP hS => ?_)
  obtain rfl := Option.some.inj h
  exact KR _ _ _ _ hP hS dX1_seekBelow_11
abbrev wd_X1_offer (cy : Nat → ClassId) (a_v : Nat) (v_at : Int) (v_value : Int) : va_W := [(a_v, .inr (1, [.int (zI v_at), .int (zI v_value)]))]
set_option maxHeartbeats 4000000 in
set_option maxRecDepth 100000 in
theorem c_X1_offer (l : Launch) (D : va_G) (cy : Nat → ClassId) (sa : Nat → Nat) (a_v : Nat) (v_at : Int) (v_value : Int) (x1 : Int) (x2 : Int) (o : Int × Int × Int) (h : f_Least_offer v_at v_value x1 x2 = some o) : CtI l yX1_offer wsX1_offer ({ frames := 0, cells := 0, slots := 0, locals := 0 }) D cy sa [.ref a_v, .int (zI x1), .int (zI x2)] (wd_X1_offer cy a_v v_at v_value) (wd_X1_offer cy a_v o.2.1 o.2.2) o.1 := by
  refine ct_Z (cc := cX1_offer) (maxL := 3) (plainFor_of_name (by decide)) rfl (Nat.le_of_ble_eq_true rfl) ?_
  intro p e s m below meth c A args QQ hx hb hml hown hts hE hDD hP KR ls hl
  have hl : lv_has ls 3 [(0, .ref a_v), (1, .int (zI x1)), (2, .int (zI x2))] := hl
  have hDD : DD A [a_v] := hDD
  have hS : va_S A s.heap s.heap [] := va_S.rf
  have q0 := hts (.fieldLink RX1 15 "HatHours$Least" "value" "I") (List.mem_of_getElem? (i := 1) rfl)
  have q1 := hts (.fieldLink RX1 9 "HatHours$Least" "at" "I") (List.mem_of_getElem? (i := 2) rfl)
  have iX1 : ∀ w ∈ u_ws RX1 TX1 2, w ∈ wsX1_offer := in_slice 3 2 rfl
  refine lv_iload_n hx hb dX1_offer_0 rfl (lv_at hl 2 rfl) ?_
  refine lv_aload_n hx hb dX1_offer_1 rfl (lv_at hl 0 rfl) ?_
  refine wi_get (v := .int (zI v_value)) hx hb hts iX1 hown hE hP 0 rfl rfl 1 (by decide) q0 rfl dX1_offer_2 ?_
  obtain ⟨hr1, h⟩ := chk_some h
  obtain ⟨hr2, h⟩ := chk_some h
  refine wi_ic_lt (tgt := 10) hx hb dX1_offer_5 (by decide) hr1 hr2 (fun c4 => ?_) (fun c4 => ?_)
  · have h := ite_t c4 h
    refine lv_aload_n hx hb dX1_offer_10 rfl (lv_at hl 0 rfl) ?_
    refine lv_iload_n hx hb dX1_offer_11 rfl (lv_at hl 1 rfl) ?_
    refine wi_put (ty := .int) (v := .int (zI x1)) (w2 := (wd_X1_offer cy a_v x1 v_value)) hx hb hts iX1 tyX1 tyX1_ok nmX1 hown hE hP hDD rfl hS 0 rfl rfl 0 (by decide) q1 rfl (by decide +kernel) rfl rfl (Nat.le_of_ble_eq_true rfl) dX1_offer_12 rfl (fun H locs hP hS => ?_)
    refine lv_aload_n hx hb dX1_offer_15 rfl (lv_at hl 0 rfl) ?_
    refine lv_iload_n hx hb dX1_offer_16 rfl (lv_at hl 2 rfl) ?_
    refine wi_put (ty := .int) (v := .int (zI x2)) (w2 := (wd_X1_offer cy a_v x1 x2)) hx hb hts iX1 tyX1 tyX1_ok nmX1 hown hE hP hDD rfl hS 0 rfl rfl 1 (by decide) q0 rfl (by decide +kernel) rfl rfl (Nat.le_of_ble_eq_true rfl) dX1_offer_17 rfl (fun H locs hP hS => ?_)
    refine wi_ic hx hb dX1_offer_20 ?_
    obtain rfl := Option.some.inj h
    exact KR _ _ _ _ (z01 (Or.inr rfl)) hP hS dX1_offer_21
  · have h := ite_f c4 h
    refine wi_ic hx hb dX1_offer_8 ?_
    obtain rfl := Option.some.inj h
    exact KR _ _ _ _ (z01 (Or.inl rfl)) hP hS dX1_offer_9
abbrev wd_X3_holdPlaces (cy : Nat → ClassId) (a_v : Nat) (a_v_bestPlaces : Nat) (a_v_draft : Nat) (a_v_draft_places : Nat) (a_v_least : Nat) (a_v_startsLeft : Nat) (a_v_draft_facts : Nat) (v_bestPlaces : Nat → Int) (v_draft_boxes : Int) (v_draft_startsAt : Int) (v_draft_places : Nat → Int) : va_W := [(a_v, .inr (3, [.ref a_v_draft, .ref a_v_least, .ref a_v_bestPlaces, .ref a_v_startsLeft])), (a_v_bestPlaces, .inl (cy 0, 5, .inl (fun j => zI (v_bestPlaces j)))), (a_v_draft, .inr (5, [.ref a_v_draft_facts, .ref a_v_draft_places, .int (zI v_draft_boxes), .int (zI v_draft_startsAt)])), (a_v_draft_places, .inl (cy 0, 5, .inl (fun j => zI (v_draft_places j))))]
set_option maxHeartbeats 4000000 in
set_option maxRecDepth 100000 in
theorem c_X3_holdPlaces (l : Launch) (D : va_G) (cy : Nat → ClassId) (sa : Nat → Nat) (a_v : Nat) (a_v_bestPlaces : Nat) (a_v_draft : Nat) (a_v_draft_places : Nat) (a_v_least : Nat) (a_v_startsLeft : Nat) (a_v_draft_facts : Nat) (v_bestPlaces : Nat → Int) (v_draft_boxes : Int) (v_draft_startsAt : Int) (v_draft_places : Nat → Int) (o : (Nat → Int)) (h : f_Search_holdPlaces v_bestPlaces v_draft_boxes v_draft_places = some o) : CtV l yX3_holdPlaces wsX3_holdPlaces ({ frames := 2, cells := 0, slots := 0, locals := 42 }) D cy sa [.ref a_v] (wd_X3_holdPlaces cy a_v a_v_bestPlaces a_v_draft a_v_draft_places a_v_least a_v_startsLeft a_v_draft_facts v_bestPlaces v_draft_boxes v_draft_startsAt v_draft_places) (wd_X3_holdPlaces cy a_v a_v_bestPlaces a_v_draft a_v_draft_places a_v_least a_v_startsLeft a_v_draft_facts o v_draft_boxes v_draft_startsAt v_draft_places)  := by
  refine ct_V (cc := cX3_holdPlaces) (maxL := 2) (plainFor_of_name (by decide)) rfl (Nat.le_of_ble_eq_true rfl) ?_
  intro p e s m below meth c A args QQ hx hb hml hown hts hE hDD hP KR ls hl
  have hl : lv_has ls 2 [(0, .ref a_v)] := hl
  have hDD : DD A [a_v, a_v_bestPlaces, a_v_draft, a_v_draft_places] := hDD
  have hS : va_S A s.heap s.heap [] := va_S.rf
  have q0 := hts (.fieldLink RX3 12 "HatHours$Search" "draft" "LHatHours$Shop;") (List.mem_of_getElem? (i := 1) rfl)
  have q1 := hts (.fieldLink RX3 25 "HatHours$Search" "bestPlaces" "[I") (List.mem_of_getElem? (i := 2) rfl)
  have iX3 : ∀ w ∈ u_ws RX3 TX3 4, w ∈ wsX3_holdPlaces := in_slice 18 4 rfl
  have L2 : ∀ (fuel : Nat) (v_bestPlaces : Nat → Int) (x1 : Int) (H : Heap) (locs : List Loc) (ls : Array Slot) (ex : (Nat → Int)), va_P D vwCl (wd_X3_holdPlaces cy a_v a_v_bestPlaces a_v_draft a_v_draft_places a_v_least a_v_startsLeft a_v_draft_facts v_bestPlaces v_draft_boxes v_draft_startsAt v_draft_places) H → va_S A s.heap H locs → lv_has ls 2 [(0, .ref a_v), (1, .int (zI x1))] → f_Search_holdPlaces_L2 fuel v_bestPlaces v_draft_boxes v_draft_places x1 = some ex → (∀ (H : Heap) (locs : List Loc) (ls : Array Slot), va_P D vwCl (wd_X3_holdPlaces cy a_v a_v_bestPlaces a_v_draft a_v_draft_places a_v_least a_v_startsLeft a_v_draft_facts ex v_draft_boxes v_draft_startsAt v_draft_places) H → va_S A s.heap H locs → lv_has ls 2 [] → W p l e { frames := 2, cells := 0, slots := 0, locals := 42 } s m args below meth c H locs 0 0 QQ (F0 m 42 ls [])) → W p l e { frames := 2, cells := 0, slots := 0, locals := 42 } s m args below meth c H locs 0 0 QQ (F0 m 2 ls []) := by
    intro fuel
    induction fuel with
    | zero => intro _ _ H locs ls ex hP hS hl h K; cases h
    | succ fuel ih =>
      intro v_bestPlaces x1 H locs ls ex hP hS hl h K
      refine lv_iload_n hx hb dX3_holdPlaces_2 rfl (lv_at hl 1 rfl) ?_
      refine lv_aload_n hx hb dX3_holdPlaces_3 rfl (lv_at hl 0 rfl) ?_
      refine wi_get (v := .ref a_v_draft) hx hb hts iX3 hown hE hP 0 rfl rfl 0 (by decide) q0 rfl dX3_holdPlaces_4 ?_
      obtain ⟨o1, hc2, h⟩ := bnd_some h
      refine cV_i (rest := [.int (zI x1)]) (w2 := (wd_X3_holdPlaces cy a_v a_v_bestPlaces a_v_draft a_v_draft_places a_v_least a_v_startsLeft a_v_draft_facts v_bestPlaces v_draft_boxes v_draft_startsAt v_draft_places)) ⟨hx, hb, hml, hown, hts⟩ (c_X5_size l D cy sa a_v_draft a_v_draft_facts a_v_draft_places v_draft_boxes v_draft_startsAt o1 hc2) (cwV 0 hts gX3_holdPlaces_X5_size rfl rfl rfl (by decide +kernel) ⟨Nat.le_of_ble_eq_true rfl, Nat.le_of_ble_eq_true rfl⟩) rfl rfl rfl hE hP hDD rfl hS [2] rfl rfl rfl rfl hl.1 (Nat.le_of_ble_eq_true rfl) ⟨Nat.zero_le _, Nat.zero_le _⟩ rfl dX3_holdPlaces_7 rfl (fun H locs hP hS => ?_)
      obtain ⟨hr3, h⟩ := chk_some h
      obtain ⟨hr4, h⟩ := chk_some h
      refine wi_ic_ge (tgt := 42) hx hb dX3_holdPlaces_10 (by decide) hr3 hr4 (fun c6 => ?_) (fun c6 => ?_)
      · have h := ite_t c6 h
        obtain rfl := Option.some.inj h
        exact K _ _ _ hP hS (lv_sub hl [] rfl)
      · have h := ite_f c6 h
        refine lv_iload_n hx hb dX3_holdPlaces_13 rfl (lv_at hl 1 rfl) ?_
        refine lv_aload_n hx hb dX3_holdPlaces_14 rfl (lv_at hl 0 rfl) ?_
        refine wi_get (v := .ref a_v_bestPlaces) hx hb hts iX3 hown hE hP 0 rfl rfl 2 (by decide) q1 rfl dX3_holdPlaces_15 ?_
        refine wi_alen (n := 5) hx hb hE hP 1 0 rfl rfl rfl dX3_holdPlaces_18 ?_
        refine wi_ic_ge (tgt := 42) hx hb dX3_holdPlaces_19 (by decide) hr3 (by decide) (fun c8 => ?_) (fun c8 => ?_)
        · have h := ite_t c8 h
          obtain rfl := Option.some.inj h
          exact K _ _ _ hP hS (lv_sub hl [] rfl)
        · have h := ite_f c8 h
          refine lv_aload_n hx hb dX3_holdPlaces_22 rfl (lv_at hl 0 rfl) ?_
          refine wi_get (v := .ref a_v_bestPlaces) hx hb hts iX3 hown hE hP 0 rfl rfl 2 (by decide) q1 rfl dX3_holdPlaces_23 ?_
          refine lv_iload_n hx hb dX3_holdPlaces_26 rfl (lv_at hl 1 rfl) ?_
          refine lv_aload_n hx hb dX3_holdPlaces_27 rfl (lv_at hl 0 rfl) ?_
          refine wi_get (v := .ref a_v_draft) hx hb hts iX3 hown hE hP 0 rfl rfl 0 (by decide) q0 rfl dX3_holdPlaces_28 ?_
          refine lv_iload_n hx hb dX3_holdPlaces_31 rfl (lv_at hl 1 rfl) ?_
          obtain ⟨o9, hc10, h⟩ := bnd_some h
          refine cV_i (rest := [.int (zI x1), .ref a_v_bestPlaces]) (w2 := (wd_X3_holdPlaces cy a_v a_v_bestPlaces a_v_draft a_v_draft_places a_v_least a_v_startsLeft a_v_draft_facts v_bestPlaces v_draft_boxes v_draft_startsAt v_draft_places)) ⟨hx, hb, hml, hown, hts⟩ (c_X5_boxIn l D cy sa a_v_draft a_v_draft_places a_v_draft_facts v_draft_boxes v_draft_startsAt v_draft_places x1 o9 hc10) (cwV 1 hts gX3_holdPlaces_X5_boxIn rfl rfl rfl (by decide +kernel) ⟨Nat.le_of_ble_eq_true rfl, Nat.le_of_ble_eq_true rfl⟩) rfl rfl rfl hE hP hDD rfl hS [2, 3] rfl rfl rfl rfl hl.1 (Nat.le_of_ble_eq_true rfl) ⟨Nat.zero_le _, Nat.zero_le _⟩ rfl dX3_holdPlaces_32 rfl (fun H locs hP hS => ?_)
          obtain ⟨hk11, h⟩ := chk_some h
          refine wi_iast (w2 := (wd_X3_holdPlaces cy a_v a_v_bestPlaces a_v_draft a_v_draft_places a_v_least a_v_startsLeft a_v_draft_facts (upZ v_bestPlaces (x1).toNat o9) v_draft_boxes v_draft_startsAt v_draft_places)) hx hb hE hP hDD rfl hS 1 rfl (by decide) hk11 dX3_holdPlaces_35 rfl (fun H locs hP hS => ?_)
          refine wi_iinc (k := 1) (lv' := [(1, .int (zI (x1 + 1))), (0, .ref a_v)]) hx hb dX3_holdPlaces_36 hl rfl (by decide) rfl (fun ls hl => ?_)
          refine lv_goto (tgt := 2) hx hb dX3_holdPlaces_39 (by decide) ?_
          exact ih (upZ v_bestPlaces (x1).toNat o9) (x1 + 1) _ _ _ _ hP hS (lv_sub hl [1, 0] rfl) h K
  refine wi_ic hx hb dX3_holdPlaces_0 ?_
  refine lv_istore_n (lv' := [(1, .int (zI 0)), (0, .ref a_v)]) hx hb dX3_holdPlaces_1 rfl hl (by decide) rfl (fun ls hl => ?_)
  obtain ⟨o12, hx13, h⟩ := bnd_some h
  refine L2 5000 v_bestPlaces 0 _ _ _ _ hP hS (lv_sub hl [1, 0] rfl) hx13 ?_
  clear hx13
  intro H locs ls hP hS hl
  obtain rfl := Option.some.inj h
  exact KR _ _ _ _ hP hS dX3_holdPlaces_42
abbrev wd_X5_nextOrder (cy : Nat → ClassId) (a_v : Nat) (a_v_places : Nat) (a_v_facts : Nat) (v_boxes : Int) (v_startsAt : Int) (v_places : Nat → Int) : va_W := [(a_v, .inr (5, [.ref a_v_facts, .ref a_v_places, .int (zI v_boxes), .int (zI v_startsAt)])), (a_v_places, .inl (cy 0, 5, .inl (fun j => zI (v_places j))))]
set_option maxHeartbeats 4000000 in
set_option maxRecDepth 100000 in
theorem c_X5_nextOrder (l : Launch) (D : va_G) (cy : Nat → ClassId) (sa : Nat → Nat) (a_v : Nat) (a_v_places : Nat) (a_v_facts : Nat) (v_boxes : Int) (v_startsAt : Int) (v_places : Nat → Int) (o : Int × (Nat → Int)) (h : f_Shop_nextOrder v_boxes v_places = some o) : CtI l yX5_nextOrder wsX5_nextOrder ({ frames := 2, cells := 0, slots := 0, locals := 44 }) D cy sa [.ref a_v] (wd_X5_nextOrder cy a_v a_v_places a_v_facts v_boxes v_startsAt v_places) (wd_X5_nextOrder cy a_v a_v_places a_v_facts v_boxes v_startsAt o.2) o.1 := by
  refine ct_Z (cc := cX5_nextOrder) (maxL := 5) (plainFor_of_name (by decide)) rfl (Nat.le_of_ble_eq_true rfl) ?_
  intro p e s m below meth c A args QQ hx hb hml hown hts hE hDD hP KR ls hl
  have hl : lv_has ls 5 [(0, .ref a_v)] := hl
  have hDD : DD A [a_v, a_v_places] := hDD
  have hS : va_S A s.heap s.heap [] := va_S.rf
  have q0 := hts (.fieldLink RX5 18 "HatHours$Shop" "boxes" "I") (List.mem_of_getElem? (i := 1) rfl)
  have q1 := hts (.fieldLink RX5 15 "HatHours$Shop" "places" "[I") (List.mem_of_getElem? (i := 2) rfl)
  have iX5 : ∀ w ∈ u_ws RX5 TX5 4, w ∈ wsX5_nextOrder := in_slice 12 4 rfl
  have L7 : ∀ (fuel : Nat) (v_places : Nat → Int) (x1 : Int) (H : Heap) (locs : List Loc) (ls : Array Slot) (ex : Int), va_P D vwCl (wd_X5_nextOrder cy a_v a_v_places a_v_facts v_boxes v_startsAt v_places) H → va_S A s.heap H locs → lv_has ls 5 [(0, .ref a_v), (1, .int (zI x1))] → f_Shop_nextOrder_L7 fuel v_places x1 = some ex → (∀ (H : Heap) (locs : List Loc) (ls : Array Slot), va_P D vwCl (wd_X5_nextOrder cy a_v a_v_places a_v_facts v_boxes v_startsAt v_places) H → va_S A s.heap H locs → lv_has ls 5 [(0, .ref a_v), (1, .int (zI ex))] → W p l e { frames := 2, cells := 0, slots := 0, locals := 44 } s m args below meth c H locs 0 0 QQ (F0 m 34 ls [])) → W p l e { frames := 2, cells := 0, slots := 0, locals := 44 } s m args below meth c H locs 0 0 QQ (F0 m 7 ls []) := by
    intro fuel
    induction fuel with
    | zero => intro _ _ H locs ls ex hP hS hl h K; cases h
    | succ fuel ih =>
      intro v_places x1 H locs ls ex hP hS hl h K
      refine lv_iload_n hx hb dX5_nextOrder_7 rfl (lv_at hl 1 rfl) ?_
      obtain ⟨hr1, h⟩ := chk_some h
      refine wi_if_lt (tgt := 34) hx hb dX5_nextOrder_8 (by decide) hr1 (fun c3 => ?_) (fun c3 => ?_)
      · have h := ite_t c3 h
        obtain rfl := Option.some.inj h
        exact K _ _ _ hP hS (lv_sub hl [0, 1] rfl)
      · have h := ite_f c3 h
        refine lv_aload_n hx hb dX5_nextOrder_11 rfl (lv_at hl 0 rfl) ?_
        refine wi_get (v := .ref a_v_places) hx hb hts iX5 hown hE hP 0 rfl rfl 1 (by decide) q1 rfl dX5_nextOrder_12 ?_
        refine lv_iload_n hx hb dX5_nextOrder_15 rfl (lv_at hl 1 rfl) ?_
        obtain ⟨hk4, h⟩ := chk_some h
        refine wi_iald hx hb hE hP 1 rfl (by decide) hk4 dX5_nextOrder_16 ?_
        refine lv_aload_n hx hb dX5_nextOrder_17 rfl (lv_at hl 0 rfl) ?_
        refine wi_get (v := .ref a_v_places) hx hb hts iX5 hown hE hP 0 rfl rfl 1 (by decide) q1 rfl dX5_nextOrder_18 ?_
        refine lv_iload_n hx hb dX5_nextOrder_21 rfl (lv_at hl 1 rfl) ?_
        refine wi_ic hx hb dX5_nextOrder_22 ?_
        refine wi_iadd hx hb dX5_nextOrder_23 ?_
        obtain ⟨hk5, h⟩ := chk_some h
        refine wi_iald hx hb hE hP 1 rfl (by decide) hk5 dX5_nextOrder_24 ?_
        obtain ⟨hr6, h⟩ := chk_some h
        obtain ⟨hr7, h⟩ := chk_some h
        refine wi_ic_le (tgt := 34) hx hb dX5_nextOrder_25 (by decide) hr6 hr7 (fun c9 => ?_) (fun c9 => ?_)
        · have h := ite_t c9 h
          obtain rfl := Option.some.inj h
          exact K _ _ _ hP hS (lv_sub hl [0, 1] rfl)
        · have h := ite_f c9 h
          refine wi_iinc (k := 1) (lv' := [(1, .int (zI (x1 + (-1)))), (0, .ref a_v)]) hx hb dX5_nextOrder_28 hl rfl (by decide) rfl (fun ls hl => ?_)
          refine lv_goto (tgt := 7) hx hb dX5_nextOrder_31 (by decide) ?_
          exact ih v_places (x1 + (-1)) _ _ _ _ hP hS (lv_sub hl [1, 0] rfl) h K
  have L47 : ∀ (fuel : Nat) (v_places : Nat → Int) (x1 : Int) (x2 : Int) (H : Heap) (locs : List Loc) (ls : Array Slot) (ex : Int), va_P D vwCl (wd_X5_nextOrder cy a_v a_v_places a_v_facts v_boxes v_startsAt v_places) H → va_S A s.heap H locs → lv_has ls 5 [(0, .ref a_v), (1, .int (zI x1)), (2, .int (zI x2))] → f_Shop_nextOrder_L47 fuel v_places x1 x2 = some ex → (∀ (H : Heap) (locs : List Loc) (ls : Array Slot), va_P D vwCl (wd_X5_nextOrder cy a_v a_v_places a_v_facts v_boxes v_startsAt v_places) H → va_S A s.heap H locs → lv_has ls 5 [(0, .ref a_v), (1, .int (zI x1)), (2, .int (zI ex))] → W p l e { frames := 2, cells := 0, slots := 0, locals := 44 } s m args below meth c H locs 0 0 QQ (F0 m 73 ls [])) → W p l e { frames := 2, cells := 0, slots := 0, locals := 44 } s m args below meth c H locs 0 0 QQ (F0 m 47 ls []) := by
    intro fuel
    induction fuel with
    | zero => intro _ _ _ H locs ls ex hP hS hl h K; cases h
    | succ fuel ih =>
      intro v_places x1 x2 H locs ls ex hP hS hl h K
      refine lv_iload_n hx hb dX5_nextOrder_47 rfl (lv_at hl 2 rfl) ?_
      refine lv_iload_n hx hb dX5_nextOrder_48 rfl (lv_at hl 1 rfl) ?_
      obtain ⟨hr15, h⟩ := chk_some h
      obtain ⟨hr16, h⟩ := chk_some h
      refine wi_ic_le (tgt := 73) hx hb dX5_nextOrder_49 (by decide) hr15 hr16 (fun c18 => ?_) (fun c18 => ?_)
      · have h := ite_t c18 h
        obtain rfl := Option.some.inj h
        exact K _ _ _ hP hS (lv_sub hl [0, 1, 2] rfl)
      · have h := ite_f c18 h
        refine lv_aload_n hx hb dX5_nextOrder_52 rfl (lv_at hl 0 rfl) ?_
        refine wi_get (v := .ref a_v_places) hx hb hts iX5 hown hE hP 0 rfl rfl 1 (by decide) q1 rfl dX5_nextOrder_53 ?_
        refine lv_iload_n hx hb dX5_nextOrder_56 rfl (lv_at hl 2 rfl) ?_
        obtain ⟨hk19, h⟩ := chk_some h
        refine wi_iald hx hb hE hP 1 rfl (by decide) hk19 dX5_nextOrder_57 ?_
        refine lv_aload_n hx hb dX5_nextOrder_58 rfl (lv_at hl 0 rfl) ?_
        refine wi_get (v := .ref a_v_places) hx hb hts iX5 hown hE hP 0 rfl rfl 1 (by decide) q1 rfl dX5_nextOrder_59 ?_
        refine lv_iload_n hx hb dX5_nextOrder_62 rfl (lv_at hl 1 rfl) ?_
        obtain ⟨hk20, h⟩ := chk_some h
        refine wi_iald hx hb hE hP 1 rfl (by decide) hk20 dX5_nextOrder_63 ?_
        obtain ⟨hr21, h⟩ := chk_some h
        obtain ⟨hr22, h⟩ := chk_some h
        refine wi_ic_ge (tgt := 73) hx hb dX5_nextOrder_64 (by decide) hr21 hr22 (fun c24 => ?_) (fun c24 => ?_)
        · have h := ite_t c24 h
          obtain rfl := Option.some.inj h
          exact K _ _ _ hP hS (lv_sub hl [0, 1, 2] rfl)
        · have h := ite_f c24 h
          refine wi_iinc (k := 2) (lv' := [(2, .int (zI (x2 + (-1)))), (0, .ref a_v), (1, .int (zI x1))]) hx hb dX5_nextOrder_67 hl rfl (by decide) rfl (fun ls hl => ?_)
          refine lv_goto (tgt := 47) hx hb dX5_nextOrder_70 (by decide) ?_
          exact ih v_places x1 (x2 + (-1)) _ _ _ _ hP hS (lv_sub hl [1, 2, 0] rfl) h K
  have L91 : ∀ (fuel : Nat) (v_places : Nat → Int) (x3 : Int) (x4 : Int) (H : Heap) (locs : List Loc) (ls : Array Slot) (ex : (Nat → Int)), va_P D vwCl (wd_X5_nextOrder cy a_v a_v_places a_v_facts v_boxes v_startsAt v_places) H → va_S A s.heap H locs → lv_has ls 5 [(0, .ref a_v), (3, .int (zI x3)), (4, .int (zI x4))] → f_Shop_nextOrder_L91 fuel v_boxes v_places x3 x4 = some ex → (∀ (H : Heap) (locs : List Loc) (ls : Array Slot), va_P D vwCl (wd_X5_nextOrder cy a_v a_v_places a_v_facts v_boxes v_startsAt ex) H → va_S A s.heap H locs → lv_has ls 5 [] → W p l e { frames := 2, cells := 0, slots := 0, locals := 44 } s m args below meth c H locs 0 0 QQ (F0 m 113 ls [])) → W p l e { frames := 2, cells := 0, slots := 0, locals := 44 } s m args below meth c H locs 0 0 QQ (F0 m 91 ls []) := by
    intro fuel
    induction fuel with
    | zero => intro _ _ _ H locs ls ex hP hS hl h K; cases h
    | succ fuel ih =>
      intro v_places x3 x4 H locs ls ex hP hS hl h K
      refine lv_iload_n hx hb dX5_nextOrder_91 rfl (lv_at hl 1 rfl) ?_
      refine lv_iload hx hb dX5_nextOrder_92 (lv_at hl 2 rfl) ?_
      obtain ⟨hr29, h⟩ := chk_some h
      obtain ⟨hr30, h⟩ := chk_some h
      refine wi_ic_ge (tgt := 113) hx hb dX5_nextOrder_94 (by decide) hr29 hr30 (fun c32 => ?_) (fun c32 => ?_)
      · have h := ite_t c32 h
        obtain rfl := Option.some.inj h
        exact K _ _ _ hP hS (lv_sub hl [] rfl)
      · have h := ite_f c32 h
        refine lv_aload_n hx hb dX5_nextOrder_97 rfl (lv_at hl 0 rfl) ?_
        refine lv_iload_n hx hb dX5_nextOrder_98 rfl (lv_at hl 1 rfl) ?_
        refine lv_iload hx hb dX5_nextOrder_99 (lv_at hl 2 rfl) ?_
        obtain ⟨o33, hc34, h⟩ := bnd_some h
        refine cV_v (rest := []) (w2 := (wd_X5_nextOrder cy a_v a_v_places a_v_facts v_boxes v_startsAt o33)) ⟨hx, hb, hml, hown, hts⟩ (c_X5_exchange l D cy sa a_v a_v_places a_v_facts v_boxes v_startsAt v_places x3 x4 o33 hc34) (cwV 2 hts gX5_nextOrder_X5_exchange rfl rfl rfl (by decide +kernel) ⟨Nat.le_of_ble_eq_true rfl, Nat.le_of_ble_eq_true rfl⟩) rfl rfl rfl hE hP hDD rfl hS [0, 1] rfl rfl rfl rfl hl.1 (Nat.le_of_ble_eq_true rfl) ⟨Nat.zero_le _, Nat.zero_le _⟩ rfl dX5_nextOrder_101 rfl (fun H locs hP hS => ?_)
        refine wi_iinc (k := 1) (lv' := [(3, .int (zI (x3 + 1))), (0, .ref a_v), (4, .int (zI x4))]) hx hb dX5_nextOrder_104 hl rfl (by decide) rfl (fun ls hl => ?_)
        refine wi_iinc (k := 2) (lv' := [(4, .int (zI (x4 + (-1)))), (3, .int (zI (x3 + 1))), (0, .ref a_v)]) hx hb dX5_nextOrder_107 hl rfl (by decide) rfl (fun ls hl => ?_)
        refine lv_goto (tgt := 91) hx hb dX5_nextOrder_110 (by decide) ?_
        exact ih o33 (x3 + 1) (x4 + (-1)) _ _ _ _ hP hS (lv_sub hl [2, 1, 0] rfl) h K
  refine lv_aload_n hx hb dX5_nextOrder_0 rfl (lv_at hl 0 rfl) ?_
  refine wi_get (v := .int (zI v_boxes)) hx hb hts iX5 hown hE hP 0 rfl rfl 2 (by decide) q0 rfl dX5_nextOrder_1 ?_
  refine wi_ic hx hb dX5_nextOrder_4 ?_
  refine wi_isub hx hb dX5_nextOrder_5 ?_
  refine lv_istore_n (lv' := [(1, .int (zI (v_boxes - 2))), (0, .ref a_v)]) hx hb dX5_nextOrder_6 rfl hl (by decide) rfl (fun ls hl => ?_)
  obtain ⟨o10, hx11, h⟩ := bnd_some h
  refine L7 5000 v_places (v_boxes - 2) _ _ _ _ hP hS (lv_sub hl [1, 0] rfl) hx11 ?_
  clear hx11
  intro H locs ls hP hS hl
  refine lv_iload_n hx hb dX5_nextOrder_34 rfl (lv_at hl 1 rfl) ?_
  obtain ⟨hr12, h⟩ := chk_some h
  refine wi_if_ge (tgt := 40) hx hb dX5_nextOrder_35 (by decide) hr12 (fun c14 => ?_) (fun c14 => ?_)
  · have h := ite_t c14 h
    refine lv_aload_n hx hb dX5_nextOrder_40 rfl (lv_at hl 0 rfl) ?_
    refine wi_get (v := .int (zI v_boxes)) hx hb hts iX5 hown hE hP 0 rfl rfl 2 (by decide) q0 rfl dX5_nextOrder_41 ?_
    refine wi_ic hx hb dX5_nextOrder_44 ?_
    refine wi_isub hx hb dX5_nextOrder_45 ?_
    refine lv_istore_n (lv' := [(2, .int (zI (v_boxes - 1))), (0, .ref a_v), (1, .int (zI o10))]) hx hb dX5_nextOrder_46 rfl hl (by decide) rfl (fun ls hl => ?_)
    obtain ⟨o25, hx26, h⟩ := bnd_some h
    refine L47 5000 v_places o10 (v_boxes - 1) _ _ _ _ hP hS (lv_sub hl [1, 2, 0] rfl) hx26 ?_
    clear hx26
    intro H locs ls hP hS hl
    refine lv_aload_n hx hb dX5_nextOrder_73 rfl (lv_at hl 0 rfl) ?_
    refine lv_iload_n hx hb dX5_nextOrder_74 rfl (lv_at hl 1 rfl) ?_
    refine lv_iload_n hx hb dX5_nextOrder_75 rfl (lv_at hl 2 rfl) ?_
    obtain ⟨o27, hc28, h⟩ := bnd_some h
    refine cV_v (rest := []) (w2 := (wd_X5_nextOrder cy a_v a_v_places a_v_facts v_boxes v_startsAt o27)) ⟨hx, hb, hml, hown, hts⟩ (c_X5_exchange l D cy sa a_v a_v_places a_v_facts v_boxes v_startsAt v_places o10 o25 o27 hc28) (cwV 2 hts gX5_nextOrder_X5_exchange rfl rfl rfl (by decide +kernel) ⟨Nat.le_of_ble_eq_true rfl, Nat.le_of_ble_eq_true rfl⟩) rfl rfl rfl hE hP hDD rfl hS [0, 1] rfl rfl rfl rfl hl.1 (Nat.le_of_ble_eq_true rfl) ⟨Nat.zero_le _, Nat.zero_le _⟩ rfl dX5_nextOrder_76 rfl (fun H locs hP hS => ?_)
    refine lv_iload_n hx hb dX5_nextOrder_79 rfl (lv_at hl 1 rfl) ?_
    refine wi_ic hx hb dX5_nextOrder_80 ?_
    refine wi_iadd hx hb dX5_nextOrder_81 ?_
    refine lv_istore_n (lv' := [(3, .int (zI (o10 + 1))), (0, .ref a_v), (1, .int (zI o10)), (2, .int (zI o25))]) hx hb dX5_nextOrder_82 rfl hl (by decide) rfl (fun ls hl => ?_)
    refine lv_aload_n hx hb dX5_nextOrder_83 rfl (lv_at hl 1 rfl) ?_
    refine wi_get (v := .int (zI v_boxes)) hx hb hts iX5 hown hE hP 0 rfl rfl 2 (by decide) q0 rfl dX5_nextOrder_84 ?_
    refine wi_ic hx hb dX5_nextOrder_87 ?_
    refine wi_isub hx hb dX5_nextOrder_88 ?_
    refine lv_istore (lv' := [(4, .int (zI (v_boxes - 1))), (3, .int (zI (o10 + 1))), (0, .ref a_v), (1, .int (zI o10)), (2, .int (zI o25))]) hx hb dX5_nextOrder_89 hl (by decide) rfl (fun ls hl => ?_)
    obtain ⟨o35, hx36, h⟩ := bnd_some h
    refine L91 5000 o27 (o10 + 1) (v_boxes - 1) _ _ _ _ hP hS (lv_sub hl [2, 1, 0] rfl) hx36 ?_
    clear hx36
    intro H locs ls hP hS hl
    refine wi_ic hx hb dX5_nextOrder_113 ?_
    obtain rfl := Option.some.inj h
    exact KR _ _ _ _ (z01 (Or.inr rfl)) hP hS dX5_nextOrder_114
  · have h := ite_f c14 h
    refine wi_ic hx hb dX5_nextOrder_38 ?_
    obtain rfl := Option.some.inj h
    exact KR _ _ _ _ (z01 (Or.inl rfl)) hP hS dX5_nextOrder_39
abbrev wd_X3_bestOrder (cy : Nat → ClassId) (a_v : Nat) (a_v_bestPlaces : Nat) (a_v_draft : Nat) (a_v_draft_facts : Nat) (a_v_draft_places : Nat) (a_v_least : Nat) (a_u1 : Nat) (a_u1_facts : Nat) (a_u1_places : Nat) (a_v_startsLeft : Nat) (v_bestPlaces : Nat → Int) (v_draft_boxes : Int) (v_draft_startsAt : Int) (v_draft_facts : Nat → Int) (v_draft_places : Nat → Int) (v_least_at : Int) (v_least_value : Int) (u1_boxes : Int) (u1_startsAt : Int) (u1_facts : Nat → Int) (u1_places : Nat → Int) : va_W := [(a_v, .inr (3, [.ref a_v_draft, .ref a_v_least, .ref a_v_bestPlaces, .ref a_v_startsLeft])), (a_v_bestPlaces, .inl (cy 0, 5, .inl (fun j => zI (v_bestPlaces j)))), (a_v_draft, .inr (5, [.ref a_v_draft_facts, .ref a_v_draft_places, .int (zI v_draft_boxes), .int (zI v_draft_startsAt)])), (a_v_draft_facts, .inl (cy 0, 30, .inl (fun j => zI (v_draft_facts j)))), (a_v_draft_places, .inl (cy 0, 5, .inl (fun j => zI (v_draft_places j)))), (a_v_least, .inr (1, [.int (zI v_least_at), .int (zI v_least_value)])), (a_u1, .inr (5, [.ref a_u1_facts, .ref a_u1_places, .int (zI u1_boxes), .int (zI u1_startsAt)])), (a_u1_facts, .inl (cy 0, 30, .inl (fun j => zI (u1_facts j)))), (a_u1_places, .inl (cy 0, 5, .inl (fun j => zI (u1_places j))))]
set_option maxHeartbeats 4000000 in
set_option maxRecDepth 100000 in
theorem c_X3_bestOrder (l : Launch) (D : va_G) (cy : Nat → ClassId) (sa : Nat → Nat) (a_v : Nat) (a_v_bestPlaces : Nat) (a_v_draft : Nat) (a_v_draft_facts : Nat) (a_v_draft_places : Nat) (a_v_least : Nat) (a_u1 : Nat) (a_u1_facts : Nat) (a_u1_places : Nat) (a_v_startsLeft : Nat) (v_bestPlaces : Nat → Int) (v_draft_boxes : Int) (v_draft_startsAt : Int) (v_draft_facts : Nat → Int) (v_draft_places : Nat → Int) (v_least_at : Int) (v_least_value : Int) (u1_boxes : Int) (u1_startsAt : Int) (u1_facts : Nat → Int) (u1_places : Nat → Int) (o : (Nat → Int) × Int × Int × (Nat → Int) × (Nat → Int) × Int × Int) (h : f_Search_bestOrder v_bestPlaces v_draft_boxes v_draft_startsAt v_draft_facts v_draft_places v_least_at v_least_value u1_boxes u1_startsAt u1_facts u1_places = some o) : CtV l yX3_bestOrder wsX3_bestOrder ({ frames := 3, cells := 0, slots := 0, locals := 81 }) D cy sa [.ref a_v, .ref a_u1] (wd_X3_bestOrder cy a_v a_v_bestPlaces a_v_draft a_v_draft_facts a_v_draft_places a_v_least a_u1 a_u1_facts a_u1_places a_v_startsLeft v_bestPlaces v_draft_boxes v_draft_startsAt v_draft_facts v_draft_places v_least_at v_least_value u1_boxes u1_startsAt u1_facts u1_places) (wd_X3_bestOrder cy a_v a_v_bestPlaces a_v_draft a_v_draft_facts a_v_draft_places a_v_least a_u1 a_u1_facts a_u1_places a_v_startsLeft o.1 o.2.1 o.2.2.1 o.2.2.2.1 o.2.2.2.2.1 o.2.2.2.2.2.1 o.2.2.2.2.2.2 u1_boxes u1_startsAt u1_facts u1_places)  := by
  refine ct_V (cc := cX3_bestOrder) (maxL := 4) (plainFor_of_name (by decide)) rfl (Nat.le_of_ble_eq_true rfl) ?_
  intro p e s m below meth c A args QQ hx hb hml hown hts hE hDD hP KR ls hl
  have hl : lv_has ls 4 [(0, .ref a_v), (1, .ref a_u1)] := hl
  have hDD : DD A [a_v, a_v_bestPlaces, a_v_draft, a_v_draft_facts, a_v_draft_places, a_v_least, a_u1, a_u1_facts, a_u1_places] := hDD
  have hS : va_S A s.heap s.heap [] := va_S.rf
  have q0 := hts (.fieldLink RX3 12 "HatHours$Search" "draft" "LHatHours$Shop;") (List.mem_of_getElem? (i := 1) rfl)
  have q1 := hts (.fieldLink RX3 21 "HatHours$Search" "least" "LHatHours$Least;") (List.mem_of_getElem? (i := 2) rfl)
  have q2 := hts (.constant RX3 46 (1000000)) (List.mem_of_getElem? (i := 3) rfl)
  have iX3 : ∀ w ∈ u_ws RX3 TX3 4, w ∈ wsX3_bestOrder := in_slice 78 4 rfl
  have L28 : ∀ (fuel : Nat) (v_bestPlaces : Nat → Int) (v_draft_boxes : Int) (v_draft_startsAt : Int) (v_draft_facts : Nat → Int) (v_draft_places : Nat → Int) (v_least_at : Int) (v_least_value : Int) (x2 : Int) (x3 : Int) (H : Heap) (locs : List Loc) (ls : Array Slot) (ex : (Nat → Int) × (Nat → Int) × Int × Int), va_P D vwCl (wd_X3_bestOrder cy a_v a_v_bestPlaces a_v_draft a_v_draft_facts a_v_draft_places a_v_least a_u1 a_u1_facts a_u1_places a_v_startsLeft v_bestPlaces v_draft_boxes v_draft_startsAt v_draft_facts v_draft_places v_least_at v_least_value u1_boxes u1_startsAt u1_facts u1_places) H → va_S A s.heap H locs → lv_has ls 4 [(0, .ref a_v), (2, .int (zI x2)), (3, .int (zI x3))] → f_Search_bestOrder_L28 fuel v_bestPlaces v_draft_boxes v_draft_startsAt v_draft_facts v_draft_places v_least_at v_least_value x2 x3 = some ex → (∀ (H : Heap) (locs : List Loc) (ls : Array Slot), va_P D vwCl (wd_X3_bestOrder cy a_v a_v_bestPlaces a_v_draft a_v_draft_facts a_v_draft_places a_v_least a_u1 a_u1_facts a_u1_places a_v_startsLeft ex.1 v_draft_boxes v_draft_startsAt v_draft_facts ex.2.1 ex.2.2.1 ex.2.2.2 u1_boxes u1_startsAt u1_facts u1_places) H → va_S A s.heap H locs → lv_has ls 4 [] → W p l e { frames := 3, cells := 0, slots := 0, locals := 81 } s m args below meth c H locs 0 0 QQ (F0 m 74 ls [])) → W p l e { frames := 3, cells := 0, slots := 0, locals := 81 } s m args below meth c H locs 0 0 QQ (F0 m 28 ls []) := by
    intro fuel
    induction fuel with
    | zero => intro _ _ _ _ _ _ _ _ _ H locs ls ex hP hS hl h K; cases h
    | succ fuel ih =>
      intro v_bestPlaces v_draft_boxes v_draft_startsAt v_draft_facts v_draft_places v_least_at v_least_value x2 x3 H locs ls ex hP hS hl h K
      refine lv_iload_n hx hb dX3_bestOrder_28 rfl (lv_at hl 2 rfl) ?_
      refine wi_bi hx hb dX3_bestOrder_29 (by decide) ?_
      obtain ⟨hr7, h⟩ := chk_some h
      refine wi_ic_ge (tgt := 74) hx hb dX3_bestOrder_31 (by decide) hr7 (by decide) (fun c9 => ?_) (fun c9 => ?_)
      · have h := ite_t c9 h
        obtain rfl := Option.some.inj h
        exact K _ _ _ hP hS (lv_sub hl [] rfl)
      · have h := ite_f c9 h
        refine lv_iload_n hx hb dX3_bestOrder_34 rfl (lv_at hl 1 rfl) ?_
        obtain ⟨hr10, h⟩ := chk_some h
        refine wi_if_eq (tgt := 74) hx hb dX3_bestOrder_35 (by decide) hr10 (fun c12 => ?_) (fun c12 => ?_)
        · have h := ite_t c12 h
          obtain rfl := Option.some.inj h
          exact K _ _ _ hP hS (lv_sub hl [] rfl)
        · have h := ite_f c12 h
          refine lv_aload_n hx hb dX3_bestOrder_38 rfl (lv_at hl 0 rfl) ?_
          refine wi_get (v := .ref a_v_least) hx hb hts iX3 hown hE hP 0 rfl rfl 1 (by decide) q1 rfl dX3_bestOrder_39 ?_
          refine lv_iload_n hx hb dX3_bestOrder_42 rfl (lv_at hl 2 rfl) ?_
          refine lv_aload_n hx hb dX3_bestOrder_43 rfl (lv_at hl 0 rfl) ?_
          refine wi_get (v := .ref a_v_draft) hx hb hts iX3 hown hE hP 0 rfl rfl 0 (by decide) q0 rfl dX3_bestOrder_44 ?_
          obtain ⟨o13, hc14, h⟩ := bnd_some h
          refine cV_i (rest := [.int (zI x3), .ref a_v_least]) (w2 := (wd_X3_bestOrder cy a_v a_v_bestPlaces a_v_draft a_v_draft_facts a_v_draft_places a_v_least a_u1 a_u1_facts a_u1_places a_v_startsLeft v_bestPlaces v_draft_boxes v_draft_startsAt v_draft_facts v_draft_places v_least_at v_least_value u1_boxes u1_startsAt u1_facts u1_places)) ⟨hx, hb, hml, hown, hts⟩ (c_X5_wrongOfAll l D cy sa a_v_draft a_v_draft_facts a_v_draft_places v_draft_boxes v_draft_startsAt v_draft_facts v_draft_places o13 hc14) (cwV 0 hts gX3_bestOrder_X5_wrongOfAll rfl rfl rfl (by decide +kernel) ⟨Nat.le_of_ble_eq_true rfl, Nat.le_of_ble_eq_true rfl⟩) rfl rfl rfl hE hP hDD rfl hS [2, 3, 4] rfl rfl rfl rfl hl.1 (Nat.le_of_ble_eq_true rfl) ⟨Nat.zero_le _, Nat.zero_le _⟩ rfl dX3_bestOrder_47 rfl (fun H locs hP hS => ?_)
          obtain ⟨o15, hc16, h⟩ := bnd_some h
          refine cV_i (rest := []) (w2 := (wd_X3_bestOrder cy a_v a_v_bestPlaces a_v_draft a_v_draft_facts a_v_draft_places a_v_least a_u1 a_u1_facts a_u1_places a_v_startsLeft v_bestPlaces v_draft_boxes v_draft_startsAt v_draft_facts v_draft_places o15.2.1 o15.2.2 u1_boxes u1_startsAt u1_facts u1_places)) ⟨hx, hb, hml, hown, hts⟩ (c_X1_offer l D cy sa a_v_least v_least_at v_least_value x3 o13 o15 hc16) (cwV 2 hts gX3_bestOrder_X1_offer rfl rfl rfl (by decide +kernel) ⟨Nat.le_of_ble_eq_true rfl, Nat.le_of_ble_eq_true rfl⟩) rfl rfl rfl hE hP hDD rfl hS [5] rfl rfl rfl rfl hl.1 (Nat.le_of_ble_eq_true rfl) ⟨Nat.zero_le _, Nat.zero_le _⟩ rfl dX3_bestOrder_50 rfl (fun H locs hP hS => ?_)
          obtain ⟨hr17, h⟩ := chk_some h
          obtain ⟨o18, hx19, h⟩ := bnd_some h
          have J20 : ∀ (H : Heap) (locs : List Loc) (ls : Array Slot), va_P D vwCl (wd_X3_bestOrder cy a_v a_v_bestPlaces a_v_draft a_v_draft_facts a_v_draft_places a_v_least a_u1 a_u1_facts a_u1_places a_v_startsLeft o18 v_draft_boxes v_draft_startsAt v_draft_facts v_draft_places o15.2.1 o15.2.2 u1_boxes u1_startsAt u1_facts u1_places) H → va_S A s.heap H locs → lv_has ls 4 [(0, .ref a_v), (3, .int (zI x3))] → W p l e { frames := 3, cells := 0, slots := 0, locals := 81 } s m args below meth c H locs 0 0 QQ (F0 m 60 ls []) := by
            intro H locs ls hP hS hl
            refine lv_aload_n hx hb dX3_bestOrder_60 rfl (lv_at hl 0 rfl) ?_
            refine wi_get (v := .ref a_v_draft) hx hb hts iX3 hown hE hP 0 rfl rfl 0 (by decide) q0 rfl dX3_bestOrder_61 ?_
            obtain ⟨o21, hc22, h⟩ := bnd_some h
            refine cV_i (rest := []) (w2 := (wd_X3_bestOrder cy a_v a_v_bestPlaces a_v_draft a_v_draft_facts a_v_draft_places a_v_least a_u1 a_u1_facts a_u1_places a_v_startsLeft o18 v_draft_boxes v_draft_startsAt v_draft_facts o21.2 o15.2.1 o15.2.2 u1_boxes u1_startsAt u1_facts u1_places)) ⟨hx, hb, hml, hown, hts⟩ (c_X5_nextOrder l D cy sa a_v_draft a_v_draft_places a_v_draft_facts v_draft_boxes v_draft_startsAt v_draft_places o21 hc22) (cwV 0 hts gX3_bestOrder_X5_nextOrder rfl rfl rfl (by decide +kernel) ⟨Nat.le_of_ble_eq_true rfl, Nat.le_of_ble_eq_true rfl⟩) rfl rfl rfl hE hP hDD rfl hS [2, 4] rfl rfl rfl rfl hl.1 (Nat.le_of_ble_eq_true rfl) ⟨Nat.zero_le _, Nat.zero_le _⟩ rfl dX3_bestOrder_64 rfl (fun H locs hP hS => ?_)
            refine lv_istore_n (lv' := [(2, .int (zI o21.1)), (0, .ref a_v), (3, .int (zI x3))]) hx hb dX3_bestOrder_67 rfl hl (by decide) rfl (fun ls hl => ?_)
            refine wi_iinc (k := 2) (lv' := [(3, .int (zI (x3 + 1))), (2, .int (zI o21.1)), (0, .ref a_v)]) hx hb dX3_bestOrder_68 hl rfl (by decide) rfl (fun ls hl => ?_)
            refine lv_goto (tgt := 28) hx hb dX3_bestOrder_71 (by decide) ?_
            exact ih o18 v_draft_boxes v_draft_startsAt v_draft_facts o21.2 o15.2.1 o15.2.2 o21.1 (x3 + 1) _ _ _ _ hP hS (lv_sub hl [2, 1, 0] rfl) h K
          clear h
          have h := hx19
          clear hx19
          refine wi_if_eq (tgt := 60) hx hb dX3_bestOrder_53 (by decide) hr17 (fun c23 => ?_) (fun c23 => ?_)
          · have h := ite_t c23 h
            obtain rfl := Option.some.inj h
            exact J20 _ _ _ hP hS (lv_sub hl [0, 2] rfl)
          · have h := ite_f c23 h
            refine lv_aload_n hx hb dX3_bestOrder_56 rfl (lv_at hl 0 rfl) ?_
            obtain ⟨o24, hc25, h⟩ := bnd_some h
            refine cV_v (rest := []) (w2 := (wd_X3_bestOrder cy a_v a_v_bestPlaces a_v_draft a_v_draft_facts a_v_draft_places a_v_least a_u1 a_u1_facts a_u1_places a_v_startsLeft o24 v_draft_boxes v_draft_startsAt v_draft_facts v_draft_places o15.2.1 o15.2.2 u1_boxes u1_startsAt u1_facts u1_places)) ⟨hx, hb, hml, hown, hts⟩ (c_X3_holdPlaces l D cy sa a_v a_v_bestPlaces a_v_draft a_v_draft_places a_v_least a_v_startsLeft a_v_draft_facts v_bestPlaces v_draft_boxes v_draft_startsAt v_draft_places o24 hc25) (cwV 0 hts gX3_bestOrder_X3_holdPlaces rfl rfl rfl (by decide +kernel) ⟨Nat.le_of_ble_eq_true rfl, Nat.le_of_ble_eq_true rfl⟩) rfl rfl rfl hE hP hDD rfl hS [0, 1, 2, 4] rfl rfl rfl rfl hl.1 (Nat.le_of_ble_eq_true rfl) ⟨Nat.zero_le _, Nat.zero_le _⟩ rfl dX3_bestOrder_57 rfl (fun H locs hP hS => ?_)
            obtain rfl := Option.some.inj h
            exact J20 _ _ _ hP hS (lv_sub hl [0, 2] rfl)
  refine lv_aload_n hx hb dX3_bestOrder_0 rfl (lv_at hl 0 rfl) ?_
  refine wi_get (v := .ref a_v_draft) hx hb hts iX3 hown hE hP 0 rfl rfl 0 (by decide) q0 rfl dX3_bestOrder_1 ?_
  refine lv_aload_n hx hb dX3_bestOrder_4 rfl (lv_at hl 1 rfl) ?_
  obtain ⟨o1, hc2, h⟩ := bnd_some h
  refine cV_v (rest := []) (w2 := (wd_X3_bestOrder cy a_v a_v_bestPlaces a_v_draft a_v_draft_facts a_v_draft_places a_v_least a_u1 a_u1_facts a_u1_places a_v_startsLeft v_bestPlaces o1.1 o1.2.1 o1.2.2.1 o1.2.2.2 v_least_at v_least_value u1_boxes u1_startsAt u1_facts u1_places)) ⟨hx, hb, hml, hown, hts⟩ (c_X5_copyFrom l D cy sa a_v_draft a_v_draft_facts a_v_draft_places a_u1 a_u1_facts a_u1_places v_draft_boxes v_draft_startsAt v_draft_facts v_draft_places u1_boxes u1_startsAt u1_facts u1_places o1 hc2) (cwV 1 hts gX3_bestOrder_X5_copyFrom rfl rfl rfl (by decide +kernel) ⟨Nat.le_of_ble_eq_true rfl, Nat.le_of_ble_eq_true rfl⟩) rfl rfl rfl hE hP hDD rfl hS [2, 3, 4, 6, 7, 8] rfl rfl rfl rfl hl.1 (Nat.le_of_ble_eq_true rfl) ⟨Nat.zero_le _, Nat.zero_le _⟩ rfl dX3_bestOrder_5 rfl (fun H locs hP hS => ?_)
  refine lv_aload_n hx hb dX3_bestOrder_8 rfl (lv_at hl 0 rfl) ?_
  refine wi_get (v := .ref a_v_draft) hx hb hts iX3 hown hE hP 0 rfl rfl 0 (by decide) q0 rfl dX3_bestOrder_9 ?_
  obtain ⟨o3, hc4, h⟩ := bnd_some h
  refine cV_v (rest := []) (w2 := (wd_X3_bestOrder cy a_v a_v_bestPlaces a_v_draft a_v_draft_facts a_v_draft_places a_v_least a_u1 a_u1_facts a_u1_places a_v_startsLeft v_bestPlaces o1.1 o1.2.1 o1.2.2.1 o3 v_least_at v_least_value u1_boxes u1_startsAt u1_facts u1_places)) ⟨hx, hb, hml, hown, hts⟩ (c_X5_orderByNumber l D cy sa a_v_draft a_v_draft_places a_v_draft_facts o1.1 o1.2.1 o1.2.2.2 o3 hc4) (cwV 0 hts gX3_bestOrder_X5_orderByNumber rfl rfl rfl (by decide +kernel) ⟨Nat.le_of_ble_eq_true rfl, Nat.le_of_ble_eq_true rfl⟩) rfl rfl rfl hE hP hDD rfl hS [2, 4] rfl rfl rfl rfl hl.1 (Nat.le_of_ble_eq_true rfl) ⟨Nat.zero_le _, Nat.zero_le _⟩ rfl dX3_bestOrder_12 rfl (fun H locs hP hS => ?_)
  refine lv_aload_n hx hb dX3_bestOrder_15 rfl (lv_at hl 0 rfl) ?_
  refine wi_get (v := .ref a_v_least) hx hb hts iX3 hown hE hP 0 rfl rfl 1 (by decide) q1 rfl dX3_bestOrder_16 ?_
  refine wi_ldc (n := 1000000) hx hb hown q2 dX3_bestOrder_19 rfl ?_
  obtain ⟨o5, hc6, h⟩ := bnd_some h
  refine cV_v (rest := []) (w2 := (wd_X3_bestOrder cy a_v a_v_bestPlaces a_v_draft a_v_draft_facts a_v_draft_places a_v_least a_u1 a_u1_facts a_u1_places a_v_startsLeft v_bestPlaces o1.1 o1.2.1 o1.2.2.1 o3 o5.1 o5.2 u1_boxes u1_startsAt u1_facts u1_places)) ⟨hx, hb, hml, hown, hts⟩ (c_X1_seekBelow l D cy sa a_v_least v_least_at v_least_value 1000000 o5 hc6) (cwV 1 hts gX3_bestOrder_X1_seekBelow rfl rfl rfl (by decide +kernel) ⟨Nat.le_of_ble_eq_true rfl, Nat.le_of_ble_eq_true rfl⟩) rfl rfl rfl hE hP hDD rfl hS [5] rfl rfl rfl rfl hl.1 (Nat.le_of_ble_eq_true rfl) ⟨Nat.zero_le _, Nat.zero_le _⟩ rfl dX3_bestOrder_21 rfl (fun H locs hP hS => ?_)
  refine wi_ic hx hb dX3_bestOrder_24 ?_
  refine lv_istore_n (lv' := [(2, .int (zI 1)), (0, .ref a_v), (1, .ref a_u1)]) hx hb dX3_bestOrder_25 rfl hl (by decide) rfl (fun ls hl => ?_)
  refine wi_ic hx hb dX3_bestOrder_26 ?_
  refine lv_istore_n (lv' := [(3, .int (zI 0)), (2, .int (zI 1)), (0, .ref a_v), (1, .ref a_u1)]) hx hb dX3_bestOrder_27 rfl hl (by decide) rfl (fun ls hl => ?_)
  obtain ⟨o26, hx27, h⟩ := bnd_some h
  refine L28 5000 v_bestPlaces o1.1 o1.2.1 o1.2.2.1 o3 o5.1 o5.2 1 0 _ _ _ _ hP hS (lv_sub hl [2, 1, 0] rfl) hx27 ?_
  clear hx27
  intro H locs ls hP hS hl
  obtain rfl := Option.some.inj h
  exact KR _ _ _ _ hP hS dX3_bestOrder_74
abbrev wd_X1_at (cy : Nat → ClassId) (a_v : Nat) (v_at : Int) (v_value : Int) : va_W := [(a_v, .inr (1, [.int (zI v_at), .int (zI v_value)]))]
set_option maxHeartbeats 4000000 in
set_option maxRecDepth 100000 in
theorem c_X1_at (l : Launch) (D : va_G) (cy : Nat → ClassId) (sa : Nat → Nat) (a_v : Nat) (v_at : Int) (v_value : Int) (o : Int) (h : f_Least_at v_at = some o) : CtI l yX1_at wsX1_at ({ frames := 0, cells := 0, slots := 0, locals := 0 }) D cy sa [.ref a_v] (wd_X1_at cy a_v v_at v_value) (wd_X1_at cy a_v v_at v_value) o := by
  refine ct_I (cc := cX1_at) (maxL := 1) (plainFor_of_name (by decide)) rfl (Nat.le_of_ble_eq_true rfl) ?_
  intro p e s m below meth c A args QQ hx hb hml hown hts hE hDD hP KR ls hl
  have hl : lv_has ls 1 [(0, .ref a_v)] := hl
  have hDD : DD A [a_v] := hDD
  have hS : va_S A s.heap s.heap [] := va_S.rf
  have q0 := hts (.fieldLink RX1 9 "HatHours$Least" "at" "I") (List.mem_of_getElem? (i := 1) rfl)
  have iX1 : ∀ w ∈ u_ws RX1 TX1 2, w ∈ wsX1_at := in_slice 2 2 rfl
  refine lv_aload_n hx hb dX1_at_0 rfl (lv_at hl 0 rfl) ?_
  refine wi_get (v := .int (zI v_at)) hx hb hts iX1 hown hE hP 0 rfl rfl 0 (by decide) q0 rfl dX1_at_1 ?_
  obtain rfl := Option.some.inj h
  exact KR _ _ _ _ hP hS dX1_at_4
abbrev wd_X1_value (cy : Nat → ClassId) (a_v : Nat) (v_at : Int) (v_value : Int) : va_W := [(a_v, .inr (1, [.int (zI v_at), .int (zI v_value)]))]
set_option maxHeartbeats 4000000 in
set_option maxRecDepth 100000 in
theorem c_X1_value (l : Launch) (D : va_G) (cy : Nat → ClassId) (sa : Nat → Nat) (a_v : Nat) (v_at : Int) (v_value : Int) (o : Int) (h : f_Least_value v_at v_value = some o) : CtI l yX1_value wsX1_value ({ frames := 0, cells := 0, slots := 0, locals := 0 }) D cy sa [.ref a_v] (wd_X1_value cy a_v v_at v_value) (wd_X1_value cy a_v v_at v_value) o := by
  refine ct_I (cc := cX1_value) (maxL := 1) (plainFor_of_name (by decide)) rfl (Nat.le_of_ble_eq_true rfl) ?_
  intro p e s m below meth c A args QQ hx hb hml hown hts hE hDD hP KR ls hl
  have hl : lv_has ls 1 [(0, .ref a_v)] := hl
  have hDD : DD A [a_v] := hDD
  have hS : va_S A s.heap s.heap [] := va_S.rf
  have q0 := hts (.fieldLink RX1 9 "HatHours$Least" "at" "I") (List.mem_of_getElem? (i := 1) rfl)
  have q1 := hts (.fieldLink RX1 15 "HatHours$Least" "value" "I") (List.mem_of_getElem? (i := 2) rfl)
  have iX1 : ∀ w ∈ u_ws RX1 TX1 2, w ∈ wsX1_value := in_slice 3 2 rfl
  refine lv_aload_n hx hb dX1_value_0 rfl (lv_at hl 0 rfl) ?_
  refine wi_get (v := .int (zI v_at)) hx hb hts iX1 hown hE hP 0 rfl rfl 0 (by decide) q0 rfl dX1_value_1 ?_
  refine wi_bi hx hb dX1_value_4 (by decide) ?_
  obtain ⟨hr1, h⟩ := chk_some h
  refine wi_ic_ne (tgt := 14) hx hb dX1_value_6 (by decide) hr1 (by decide) (fun c3 => ?_) (fun c3 => ?_)
  · have h := ite_f c3 h
    refine lv_aload_n hx hb dX1_value_14 rfl (lv_at hl 0 rfl) ?_
    refine wi_get (v := .int (zI v_value)) hx hb hts iX1 hown hE hP 0 rfl rfl 1 (by decide) q1 rfl dX1_value_15 ?_
    obtain rfl := Option.some.inj h
    exact KR _ _ _ _ hP hS dX1_value_18
  · have h := ite_t c3 h
    refine wi_bi hx hb dX1_value_9 (by decide) ?_
    refine lv_goto (tgt := 18) hx hb dX1_value_11 (by decide) ?_
    obtain rfl := Option.some.inj h
    exact KR _ _ _ _ hP hS dX1_value_18
abbrev wd_X3_told (cy : Nat → ClassId) (a_v : Nat) (a_v_least : Nat) (a_v_draft : Nat) (a_v_bestPlaces : Nat) (a_v_startsLeft : Nat) (v_least_at : Int) (v_least_value : Int) : va_W := [(a_v, .inr (3, [.ref a_v_draft, .ref a_v_least, .ref a_v_bestPlaces, .ref a_v_startsLeft])), (a_v_least, .inr (1, [.int (zI v_least_at), .int (zI v_least_value)]))]
set_option maxHeartbeats 4000000 in
set_option maxRecDepth 100000 in
theorem c_X3_told (l : Launch) (D : va_G) (cy : Nat → ClassId) (sa : Nat → Nat) (a_v : Nat) (a_v_least : Nat) (a_v_draft : Nat) (a_v_bestPlaces : Nat) (a_v_startsLeft : Nat) (v_least_at : Int) (v_least_value : Int) (x1 : Int) (o : Int) (h : f_Search_told v_least_at v_least_value x1 = some o) : CtI l yX3_told wsX3_told ({ frames := 1, cells := 0, slots := 0, locals := 20 }) D cy sa [.ref a_v, .int (zI x1)] (wd_X3_told cy a_v a_v_least a_v_draft a_v_bestPlaces a_v_startsLeft v_least_at v_least_value) (wd_X3_told cy a_v a_v_least a_v_draft a_v_bestPlaces a_v_startsLeft v_least_at v_least_value) o := by
  refine ct_I (cc := cX3_told) (maxL := 2) (plainFor_of_name (by decide)) rfl (Nat.le_of_ble_eq_true rfl) ?_
  intro p e s m below meth c A args QQ hx hb hml hown hts hE hDD hP KR ls hl
  have hl : lv_has ls 2 [(0, .ref a_v), (1, .int (zI x1))] := hl
  have hDD : DD A [a_v, a_v_least] := hDD
  have hS : va_S A s.heap s.heap [] := va_S.rf
  have q0 := hts (.fieldLink RX3 21 "HatHours$Search" "least" "LHatHours$Least;") (List.mem_of_getElem? (i := 1) rfl)
  have iX3 : ∀ w ∈ u_ws RX3 TX3 4, w ∈ wsX3_told := in_slice 13 4 rfl
  refine lv_iload_n hx hb dX3_told_0 rfl (lv_at hl 1 rfl) ?_
  obtain ⟨hr1, h⟩ := chk_some h
  refine wi_if_ne (tgt := 14) hx hb dX3_told_1 (by decide) hr1 (fun c3 => ?_) (fun c3 => ?_)
  · have h := ite_f c3 h
    refine lv_aload_n hx hb dX3_told_14 rfl (lv_at hl 0 rfl) ?_
    refine wi_get (v := .ref a_v_least) hx hb hts iX3 hown hE hP 0 rfl rfl 1 (by decide) q0 rfl dX3_told_15 ?_
    obtain ⟨o4, hc5, h⟩ := bnd_some h
    refine cV_i (rest := []) (w2 := (wd_X3_told cy a_v a_v_least a_v_draft a_v_bestPlaces a_v_startsLeft v_least_at v_least_value)) ⟨hx, hb, hml, hown, hts⟩ (c_X1_value l D cy sa a_v_least v_least_at v_least_value o4 hc5) (cwV 0 hts gX3_told_X1_value rfl rfl rfl (by decide +kernel) ⟨Nat.le_of_ble_eq_true rfl, Nat.le_of_ble_eq_true rfl⟩) rfl rfl rfl hE hP hDD rfl hS [1] rfl rfl rfl rfl hl.1 (Nat.le_of_ble_eq_true rfl) ⟨Nat.zero_le _, Nat.zero_le _⟩ rfl dX3_told_18 rfl (fun H locs hP hS => ?_)
    obtain rfl := Option.some.inj h
    exact KR _ _ _ _ hP hS dX3_told_21
  · have h := ite_t c3 h
    refine lv_aload_n hx hb dX3_told_4 rfl (lv_at hl 0 rfl) ?_
    refine wi_get (v := .ref a_v_least) hx hb hts iX3 hown hE hP 0 rfl rfl 1 (by decide) q0 rfl dX3_told_5 ?_
    obtain ⟨o6, hc7, h⟩ := bnd_some h
    refine cV_i (rest := []) (w2 := (wd_X3_told cy a_v a_v_least a_v_draft a_v_bestPlaces a_v_startsLeft v_least_at v_least_value)) ⟨hx, hb, hml, hown, hts⟩ (c_X1_at l D cy sa a_v_least v_least_at v_least_value o6 hc7) (cwV 0 hts gX3_told_X1_at rfl rfl rfl (by decide +kernel) ⟨Nat.le_of_ble_eq_true rfl, Nat.le_of_ble_eq_true rfl⟩) rfl rfl rfl hE hP hDD rfl hS [1] rfl rfl rfl rfl hl.1 (Nat.le_of_ble_eq_true rfl) ⟨Nat.zero_le _, Nat.zero_le _⟩ rfl dX3_told_8 rfl (fun H locs hP hS => ?_)
    refine lv_goto (tgt := 21) hx hb dX3_told_11 (by decide) ?_
    obtain rfl := Option.some.inj h
    exact KR _ _ _ _ hP hS dX3_told_21
abbrev wd_X3_bestBoxIn (cy : Nat → ClassId) (a_v : Nat) (a_v_bestPlaces : Nat) (a_v_draft : Nat) (a_v_least : Nat) (a_v_startsLeft : Nat) (v_bestPlaces : Nat → Int) : va_W := [(a_v, .inr (3, [.ref a_v_draft, .ref a_v_least, .ref a_v_bestPlaces, .ref a_v_startsLeft])), (a_v_bestPlaces, .inl (cy 0, 5, .inl (fun j => zI (v_bestPlaces j))))]
set_option maxHeartbeats 4000000 in
set_option maxRecDepth 100000 in
theorem c_X3_bestBoxIn (l : Launch) (D : va_G) (cy : Nat → ClassId) (sa : Nat → Nat) (a_v : Nat) (a_v_bestPlaces : Nat) (a_v_draft : Nat) (a_v_least : Nat) (a_v_startsLeft : Nat) (v_bestPlaces : Nat → Int) (x1 : Int) (o : Int) (h : f_Search_bestBoxIn v_bestPlaces x1 = some o) : CtI l yX3_bestBoxIn wsX3_bestBoxIn ({ frames := 1, cells := 0, slots := 0, locals := 22 }) D cy sa [.ref a_v, .int (zI x1)] (wd_X3_bestBoxIn cy a_v a_v_bestPlaces a_v_draft a_v_least a_v_startsLeft v_bestPlaces) (wd_X3_bestBoxIn cy a_v a_v_bestPlaces a_v_draft a_v_least a_v_startsLeft v_bestPlaces) o := by
  refine ct_I (cc := cX3_bestBoxIn) (maxL := 2) (plainFor_of_name (by decide)) rfl (Nat.le_of_ble_eq_true rfl) ?_
  intro p e s m below meth c A args QQ hx hb hml hown hts hE hDD hP KR ls hl
  have hl : lv_has ls 2 [(0, .ref a_v), (1, .int (zI x1))] := hl
  have hDD : DD A [a_v, a_v_bestPlaces] := hDD
  have hS : va_S A s.heap s.heap [] := va_S.rf
  have q0 := hts (.fieldLink RX3 25 "HatHours$Search" "bestPlaces" "[I") (List.mem_of_getElem? (i := 1) rfl)
  have q1 := hts (.initialized RX9) (List.mem_of_getElem? (i := 3) rfl)
  have q2 := hts (.static yX9_within) (List.mem_of_getElem? (i := 2) rfl)
  have iX3 : ∀ w ∈ u_ws RX3 TX3 4, w ∈ wsX3_bestBoxIn := in_slice 5 4 rfl
  refine lv_iload_n hx hb dX3_bestBoxIn_0 rfl (lv_at hl 1 rfl) ?_
  refine wi_ic hx hb dX3_bestBoxIn_1 ?_
  refine lv_aload_n hx hb dX3_bestBoxIn_2 rfl (lv_at hl 0 rfl) ?_
  refine wi_get (v := .ref a_v_bestPlaces) hx hb hts iX3 hown hE hP 0 rfl rfl 2 (by decide) q0 rfl dX3_bestBoxIn_3 ?_
  refine wi_alen (n := 5) hx hb hE hP 1 0 rfl rfl rfl dX3_bestBoxIn_6 ?_
  refine wi_ic hx hb dX3_bestBoxIn_7 ?_
  refine wi_isub hx hb dX3_bestBoxIn_8 ?_
  obtain ⟨o1, hc2, h⟩ := bnd_some h
  refine cN_i (rest := []) (w2 := (wd_X3_bestBoxIn cy a_v a_v_bestPlaces a_v_draft a_v_least a_v_startsLeft v_bestPlaces)) ⟨hx, hb, hml, hown, hts⟩ (c_X9_within l D cy sa x1 0 (5 - 1) o1 hc2) ⟨va_cnB 3 hts gX3_bestBoxIn_X9_within_n72 rfl rfl rfl (hE.2.1.1 ("HatHours$Search", 72, ⟨"HatHours", "within", "(III)Z"⟩, "HatHours") (List.mem_of_getElem? (i := 16) rfl)) q1 (by decide +kernel) ⟨Nat.le_of_ble_eq_true rfl, Nat.le_of_ble_eq_true rfl⟩, q2, trivial⟩ hE hP hDD rfl hS [] rfl rfl rfl rfl hl.1 (Nat.le_of_ble_eq_true rfl) ⟨Nat.zero_le _, Nat.zero_le _⟩ rfl dX3_bestBoxIn_9 rfl (fun H locs hP hS => ?_)
  obtain ⟨hr3, h⟩ := chk_some h
  refine wi_if_eq (tgt := 24) hx hb dX3_bestBoxIn_12 (by decide) hr3 (fun c5 => ?_) (fun c5 => ?_)
  · have h := ite_t c5 h
    refine wi_bi hx hb dX3_bestBoxIn_24 (by decide) ?_
    obtain rfl := Option.some.inj h
    exact KR _ _ _ _ hP hS dX3_bestBoxIn_26
  · have h := ite_f c5 h
    refine lv_aload_n hx hb dX3_bestBoxIn_15 rfl (lv_at hl 0 rfl) ?_
    refine wi_get (v := .ref a_v_bestPlaces) hx hb hts iX3 hown hE hP 0 rfl rfl 2 (by decide) q0 rfl dX3_bestBoxIn_16 ?_
    refine lv_iload_n hx hb dX3_bestBoxIn_19 rfl (lv_at hl 1 rfl) ?_
    obtain ⟨hk6, h⟩ := chk_some h
    refine wi_iald hx hb hE hP 1 rfl (by decide) hk6 dX3_bestBoxIn_20 ?_
    refine lv_goto (tgt := 26) hx hb dX3_bestBoxIn_21 (by decide) ?_
    obtain rfl := Option.some.inj h
    exact KR _ _ _ _ hP hS dX3_bestBoxIn_26
abbrev wd_X3_bestStart (cy : Nat → ClassId) (a_v : Nat) (a_v_draft : Nat) (a_v_draft_facts : Nat) (a_v_draft_places : Nat) (a_v_least : Nat) (a_u1 : Nat) (a_u1_facts : Nat) (a_u1_places : Nat) (a_v_bestPlaces : Nat) (a_v_startsLeft : Nat) (v_draft_boxes : Int) (v_draft_startsAt : Int) (v_draft_facts : Nat → Int) (v_draft_places : Nat → Int) (v_least_at : Int) (v_least_value : Int) (u1_boxes : Int) (u1_startsAt : Int) (u1_facts : Nat → Int) (u1_places : Nat → Int) : va_W := [(a_v, .inr (3, [.ref a_v_draft, .ref a_v_least, .ref a_v_bestPlaces, .ref a_v_startsLeft])), (a_v_draft, .inr (5, [.ref a_v_draft_facts, .ref a_v_draft_places, .int (zI v_draft_boxes), .int (zI v_draft_startsAt)])), (a_v_draft_facts, .inl (cy 0, 30, .inl (fun j => zI (v_draft_facts j)))), (a_v_draft_places, .inl (cy 0, 5, .inl (fun j => zI (v_draft_places j)))), (a_v_least, .inr (1, [.int (zI v_least_at), .int (zI v_least_value)])), (a_u1, .inr (5, [.ref a_u1_facts, .ref a_u1_places, .int (zI u1_boxes), .int (zI u1_startsAt)])), (a_u1_facts, .inl (cy 0, 30, .inl (fun j => zI (u1_facts j)))), (a_u1_places, .inl (cy 0, 5, .inl (fun j => zI (u1_places j))))]
set_option maxHeartbeats 4000000 in
set_option maxRecDepth 100000 in
theorem c_X3_bestStart (l : Launch) (D : va_G) (cy : Nat → ClassId) (sa : Nat → Nat) (a_v : Nat) (a_v_draft : Nat) (a_v_draft_facts : Nat) (a_v_draft_places : Nat) (a_v_least : Nat) (a_u1 : Nat) (a_u1_facts : Nat) (a_u1_places : Nat) (a_v_bestPlaces : Nat) (a_v_startsLeft : Nat) (v_draft_boxes : Int) (v_draft_startsAt : Int) (v_draft_facts : Nat → Int) (v_draft_places : Nat → Int) (v_least_at : Int) (v_least_value : Int) (u1_boxes : Int) (u1_startsAt : Int) (u1_facts : Nat → Int) (u1_places : Nat → Int) (o : Int × Int × (Nat → Int) × (Nat → Int) × Int × Int) (h : f_Search_bestStart v_draft_boxes v_draft_startsAt v_draft_facts v_draft_places v_least_at v_least_value u1_boxes u1_startsAt u1_facts u1_places = some o) : CtV l yX3_bestStart wsX3_bestStart ({ frames := 3, cells := 0, slots := 0, locals := 81 }) D cy sa [.ref a_v, .ref a_u1] (wd_X3_bestStart cy a_v a_v_draft a_v_draft_facts a_v_draft_places a_v_least a_u1 a_u1_facts a_u1_places a_v_bestPlaces a_v_startsLeft v_draft_boxes v_draft_startsAt v_draft_facts v_draft_places v_least_at v_least_value u1_boxes u1_startsAt u1_facts u1_places) (wd_X3_bestStart cy a_v a_v_draft a_v_draft_facts a_v_draft_places a_v_least a_u1 a_u1_facts a_u1_places a_v_bestPlaces a_v_startsLeft o.1 o.2.1 o.2.2.1 o.2.2.2.1 o.2.2.2.2.1 o.2.2.2.2.2 u1_boxes u1_startsAt u1_facts u1_places)  := by
  refine ct_V (cc := cX3_bestStart) (maxL := 3) (plainFor_of_name (by decide)) rfl (Nat.le_of_ble_eq_true rfl) ?_
  intro p e s m below meth c A args QQ hx hb hml hown hts hE hDD hP KR ls hl
  have hl : lv_has ls 3 [(0, .ref a_v), (1, .ref a_u1)] := hl
  have hDD : DD A [a_v, a_v_draft, a_v_draft_facts, a_v_draft_places, a_v_least, a_u1, a_u1_facts, a_u1_places] := hDD
  have hS : va_S A s.heap s.heap [] := va_S.rf
  have q0 := hts (.fieldLink RX3 12 "HatHours$Search" "draft" "LHatHours$Shop;") (List.mem_of_getElem? (i := 1) rfl)
  have q1 := hts (.fieldLink RX3 21 "HatHours$Search" "least" "LHatHours$Least;") (List.mem_of_getElem? (i := 2) rfl)
  have q2 := hts (.constant RX3 46 (1000000)) (List.mem_of_getElem? (i := 3) rfl)
  have iX3 : ∀ w ∈ u_ws RX3 TX3 4, w ∈ wsX3_bestStart := in_slice 52 4 rfl
  have L19 : ∀ (fuel : Nat) (v_draft_boxes : Int) (v_draft_startsAt : Int) (v_draft_facts : Nat → Int) (v_draft_places : Nat → Int) (v_least_at : Int) (v_least_value : Int) (x2 : Int) (H : Heap) (locs : List Loc) (ls : Array Slot) (ex : Int × Int × Int), va_P D vwCl (wd_X3_bestStart cy a_v a_v_draft a_v_draft_facts a_v_draft_places a_v_least a_u1 a_u1_facts a_u1_places a_v_bestPlaces a_v_startsLeft v_draft_boxes v_draft_startsAt v_draft_facts v_draft_places v_least_at v_least_value u1_boxes u1_startsAt u1_facts u1_places) H → va_S A s.heap H locs → lv_has ls 3 [(0, .ref a_v), (2, .int (zI x2))] → f_Search_bestStart_L19 fuel v_draft_boxes v_draft_startsAt v_draft_facts v_draft_places v_least_at v_least_value x2 = some ex → (∀ (H : Heap) (locs : List Loc) (ls : Array Slot), va_P D vwCl (wd_X3_bestStart cy a_v a_v_draft a_v_draft_facts a_v_draft_places a_v_least a_u1 a_u1_facts a_u1_places a_v_bestPlaces a_v_startsLeft v_draft_boxes ex.1 v_draft_facts v_draft_places ex.2.1 ex.2.2 u1_boxes u1_startsAt u1_facts u1_places) H → va_S A s.heap H locs → lv_has ls 3 [] → W p l e { frames := 3, cells := 0, slots := 0, locals := 81 } s m args below meth c H locs 0 0 QQ (F0 m 55 ls [])) → W p l e { frames := 3, cells := 0, slots := 0, locals := 81 } s m args below meth c H locs 0 0 QQ (F0 m 19 ls []) := by
    intro fuel
    induction fuel with
    | zero => intro _ _ _ _ _ _ _ H locs ls ex hP hS hl h K; cases h
    | succ fuel ih =>
      intro v_draft_boxes v_draft_startsAt v_draft_facts v_draft_places v_least_at v_least_value x2 H locs ls ex hP hS hl h K
      refine lv_iload_n hx hb dX3_bestStart_19 rfl (lv_at hl 1 rfl) ?_
      refine wi_bi hx hb dX3_bestStart_20 (by decide) ?_
      obtain ⟨hr5, h⟩ := chk_some h
      refine wi_ic_ge (tgt := 55) hx hb dX3_bestStart_22 (by decide) hr5 (by decide) (fun c7 => ?_) (fun c7 => ?_)
      · have h := ite_t c7 h
        obtain rfl := Option.some.inj h
        exact K _ _ _ hP hS (lv_sub hl [] rfl)
      · have h := ite_f c7 h
        refine lv_aload_n hx hb dX3_bestStart_25 rfl (lv_at hl 0 rfl) ?_
        refine wi_get (v := .ref a_v_draft) hx hb hts iX3 hown hE hP 0 rfl rfl 0 (by decide) q0 rfl dX3_bestStart_26 ?_
        refine lv_iload_n hx hb dX3_bestStart_29 rfl (lv_at hl 1 rfl) ?_
        obtain ⟨o8, hc9, h⟩ := bnd_some h
        refine cV_v (rest := []) (w2 := (wd_X3_bestStart cy a_v a_v_draft a_v_draft_facts a_v_draft_places a_v_least a_u1 a_u1_facts a_u1_places a_v_bestPlaces a_v_startsLeft v_draft_boxes o8 v_draft_facts v_draft_places v_least_at v_least_value u1_boxes u1_startsAt u1_facts u1_places)) ⟨hx, hb, hml, hown, hts⟩ (c_X5_setStart l D cy sa a_v_draft a_v_draft_facts a_v_draft_places v_draft_boxes v_draft_startsAt x2 o8 hc9) (cwV 1 hts gX3_bestStart_X5_setStart rfl rfl rfl (by decide +kernel) ⟨Nat.le_of_ble_eq_true rfl, Nat.le_of_ble_eq_true rfl⟩) rfl rfl rfl hE hP hDD rfl hS [1] rfl rfl rfl rfl hl.1 (Nat.le_of_ble_eq_true rfl) ⟨Nat.zero_le _, Nat.zero_le _⟩ rfl dX3_bestStart_30 rfl (fun H locs hP hS => ?_)
        refine lv_aload_n hx hb dX3_bestStart_33 rfl (lv_at hl 0 rfl) ?_
        refine wi_get (v := .ref a_v_least) hx hb hts iX3 hown hE hP 0 rfl rfl 1 (by decide) q1 rfl dX3_bestStart_34 ?_
        refine lv_iload_n hx hb dX3_bestStart_37 rfl (lv_at hl 1 rfl) ?_
        refine lv_aload_n hx hb dX3_bestStart_38 rfl (lv_at hl 0 rfl) ?_
        refine wi_get (v := .ref a_v_draft) hx hb hts iX3 hown hE hP 0 rfl rfl 0 (by decide) q0 rfl dX3_bestStart_39 ?_
        obtain ⟨o10, hc11, h⟩ := bnd_some h
        refine cV_i (rest := [.int (zI x2), .ref a_v_least]) (w2 := (wd_X3_bestStart cy a_v a_v_draft a_v_draft_facts a_v_draft_places a_v_least a_u1 a_u1_facts a_u1_places a_v_bestPlaces a_v_startsLeft v_draft_boxes o8 v_draft_facts v_draft_places v_least_at v_least_value u1_boxes u1_startsAt u1_facts u1_places)) ⟨hx, hb, hml, hown, hts⟩ (c_X5_wrongOfAll l D cy sa a_v_draft a_v_draft_facts a_v_draft_places v_draft_boxes o8 v_draft_facts v_draft_places o10 hc11) (cwV 0 hts gX3_bestStart_X5_wrongOfAll rfl rfl rfl (by decide +kernel) ⟨Nat.le_of_ble_eq_true rfl, Nat.le_of_ble_eq_true rfl⟩) rfl rfl rfl hE hP hDD rfl hS [1, 2, 3] rfl rfl rfl rfl hl.1 (Nat.le_of_ble_eq_true rfl) ⟨Nat.zero_le _, Nat.zero_le _⟩ rfl dX3_bestStart_42 rfl (fun H locs hP hS => ?_)
        obtain ⟨o12, hc13, h⟩ := bnd_some h
        refine cV_i (rest := []) (w2 := (wd_X3_bestStart cy a_v a_v_draft a_v_draft_facts a_v_draft_places a_v_least a_u1 a_u1_facts a_u1_places a_v_bestPlaces a_v_startsLeft v_draft_boxes o8 v_draft_facts v_draft_places o12.2.1 o12.2.2 u1_boxes u1_startsAt u1_facts u1_places)) ⟨hx, hb, hml, hown, hts⟩ (c_X1_offer l D cy sa a_v_least v_least_at v_least_value x2 o10 o12 hc13) (cwV 2 hts gX3_bestStart_X1_offer rfl rfl rfl (by decide +kernel) ⟨Nat.le_of_ble_eq_true rfl, Nat.le_of_ble_eq_true rfl⟩) rfl rfl rfl hE hP hDD rfl hS [4] rfl rfl rfl rfl hl.1 (Nat.le_of_ble_eq_true rfl) ⟨Nat.zero_le _, Nat.zero_le _⟩ rfl dX3_bestStart_45 rfl (fun H locs hP hS => ?_)
        refine lv_pop hx hb dX3_bestStart_48 rfl ?_
        refine wi_iinc (k := 1) (lv' := [(2, .int (zI (x2 + 1))), (0, .ref a_v)]) hx hb dX3_bestStart_49 hl rfl (by decide) rfl (fun ls hl => ?_)
        refine lv_goto (tgt := 19) hx hb dX3_bestStart_52 (by decide) ?_
        exact ih v_draft_boxes o8 v_draft_facts v_draft_places o12.2.1 o12.2.2 (x2 + 1) _ _ _ _ hP hS (lv_sub hl [1, 0] rfl) h K
  refine lv_aload_n hx hb dX3_bestStart_0 rfl (lv_at hl 0 rfl) ?_
  refine wi_get (v := .ref a_v_draft) hx hb hts iX3 hown hE hP 0 rfl rfl 0 (by decide) q0 rfl dX3_bestStart_1 ?_
  refine lv_aload_n hx hb dX3_bestStart_4 rfl (lv_at hl 1 rfl) ?_
  obtain ⟨o1, hc2, h⟩ := bnd_some h
  refine cV_v (rest := []) (w2 := (wd_X3_bestStart cy a_v a_v_draft a_v_draft_facts a_v_draft_places a_v_least a_u1 a_u1_facts a_u1_places a_v_bestPlaces a_v_startsLeft o1.1 o1.2.1 o1.2.2.1 o1.2.2.2 v_least_at v_least_value u1_boxes u1_startsAt u1_facts u1_places)) ⟨hx, hb, hml, hown, hts⟩ (c_X5_copyFrom l D cy sa a_v_draft a_v_draft_facts a_v_draft_places a_u1 a_u1_facts a_u1_places v_draft_boxes v_draft_startsAt v_draft_facts v_draft_places u1_boxes u1_startsAt u1_facts u1_places o1 hc2) (cwV 1 hts gX3_bestStart_X5_copyFrom rfl rfl rfl (by decide +kernel) ⟨Nat.le_of_ble_eq_true rfl, Nat.le_of_ble_eq_true rfl⟩) rfl rfl rfl hE hP hDD rfl hS [1, 2, 3, 5, 6, 7] rfl rfl rfl rfl hl.1 (Nat.le_of_ble_eq_true rfl) ⟨Nat.zero_le _, Nat.zero_le _⟩ rfl dX3_bestStart_5 rfl (fun H locs hP hS => ?_)
  refine lv_aload_n hx hb dX3_bestStart_8 rfl (lv_at hl 0 rfl) ?_
  refine wi_get (v := .ref a_v_least) hx hb hts iX3 hown hE hP 0 rfl rfl 1 (by decide) q1 rfl dX3_bestStart_9 ?_
  refine wi_ldc (n := 1000000) hx hb hown q2 dX3_bestStart_12 rfl ?_
  obtain ⟨o3, hc4, h⟩ := bnd_some h
  refine cV_v (rest := []) (w2 := (wd_X3_bestStart cy a_v a_v_draft a_v_draft_facts a_v_draft_places a_v_least a_u1 a_u1_facts a_u1_places a_v_bestPlaces a_v_startsLeft o1.1 o1.2.1 o1.2.2.1 o1.2.2.2 o3.1 o3.2 u1_boxes u1_startsAt u1_facts u1_places)) ⟨hx, hb, hml, hown, hts⟩ (c_X1_seekBelow l D cy sa a_v_least v_least_at v_least_value 1000000 o3 hc4) (cwV 1 hts gX3_bestStart_X1_seekBelow rfl rfl rfl (by decide +kernel) ⟨Nat.le_of_ble_eq_true rfl, Nat.le_of_ble_eq_true rfl⟩) rfl rfl rfl hE hP hDD rfl hS [4] rfl rfl rfl rfl hl.1 (Nat.le_of_ble_eq_true rfl) ⟨Nat.zero_le _, Nat.zero_le _⟩ rfl dX3_bestStart_14 rfl (fun H locs hP hS => ?_)
  refine wi_ic hx hb dX3_bestStart_17 ?_
  refine lv_istore_n (lv' := [(2, .int (zI 0)), (0, .ref a_v), (1, .ref a_u1)]) hx hb dX3_bestStart_18 rfl hl (by decide) rfl (fun ls hl => ?_)
  obtain ⟨o14, hx15, h⟩ := bnd_some h
  refine L19 5000 o1.1 o1.2.1 o1.2.2.1 o1.2.2.2 o3.1 o3.2 0 _ _ _ _ hP hS (lv_sub hl [1, 0] rfl) hx15 ?_
  clear hx15
  intro H locs ls hP hS hl
  obtain rfl := Option.some.inj h
  exact KR _ _ _ _ hP hS dX3_bestStart_55
