abbrev wd_X2_ofWantedHour (cy : Nat → ClassId) (a_v : Nat) (a_v_ways : Nat) (a_u1 : Nat) (a_u1_facts : Nat) (a_u1_places : Nat) (v_upper : Int) (v_lower : Int) (v_ways : Nat → Int) (u1_boxes : Int) (u1_startsAt : Int) (u1_facts : Nat → Int) (u1_places : Nat → Int) : va_W := [(a_v, .inr (2, [.ref a_v_ways, .long (zL v_upper), .long (zL v_lower)])), (a_v_ways, .inl (cy 2, 6, .inr (.inl (fun j => zL (v_ways j))))), (a_u1, .inr (5, [.ref a_u1_facts, .ref a_u1_places, .int (zI u1_boxes), .int (zI u1_startsAt)])), (a_u1_facts, .inl (cy 0, 30, .inl (fun j => zI (u1_facts j)))), (a_u1_places, .inl (cy 0, 5, .inl (fun j => zI (u1_places j))))]
set_option maxHeartbeats 4000000 in
set_option maxRecDepth 100000 in
theorem c_X2_ofWantedHour (l : Launch) (D : va_G) (cy : Nat → ClassId) (sa : Nat → Nat) (a_v : Nat) (a_v_ways : Nat) (a_u1 : Nat) (a_u1_facts : Nat) (a_u1_places : Nat) (v_upper : Int) (v_lower : Int) (v_ways : Nat → Int) (u1_boxes : Int) (u1_startsAt : Int) (u1_facts : Nat → Int) (u1_places : Nat → Int) (x2 : Int) (x3 : Int) (o : Int × Int × (Nat → Int)) (h : f_Odds_ofWantedHour v_upper v_lower v_ways u1_boxes u1_startsAt u1_facts u1_places x2 x3 = some o) : CtV l yX2_ofWantedHour wsX2_ofWantedHour ({ frames := 2, cells := 0, slots := 0, locals := 46 }) D cy sa [.ref a_v, .ref a_u1, .int (zI x2), .int (zI x3)] (wd_X2_ofWantedHour cy a_v a_v_ways a_u1 a_u1_facts a_u1_places v_upper v_lower v_ways u1_boxes u1_startsAt u1_facts u1_places) (wd_X2_ofWantedHour cy a_v a_v_ways a_u1 a_u1_facts a_u1_places o.1 o.2.1 o.2.2 u1_boxes u1_startsAt u1_facts u1_places)  := by
  refine ct_V (cc := cX2_ofWantedHour) (maxL := 8) (plainFor_of_name (by decide)) rfl (Nat.le_of_ble_eq_true rfl) ?_
  intro p e s m below meth c A args QQ hx hb hml hown hts hE hDD hP KR ls hl
  have hl : lv_has ls 8 [(0, .ref a_v), (1, .ref a_u1), (2, .int (zI x2)), (3, .int (zI x3))] := hl
  have hDD : DD A [a_v, a_v_ways, a_u1, a_u1_facts, a_u1_places] := hDD
  have hS : va_S A s.heap s.heap [] := va_S.rf
  have q0 := hts (.fieldLink RX2 11 "HatHours$Odds" "ways" "[J") (List.mem_of_getElem? (i := 1) rfl)
  have q1 := hts (.fieldLink RX2 17 "HatHours$Odds" "upper" "J") (List.mem_of_getElem? (i := 2) rfl)
  have iX2 : ∀ w ∈ u_ws RX2 TX2 3, w ∈ wsX2_ofWantedHour := in_slice 36 3 rfl
  have L14 : ∀ (fuel : Nat) (v_upper : Int) (v_lower : Int) (v_ways : Nat → Int) (x2 : Int) (x3 : Int) (x4 : Int) (x5 : Int) (H : Heap) (locs : List Loc) (ls : Array Slot) (ex : Int × Int × (Nat → Int)), va_P D vwCl (wd_X2_ofWantedHour cy a_v a_v_ways a_u1 a_u1_facts a_u1_places v_upper v_lower v_ways u1_boxes u1_startsAt u1_facts u1_places) H → va_S A s.heap H locs → lv_has ls 8 [(0, .ref a_v), (1, .ref a_u1), (2, .int (zI x2)), (3, .int (zI x3)), (4, .int (zI x4)), (5, .int (zI x5))] → f_Odds_ofWantedHour_L14 fuel v_upper v_lower v_ways x3 x4 x5 = some ex → (∀ (H : Heap) (locs : List Loc) (ls : Array Slot), va_P D vwCl (wd_X2_ofWantedHour cy a_v a_v_ways a_u1 a_u1_facts a_u1_places ex.1 ex.2.1 ex.2.2 u1_boxes u1_startsAt u1_facts u1_places) H → va_S A s.heap H locs → lv_has ls 8 [(0, .ref a_v), (1, .ref a_u1), (2, .int (zI x2)), (4, .int (zI x4))] → W p l e { frames := 2, cells := 0, slots := 0, locals := 46 } s m args below meth c H locs 0 0 QQ (F0 m 32 ls [])) → W p l e { frames := 2, cells := 0, slots := 0, locals := 46 } s m args below meth c H locs 0 0 QQ (F0 m 14 ls []) := by
    intro fuel
    induction fuel with
    | zero => intro _ _ _ _ _ _ _ H locs ls ex hP hS hl h K; cases h
    | succ fuel ih =>
      intro v_upper v_lower v_ways x2 x3 x4 x5 H locs ls ex hP hS hl h K
      refine lv_iload hx hb dX2_ofWantedHour_14 (lv_at hl 5 rfl) ?_
      refine lv_iload hx hb dX2_ofWantedHour_16 (lv_at hl 4 rfl) ?_
      obtain ⟨hr5, h⟩ := chk_some h
      obtain ⟨hr6, h⟩ := chk_some h
      refine wi_ic_gt (tgt := 32) hx hb dX2_ofWantedHour_18 (by decide) hr5 hr6 (fun c8 => ?_) (fun c8 => ?_)
      · have h := ite_t c8 h
        obtain rfl := Option.some.inj h
        exact K _ _ _ hP hS (lv_sub hl [0, 1, 2, 4] rfl)
      · have h := ite_f c8 h
        refine lv_aload_n hx hb dX2_ofWantedHour_21 rfl (lv_at hl 0 rfl) ?_
        refine lv_iload_n hx hb dX2_ofWantedHour_22 rfl (lv_at hl 3 rfl) ?_
        obtain ⟨o9, hc10, h⟩ := bnd_some h
        refine cV_v (rest := []) (w2 := (wd_X2_ofWantedHour cy a_v a_v_ways a_u1 a_u1_facts a_u1_places o9.1 o9.2.1 o9.2.2 u1_boxes u1_startsAt u1_facts u1_places)) ⟨hx, hb, hml, hown, hts⟩ (c_X2_passBox l D cy sa a_v a_v_ways v_upper v_lower v_ways x3 o9 hc10) (cwV 1 hts gX2_ofWantedHour_X2_passBox rfl rfl rfl (by decide +kernel) ⟨Nat.le_of_ble_eq_true rfl, Nat.le_of_ble_eq_true rfl⟩) rfl rfl rfl hE hP hDD rfl hS [0, 1] rfl rfl rfl rfl hl.1 (Nat.le_of_ble_eq_true rfl) ⟨Nat.zero_le _, Nat.zero_le _⟩ rfl dX2_ofWantedHour_23 rfl (fun H locs hP hS => ?_)
        refine wi_iinc (k := 5) (lv' := [(5, .int (zI (x5 + 1))), (0, .ref a_v), (1, .ref a_u1), (2, .int (zI x2)), (3, .int (zI x3)), (4, .int (zI x4))]) hx hb dX2_ofWantedHour_26 hl rfl (by decide) rfl (fun ls hl => ?_)
        refine lv_goto (tgt := 14) hx hb dX2_ofWantedHour_29 (by decide) ?_
        exact ih o9.1 o9.2.1 o9.2.2 x2 x3 x4 (x5 + 1) _ _ _ _ hP hS (lv_sub hl [1, 2, 3, 4, 5, 0] rfl) h K
  have L51 : ∀ (fuel : Nat) (v_upper : Int) (v_lower : Int) (v_ways : Nat → Int) (x5 : Int) (x6 : Int) (x7 : Int) (H : Heap) (locs : List Loc) (ls : Array Slot) (ex : Int), va_P D vwCl (wd_X2_ofWantedHour cy a_v a_v_ways a_u1 a_u1_facts a_u1_places v_upper v_lower v_ways u1_boxes u1_startsAt u1_facts u1_places) H → va_S A s.heap H locs → lv_has ls 8 [(0, .ref a_v), (5, .int (zI x5)), (6, .int (zI x6)), (7, .int (zI x7))] → f_Odds_ofWantedHour_L51 fuel v_upper v_ways x5 x6 x7 = some ex → (∀ (H : Heap) (locs : List Loc) (ls : Array Slot), va_P D vwCl (wd_X2_ofWantedHour cy a_v a_v_ways a_u1 a_u1_facts a_u1_places ex v_lower v_ways u1_boxes u1_startsAt u1_facts u1_places) H → va_S A s.heap H locs → lv_has ls 8 [(0, .ref a_v)] → W p l e { frames := 2, cells := 0, slots := 0, locals := 46 } s m args below meth c H locs 0 0 QQ (F0 m 96 ls [])) → W p l e { frames := 2, cells := 0, slots := 0, locals := 46 } s m args below meth c H locs 0 0 QQ (F0 m 51 ls []) := by
    intro fuel
    induction fuel with
    | zero => intro _ _ _ _ _ _ H locs ls ex hP hS hl h K; cases h
    | succ fuel ih =>
      intro v_upper v_lower v_ways x5 x6 x7 H locs ls ex hP hS hl h K
      refine lv_iload hx hb dX2_ofWantedHour_51 (lv_at hl 3 rfl) ?_
      refine lv_aload_n hx hb dX2_ofWantedHour_53 rfl (lv_at hl 0 rfl) ?_
      refine wi_get (v := .ref a_v_ways) hx hb hts iX2 hown hE hP 0 rfl rfl 0 (by decide) q0 rfl dX2_ofWantedHour_54 ?_
      refine wi_alen (n := 6) hx hb hE hP 1 2 rfl rfl rfl dX2_ofWantedHour_57 ?_
      obtain ⟨hr17, h⟩ := chk_some h
      refine wi_ic_ge (tgt := 96) hx hb dX2_ofWantedHour_58 (by decide) hr17 (by decide) (fun c19 => ?_) (fun c19 => ?_)
      · have h := ite_t c19 h
        obtain rfl := Option.some.inj h
        exact K _ _ _ hP hS (lv_sub hl [0] rfl)
      · have h := ite_f c19 h
        refine lv_iload hx hb dX2_ofWantedHour_61 (lv_at hl 1 rfl) ?_
        refine lv_iload hx hb dX2_ofWantedHour_63 (lv_at hl 3 rfl) ?_
        refine wi_iadd hx hb dX2_ofWantedHour_65 ?_
        refine wi_bi hx hb dX2_ofWantedHour_66 (by decide) ?_
        obtain ⟨hk20, h⟩ := chk_some h
        refine wi_irem hx hb dX2_ofWantedHour_68 ⟨hk20, by decide⟩ ?_
        refine lv_iload hx hb dX2_ofWantedHour_69 (lv_at hl 2 rfl) ?_
        obtain ⟨hr21, h⟩ := chk_some h
        obtain ⟨hr22, h⟩ := chk_some h
        refine wi_ic_ne (tgt := 90) hx hb dX2_ofWantedHour_71 (by decide) hr21 hr22 (fun c24 => ?_) (fun c24 => ?_)
        · have h := ite_f c24 h
          refine wi_iinc (k := 3) (lv' := [(7, .int (zI (x7 + 1))), (0, .ref a_v), (5, .int (zI x5)), (6, .int (zI x6))]) hx hb dX2_ofWantedHour_90 hl rfl (by decide) rfl (fun ls hl => ?_)
          refine lv_goto (tgt := 51) hx hb dX2_ofWantedHour_93 (by decide) ?_
          exact ih v_upper v_lower v_ways x5 x6 (x7 + 1) _ _ _ _ hP hS (lv_sub hl [1, 2, 3, 0] rfl) h K
        · have h := ite_t c24 h
          refine lv_aload_n hx hb dX2_ofWantedHour_74 rfl (lv_at hl 0 rfl) ?_
          refine lv_dup hx hb dX2_ofWantedHour_75 rfl ?_
          refine wi_get (v := .long (zL v_upper)) hx hb hts iX2 hown hE hP 0 rfl rfl 1 (by decide) q1 rfl dX2_ofWantedHour_76 ?_
          refine lv_aload_n hx hb dX2_ofWantedHour_79 rfl (lv_at hl 0 rfl) ?_
          refine wi_get (v := .ref a_v_ways) hx hb hts iX2 hown hE hP 0 rfl rfl 0 (by decide) q0 rfl dX2_ofWantedHour_80 ?_
          refine lv_iload hx hb dX2_ofWantedHour_83 (lv_at hl 3 rfl) ?_
          obtain ⟨hk25, h⟩ := chk_some h
          refine wi_lald hx hb hE hP 1 rfl (by decide) hk25 dX2_ofWantedHour_85 ?_
          refine wi_ladd hx hb dX2_ofWantedHour_86 ?_
          refine wi_put (ty := .long) (v := .long (zL (v_upper + (v_ways (x7).toNat)))) (w2 := (wd_X2_ofWantedHour cy a_v a_v_ways a_u1 a_u1_facts a_u1_places (v_upper + (v_ways (x7).toNat)) v_lower v_ways u1_boxes u1_startsAt u1_facts u1_places)) hx hb hts iX2 tyX2 tyX2_ok nmX2 hown hE hP hDD rfl hS 0 rfl rfl 1 (by decide) q1 rfl (by decide +kernel) rfl rfl (Nat.le_of_ble_eq_true rfl) dX2_ofWantedHour_87 rfl (fun H locs hP hS => ?_)
          refine wi_iinc (k := 3) (lv' := [(7, .int (zI (x7 + 1))), (0, .ref a_v), (5, .int (zI x5)), (6, .int (zI x6))]) hx hb dX2_ofWantedHour_90 hl rfl (by decide) rfl (fun ls hl => ?_)
          refine lv_goto (tgt := 51) hx hb dX2_ofWantedHour_93 (by decide) ?_
          exact ih (v_upper + (v_ways (x7).toNat)) v_lower v_ways x5 x6 (x7 + 1) _ _ _ _ hP hS (lv_sub hl [1, 2, 3, 0] rfl) h K
  refine lv_aload_n hx hb dX2_ofWantedHour_0 rfl (lv_at hl 0 rfl) ?_
  obtain ⟨o1, hc2, h⟩ := bnd_some h
  refine cV_v (rest := []) (w2 := (wd_X2_ofWantedHour cy a_v a_v_ways a_u1 a_u1_facts a_u1_places o1.1 o1.2.1 o1.2.2 u1_boxes u1_startsAt u1_facts u1_places)) ⟨hx, hb, hml, hown, hts⟩ (c_X2_beginAnew l D cy sa a_v a_v_ways v_upper v_lower v_ways o1 hc2) (cwV 0 hts gX2_ofWantedHour_X2_beginAnew rfl rfl rfl (by decide +kernel) ⟨Nat.le_of_ble_eq_true rfl, Nat.le_of_ble_eq_true rfl⟩) rfl rfl rfl hE hP hDD rfl hS [0, 1] rfl rfl rfl rfl hl.1 (Nat.le_of_ble_eq_true rfl) ⟨Nat.zero_le _, Nat.zero_le _⟩ rfl dX2_ofWantedHour_1 rfl (fun H locs hP hS => ?_)
  refine lv_aload_n hx hb dX2_ofWantedHour_4 rfl (lv_at hl 1 rfl) ?_
  refine lv_iload_n hx hb dX2_ofWantedHour_5 rfl (lv_at hl 2 rfl) ?_
  obtain ⟨o3, hc4, h⟩ := bnd_some h
  refine cV_i (rest := []) (w2 := (wd_X2_ofWantedHour cy a_v a_v_ways a_u1 a_u1_facts a_u1_places o1.1 o1.2.1 o1.2.2 u1_boxes u1_startsAt u1_facts u1_places)) ⟨hx, hb, hml, hown, hts⟩ (c_X5_placeOf l D cy sa a_u1 a_u1_places a_u1_facts u1_boxes u1_startsAt u1_places x2 o3 hc4) (cwV 1 hts gX2_ofWantedHour_X5_placeOf rfl rfl rfl (by decide +kernel) ⟨Nat.le_of_ble_eq_true rfl, Nat.le_of_ble_eq_true rfl⟩) rfl rfl rfl hE hP hDD rfl hS [2, 4] rfl rfl rfl rfl hl.1 (Nat.le_of_ble_eq_true rfl) ⟨Nat.zero_le _, Nat.zero_le _⟩ rfl dX2_ofWantedHour_6 rfl (fun H locs hP hS => ?_)
  refine lv_istore (lv' := [(4, .int (zI o3)), (0, .ref a_v), (1, .ref a_u1), (2, .int (zI x2)), (3, .int (zI x3))]) hx hb dX2_ofWantedHour_9 hl (by decide) rfl (fun ls hl => ?_)
  refine wi_ic hx hb dX2_ofWantedHour_11 ?_
  refine lv_istore (lv' := [(5, .int (zI 0)), (4, .int (zI o3)), (0, .ref a_v), (1, .ref a_u1), (2, .int (zI x2)), (3, .int (zI x3))]) hx hb dX2_ofWantedHour_12 hl (by decide) rfl (fun ls hl => ?_)
  obtain ⟨o11, hx12, h⟩ := bnd_some h
  refine L14 5000 o1.1 o1.2.1 o1.2.2 x2 x3 o3 0 _ _ _ _ hP hS (lv_sub hl [2, 3, 4, 5, 1, 0] rfl) hx12 ?_
  clear hx12
  intro H locs ls hP hS hl
  refine lv_aload_n hx hb dX2_ofWantedHour_32 rfl (lv_at hl 1 rfl) ?_
  refine lv_iload hx hb dX2_ofWantedHour_33 (lv_at hl 3 rfl) ?_
  obtain ⟨o13, hc14, h⟩ := bnd_some h
  refine cV_i (rest := []) (w2 := (wd_X2_ofWantedHour cy a_v a_v_ways a_u1 a_u1_facts a_u1_places o11.1 o11.2.1 o11.2.2 u1_boxes u1_startsAt u1_facts u1_places)) ⟨hx, hb, hml, hown, hts⟩ (c_X5_doneIn l D cy sa a_u1 a_u1_facts a_u1_places u1_boxes u1_startsAt u1_facts u1_places o3 o13 hc14) (cwV 1 hts gX2_ofWantedHour_X5_doneIn rfl rfl rfl (by decide +kernel) ⟨Nat.le_of_ble_eq_true rfl, Nat.le_of_ble_eq_true rfl⟩) rfl rfl rfl hE hP hDD rfl hS [2, 3, 4] rfl rfl rfl rfl hl.1 (Nat.le_of_ble_eq_true rfl) ⟨Nat.zero_le _, Nat.zero_le _⟩ rfl dX2_ofWantedHour_35 rfl (fun H locs hP hS => ?_)
  refine lv_istore (lv' := [(5, .int (zI o13)), (0, .ref a_v), (1, .ref a_u1), (2, .int (zI x2)), (4, .int (zI o3))]) hx hb dX2_ofWantedHour_38 hl (by decide) rfl (fun ls hl => ?_)
  refine lv_aload_n hx hb dX2_ofWantedHour_40 rfl (lv_at hl 2 rfl) ?_
  refine lv_iload_n hx hb dX2_ofWantedHour_41 rfl (lv_at hl 3 rfl) ?_
  refine wi_ic hx hb dX2_ofWantedHour_42 ?_
  obtain ⟨o15, hc16, h⟩ := bnd_some h
  refine cV_i (rest := []) (w2 := (wd_X2_ofWantedHour cy a_v a_v_ways a_u1 a_u1_facts a_u1_places o11.1 o11.2.1 o11.2.2 u1_boxes u1_startsAt u1_facts u1_places)) ⟨hx, hb, hml, hown, hts⟩ (c_X5_fact l D cy sa a_u1 a_u1_facts a_u1_places u1_boxes u1_startsAt u1_facts x2 2 o15 hc16) (cwV 2 hts gX2_ofWantedHour_X5_fact rfl rfl rfl (by decide +kernel) ⟨Nat.le_of_ble_eq_true rfl, Nat.le_of_ble_eq_true rfl⟩) rfl rfl rfl hE hP hDD rfl hS [2, 3] rfl rfl rfl rfl hl.1 (Nat.le_of_ble_eq_true rfl) ⟨Nat.zero_le _, Nat.zero_le _⟩ rfl dX2_ofWantedHour_43 rfl (fun H locs hP hS => ?_)
  refine lv_istore (lv' := [(6, .int (zI o15)), (5, .int (zI o13)), (0, .ref a_v), (1, .ref a_u1), (2, .int (zI x2)), (4, .int (zI o3))]) hx hb dX2_ofWantedHour_46 hl (by decide) rfl (fun ls hl => ?_)
  refine wi_ic hx hb dX2_ofWantedHour_48 ?_
  refine lv_istore (lv' := [(7, .int (zI 0)), (6, .int (zI o15)), (5, .int (zI o13)), (0, .ref a_v), (1, .ref a_u1), (2, .int (zI x2)), (4, .int (zI o3))]) hx hb dX2_ofWantedHour_49 hl (by decide) rfl (fun ls hl => ?_)
  obtain ⟨o26, hx27, h⟩ := bnd_some h
  refine L51 5000 o11.1 o11.2.1 o11.2.2 o13 o15 0 _ _ _ _ hP hS (lv_sub hl [3, 2, 1, 0] rfl) hx27 ?_
  clear hx27
  intro H locs ls hP hS hl
  refine lv_aload_n hx hb dX2_ofWantedHour_96 rfl (lv_at hl 0 rfl) ?_
  obtain ⟨o28, hc29, h⟩ := bnd_some h
  refine cV_v (rest := []) (w2 := (wd_X2_ofWantedHour cy a_v a_v_ways a_u1 a_u1_facts a_u1_places o28.1 o28.2 o11.2.2 u1_boxes u1_startsAt u1_facts u1_places)) ⟨hx, hb, hml, hown, hts⟩ (c_X2_reduce l D cy sa a_v a_v_ways o26 o11.2.1 o28 hc29) (cwV 0 hts gX2_ofWantedHour_X2_reduce rfl rfl rfl (by decide +kernel) ⟨Nat.le_of_ble_eq_true rfl, Nat.le_of_ble_eq_true rfl⟩) rfl rfl rfl hE hP hDD rfl hS [0] rfl rfl rfl rfl hl.1 (Nat.le_of_ble_eq_true rfl) ⟨Nat.zero_le _, Nat.zero_le _⟩ rfl dX2_ofWantedHour_97 rfl (fun H locs hP hS => ?_)
  obtain rfl := Option.some.inj h
  exact KR _ _ _ _ hP hS dX2_ofWantedHour_100
abbrev wd_X2_told (cy : Nat → ClassId) (a_v : Nat) (a_v_ways : Nat) (v_upper : Int) (v_lower : Int) : va_W := [(a_v, .inr (2, [.ref a_v_ways, .long (zL v_upper), .long (zL v_lower)]))]
set_option maxHeartbeats 4000000 in
set_option maxRecDepth 100000 in
theorem c_X2_told (l : Launch) (D : va_G) (cy : Nat → ClassId) (sa : Nat → Nat) (a_v : Nat) (a_v_ways : Nat) (v_upper : Int) (v_lower : Int) (x1 : Int) (o : Int) (h : f_Odds_told v_upper v_lower x1 = some o) : CtL l yX2_told wsX2_told ({ frames := 0, cells := 0, slots := 0, locals := 0 }) D cy sa [.ref a_v, .int (zI x1)] (wd_X2_told cy a_v a_v_ways v_upper v_lower) (wd_X2_told cy a_v a_v_ways v_upper v_lower) o := by
  refine ct_L (cc := cX2_told) (maxL := 2) (plainFor_of_name (by decide)) rfl (Nat.le_of_ble_eq_true rfl) ?_
  intro p e s m below meth c A args QQ hx hb hml hown hts hE hDD hP KR ls hl
  have hl : lv_has ls 2 [(0, .ref a_v), (1, .int (zI x1))] := hl
  have hDD : DD A [a_v] := hDD
  have hS : va_S A s.heap s.heap [] := va_S.rf
  have q0 := hts (.fieldLink RX2 21 "HatHours$Odds" "lower" "J") (List.mem_of_getElem? (i := 2) rfl)
  have q1 := hts (.fieldLink RX2 17 "HatHours$Odds" "upper" "J") (List.mem_of_getElem? (i := 1) rfl)
  have iX2 : ∀ w ∈ u_ws RX2 TX2 3, w ∈ wsX2_told := in_slice 3 3 rfl
  refine lv_iload_n hx hb dX2_told_0 rfl (lv_at hl 1 rfl) ?_
  obtain ⟨hr1, h⟩ := chk_some h
  refine wi_if_ne (tgt := 11) hx hb dX2_told_1 (by decide) hr1 (fun c3 => ?_) (fun c3 => ?_)
  · have h := ite_f c3 h
    refine lv_aload_n hx hb dX2_told_11 rfl (lv_at hl 0 rfl) ?_
    refine wi_get (v := .long (zL v_lower)) hx hb hts iX2 hown hE hP 0 rfl rfl 2 (by decide) q0 rfl dX2_told_12 ?_
    obtain rfl := Option.some.inj h
    exact KR _ _ _ _ hP hS dX2_told_15
  · have h := ite_t c3 h
    refine lv_aload_n hx hb dX2_told_4 rfl (lv_at hl 0 rfl) ?_
    refine wi_get (v := .long (zL v_upper)) hx hb hts iX2 hown hE hP 0 rfl rfl 1 (by decide) q1 rfl dX2_told_5 ?_
    refine lv_goto (tgt := 15) hx hb dX2_told_8 (by decide) ?_
    obtain rfl := Option.some.inj h
    exact KR _ _ _ _ hP hS dX2_told_15
abbrev wd_X2_ofMeanWrong (cy : Nat → ClassId) (a_v : Nat) (a_v_ways : Nat) (a_u1 : Nat) (a_u1_facts : Nat) (a_u1_places : Nat) (v_upper : Int) (v_lower : Int) (v_ways : Nat → Int) (u1_boxes : Int) (u1_startsAt : Int) (u1_facts : Nat → Int) (u1_places : Nat → Int) : va_W := [(a_v, .inr (2, [.ref a_v_ways, .long (zL v_upper), .long (zL v_lower)])), (a_v_ways, .inl (cy 2, 6, .inr (.inl (fun j => zL (v_ways j))))), (a_u1, .inr (5, [.ref a_u1_facts, .ref a_u1_places, .int (zI u1_boxes), .int (zI u1_startsAt)])), (a_u1_facts, .inl (cy 0, 30, .inl (fun j => zI (u1_facts j)))), (a_u1_places, .inl (cy 0, 5, .inl (fun j => zI (u1_places j))))]
set_option maxHeartbeats 4000000 in
set_option maxRecDepth 100000 in
theorem c_X2_ofMeanWrong (l : Launch) (D : va_G) (cy : Nat → ClassId) (sa : Nat → Nat) (a_v : Nat) (a_v_ways : Nat) (a_u1 : Nat) (a_u1_facts : Nat) (a_u1_places : Nat) (v_upper : Int) (v_lower : Int) (v_ways : Nat → Int) (u1_boxes : Int) (u1_startsAt : Int) (u1_facts : Nat → Int) (u1_places : Nat → Int) (x2 : Int) (o : Int × Int × (Nat → Int)) (h : f_Odds_ofMeanWrong v_upper v_lower v_ways u1_boxes u1_startsAt u1_facts u1_places x2 = some o) : CtV l yX2_ofMeanWrong wsX2_ofMeanWrong ({ frames := 2, cells := 0, slots := 0, locals := 46 }) D cy sa [.ref a_v, .ref a_u1, .int (zI x2)] (wd_X2_ofMeanWrong cy a_v a_v_ways a_u1 a_u1_facts a_u1_places v_upper v_lower v_ways u1_boxes u1_startsAt u1_facts u1_places) (wd_X2_ofMeanWrong cy a_v a_v_ways a_u1 a_u1_facts a_u1_places o.1 o.2.1 o.2.2 u1_boxes u1_startsAt u1_facts u1_places)  := by
  refine ct_V (cc := cX2_ofMeanWrong) (maxL := 6) (plainFor_of_name (by decide)) rfl (Nat.le_of_ble_eq_true rfl) ?_
  intro p e s m below meth c A args QQ hx hb hml hown hts hE hDD hP KR ls hl
  have hl : lv_has ls 6 [(0, .ref a_v), (1, .ref a_u1), (2, .int (zI x2))] := hl
  have hDD : DD A [a_v, a_v_ways, a_u1, a_u1_facts, a_u1_places] := hDD
  have hS : va_S A s.heap s.heap [] := va_S.rf
  have q0 := hts (.fieldLink RX2 11 "HatHours$Odds" "ways" "[J") (List.mem_of_getElem? (i := 1) rfl)
  have q1 := hts (.fieldLink RX2 17 "HatHours$Odds" "upper" "J") (List.mem_of_getElem? (i := 2) rfl)
  have iX2 : ∀ w ∈ u_ws RX2 TX2 3, w ∈ wsX2_ofMeanWrong := in_slice 55 3 rfl
  have L29 : ∀ (fuel : Nat) (v_upper : Int) (v_lower : Int) (v_ways : Nat → Int) (x2 : Int) (x3 : Int) (x4 : Int) (x5 : Int) (H : Heap) (locs : List Loc) (ls : Array Slot) (ex : Int), va_P D vwCl (wd_X2_ofMeanWrong cy a_v a_v_ways a_u1 a_u1_facts a_u1_places v_upper v_lower v_ways u1_boxes u1_startsAt u1_facts u1_places) H → va_S A s.heap H locs → lv_has ls 6 [(0, .ref a_v), (1, .ref a_u1), (2, .int (zI x2)), (3, .int (zI x3)), (4, .int (zI x4)), (5, .int (zI x5))] → f_Odds_ofMeanWrong_L29 fuel v_upper v_ways u1_boxes u1_facts u1_places x3 x4 x5 = some ex → (∀ (H : Heap) (locs : List Loc) (ls : Array Slot), va_P D vwCl (wd_X2_ofMeanWrong cy a_v a_v_ways a_u1 a_u1_facts a_u1_places ex v_lower v_ways u1_boxes u1_startsAt u1_facts u1_places) H → va_S A s.heap H locs → lv_has ls 6 [(0, .ref a_v), (1, .ref a_u1), (2, .int (zI x2)), (3, .int (zI x3))] → W p l e { frames := 2, cells := 0, slots := 0, locals := 46 } s m args below meth c H locs 0 0 QQ (F0 m 77 ls [])) → W p l e { frames := 2, cells := 0, slots := 0, locals := 46 } s m args below meth c H locs 0 0 QQ (F0 m 29 ls []) := by
    intro fuel
    induction fuel with
    | zero => intro _ _ _ _ _ _ _ H locs ls ex hP hS hl h K; cases h
    | succ fuel ih =>
      intro v_upper v_lower v_ways x2 x3 x4 x5 H locs ls ex hP hS hl h K
      refine lv_iload hx hb dX2_ofMeanWrong_29 (lv_at hl 5 rfl) ?_
      refine lv_aload_n hx hb dX2_ofMeanWrong_31 rfl (lv_at hl 0 rfl) ?_
      refine wi_get (v := .ref a_v_ways) hx hb hts iX2 hown hE hP 0 rfl rfl 0 (by decide) q0 rfl dX2_ofMeanWrong_32 ?_
      refine wi_alen (n := 6) hx hb hE hP 1 2 rfl rfl rfl dX2_ofMeanWrong_35 ?_
      obtain ⟨hr13, h⟩ := chk_some h
      refine wi_ic_ge (tgt := 77) hx hb dX2_ofMeanWrong_36 (by decide) hr13 (by decide) (fun c15 => ?_) (fun c15 => ?_)
      · have h := ite_t c15 h
        obtain rfl := Option.some.inj h
        exact K _ _ _ hP hS (lv_sub hl [0, 1, 2, 3] rfl)
      · have h := ite_f c15 h
        refine lv_aload_n hx hb dX2_ofMeanWrong_39 rfl (lv_at hl 0 rfl) ?_
        refine lv_dup hx hb dX2_ofMeanWrong_40 rfl ?_
        refine wi_get (v := .long (zL v_upper)) hx hb hts iX2 hown hE hP 0 rfl rfl 1 (by decide) q1 rfl dX2_ofMeanWrong_41 ?_
        refine lv_aload_n hx hb dX2_ofMeanWrong_44 rfl (lv_at hl 0 rfl) ?_
        refine wi_get (v := .ref a_v_ways) hx hb hts iX2 hown hE hP 0 rfl rfl 0 (by decide) q0 rfl dX2_ofMeanWrong_45 ?_
        refine lv_iload hx hb dX2_ofMeanWrong_48 (lv_at hl 5 rfl) ?_
        obtain ⟨hk16, h⟩ := chk_some h
        refine wi_lald hx hb hE hP 1 rfl (by decide) hk16 dX2_ofMeanWrong_50 ?_
        refine lv_aload_n hx hb dX2_ofMeanWrong_51 rfl (lv_at hl 1 rfl) ?_
        refine lv_aload_n hx hb dX2_ofMeanWrong_52 rfl (lv_at hl 1 rfl) ?_
        refine lv_iload_n hx hb dX2_ofMeanWrong_53 rfl (lv_at hl 3 rfl) ?_
        obtain ⟨o17, hc18, h⟩ := bnd_some h
        refine cV_i (rest := [.ref a_u1, .long (zL (v_ways (x5).toNat)), .long (zL v_upper), .ref a_v]) (w2 := (wd_X2_ofMeanWrong cy a_v a_v_ways a_u1 a_u1_facts a_u1_places v_upper v_lower v_ways u1_boxes u1_startsAt u1_facts u1_places)) ⟨hx, hb, hml, hown, hts⟩ (c_X5_boxIn l D cy sa a_u1 a_u1_places a_u1_facts u1_boxes u1_startsAt u1_places x3 o17 hc18) (cwV 1 hts gX2_ofMeanWrong_X5_boxIn rfl rfl rfl (by decide +kernel) ⟨Nat.le_of_ble_eq_true rfl, Nat.le_of_ble_eq_true rfl⟩) rfl rfl rfl hE hP hDD rfl hS [2, 4] rfl rfl rfl rfl hl.1 (Nat.le_of_ble_eq_true rfl) ⟨Nat.zero_le _, Nat.zero_le _⟩ rfl dX2_ofMeanWrong_54 rfl (fun H locs hP hS => ?_)
        refine lv_iload hx hb dX2_ofMeanWrong_57 (lv_at hl 4 rfl) ?_
        refine lv_iload hx hb dX2_ofMeanWrong_59 (lv_at hl 5 rfl) ?_
        refine wi_iadd hx hb dX2_ofMeanWrong_61 ?_
        obtain ⟨o19, hc20, h⟩ := bnd_some h
        refine cV_i (rest := [.long (zL (v_ways (x5).toNat)), .long (zL v_upper), .ref a_v]) (w2 := (wd_X2_ofMeanWrong cy a_v a_v_ways a_u1 a_u1_facts a_u1_places v_upper v_lower v_ways u1_boxes u1_startsAt u1_facts u1_places)) ⟨hx, hb, hml, hown, hts⟩ (c_X5_wrongOf l D cy sa a_u1 a_u1_facts a_u1_places u1_boxes u1_startsAt u1_facts o17 (x4 + x5) o19 hc20) (cwV 2 hts gX2_ofMeanWrong_X5_wrongOf rfl rfl rfl (by decide +kernel) ⟨Nat.le_of_ble_eq_true rfl, Nat.le_of_ble_eq_true rfl⟩) rfl rfl rfl hE hP hDD rfl hS [2, 3] rfl rfl rfl rfl hl.1 (Nat.le_of_ble_eq_true rfl) ⟨Nat.zero_le _, Nat.zero_le _⟩ rfl dX2_ofMeanWrong_62 rfl (fun H locs hP hS => ?_)
        obtain ⟨hr21, h⟩ := chk_some h
        refine wi_i2l hx hb dX2_ofMeanWrong_65 hr21 ?_
        refine wi_lmul hx hb dX2_ofMeanWrong_66 ?_
        refine wi_ladd hx hb dX2_ofMeanWrong_67 ?_
        refine wi_put (ty := .long) (v := .long (zL (v_upper + ((v_ways (x5).toNat) * o19)))) (w2 := (wd_X2_ofMeanWrong cy a_v a_v_ways a_u1 a_u1_facts a_u1_places (v_upper + ((v_ways (x5).toNat) * o19)) v_lower v_ways u1_boxes u1_startsAt u1_facts u1_places)) hx hb hts iX2 tyX2 tyX2_ok nmX2 hown hE hP hDD rfl hS 0 rfl rfl 1 (by decide) q1 rfl (by decide +kernel) rfl rfl (Nat.le_of_ble_eq_true rfl) dX2_ofMeanWrong_68 rfl (fun H locs hP hS => ?_)
        refine wi_iinc (k := 5) (lv' := [(5, .int (zI (x5 + 1))), (0, .ref a_v), (1, .ref a_u1), (2, .int (zI x2)), (3, .int (zI x3)), (4, .int (zI x4))]) hx hb dX2_ofMeanWrong_71 hl rfl (by decide) rfl (fun ls hl => ?_)
        refine lv_goto (tgt := 29) hx hb dX2_ofMeanWrong_74 (by decide) ?_
        exact ih (v_upper + ((v_ways (x5).toNat) * o19)) v_lower v_ways x2 x3 x4 (x5 + 1) _ _ _ _ hP hS (lv_sub hl [1, 2, 3, 4, 5, 0] rfl) h K
  have L6 : ∀ (fuel : Nat) (v_upper : Int) (v_lower : Int) (v_ways : Nat → Int) (x2 : Int) (x3 : Int) (H : Heap) (locs : List Loc) (ls : Array Slot) (ex : Int × Int × (Nat → Int)), va_P D vwCl (wd_X2_ofMeanWrong cy a_v a_v_ways a_u1 a_u1_facts a_u1_places v_upper v_lower v_ways u1_boxes u1_startsAt u1_facts u1_places) H → va_S A s.heap H locs → lv_has ls 6 [(0, .ref a_v), (1, .ref a_u1), (2, .int (zI x2)), (3, .int (zI x3))] → f_Odds_ofMeanWrong_L6 fuel v_upper v_lower v_ways u1_boxes u1_startsAt u1_facts u1_places x2 x3 = some ex → (∀ (H : Heap) (locs : List Loc) (ls : Array Slot), va_P D vwCl (wd_X2_ofMeanWrong cy a_v a_v_ways a_u1 a_u1_facts a_u1_places ex.1 ex.2.1 ex.2.2 u1_boxes u1_startsAt u1_facts u1_places) H → va_S A s.heap H locs → lv_has ls 6 [(0, .ref a_v)] → W p l e { frames := 2, cells := 0, slots := 0, locals := 46 } s m args below meth c H locs 0 0 QQ (F0 m 83 ls [])) → W p l e { frames := 2, cells := 0, slots := 0, locals := 46 } s m args below meth c H locs 0 0 QQ (F0 m 6 ls []) := by
    intro fuel
    induction fuel with
    | zero => intro _ _ _ _ _ H locs ls ex hP hS hl h K; cases h
    | succ fuel ih =>
      intro v_upper v_lower v_ways x2 x3 H locs ls ex hP hS hl h K
      refine lv_iload_n hx hb dX2_ofMeanWrong_6 rfl (lv_at hl 3 rfl) ?_
      refine lv_aload_n hx hb dX2_ofMeanWrong_7 rfl (lv_at hl 1 rfl) ?_
      obtain ⟨o3, hc4, h⟩ := bnd_some h
      refine cV_i (rest := [.int (zI x3)]) (w2 := (wd_X2_ofMeanWrong cy a_v a_v_ways a_u1 a_u1_facts a_u1_places v_upper v_lower v_ways u1_boxes u1_startsAt u1_facts u1_places)) ⟨hx, hb, hml, hown, hts⟩ (c_X5_size l D cy sa a_u1 a_u1_facts a_u1_places u1_boxes u1_startsAt o3 hc4) (cwV 0 hts gX2_ofMeanWrong_X5_size rfl rfl rfl (by decide +kernel) ⟨Nat.le_of_ble_eq_true rfl, Nat.le_of_ble_eq_true rfl⟩) rfl rfl rfl hE hP hDD rfl hS [2] rfl rfl rfl rfl hl.1 (Nat.le_of_ble_eq_true rfl) ⟨Nat.zero_le _, Nat.zero_le _⟩ rfl dX2_ofMeanWrong_8 rfl (fun H locs hP hS => ?_)
      obtain ⟨hr5, h⟩ := chk_some h
      obtain ⟨hr6, h⟩ := chk_some h
      refine wi_ic_ge (tgt := 83) hx hb dX2_ofMeanWrong_11 (by decide) hr5 hr6 (fun c8 => ?_) (fun c8 => ?_)
      · have h := ite_t c8 h
        obtain rfl := Option.some.inj h
        exact K _ _ _ hP hS (lv_sub hl [0] rfl)
      · have h := ite_f c8 h
        refine lv_aload_n hx hb dX2_ofMeanWrong_14 rfl (lv_at hl 0 rfl) ?_
        refine lv_iload_n hx hb dX2_ofMeanWrong_15 rfl (lv_at hl 2 rfl) ?_
        obtain ⟨o9, hc10, h⟩ := bnd_some h
        refine cV_v (rest := []) (w2 := (wd_X2_ofMeanWrong cy a_v a_v_ways a_u1 a_u1_facts a_u1_places o9.1 o9.2.1 o9.2.2 u1_boxes u1_startsAt u1_facts u1_places)) ⟨hx, hb, hml, hown, hts⟩ (c_X2_passBox l D cy sa a_v a_v_ways v_upper v_lower v_ways x2 o9 hc10) (cwV 1 hts gX2_ofMeanWrong_X2_passBox rfl rfl rfl (by decide +kernel) ⟨Nat.le_of_ble_eq_true rfl, Nat.le_of_ble_eq_true rfl⟩) rfl rfl rfl hE hP hDD rfl hS [0, 1] rfl rfl rfl rfl hl.1 (Nat.le_of_ble_eq_true rfl) ⟨Nat.zero_le _, Nat.zero_le _⟩ rfl dX2_ofMeanWrong_16 rfl (fun H locs hP hS => ?_)
        refine lv_aload_n hx hb dX2_ofMeanWrong_19 rfl (lv_at hl 1 rfl) ?_
        refine lv_iload_n hx hb dX2_ofMeanWrong_20 rfl (lv_at hl 3 rfl) ?_
        obtain ⟨o11, hc12, h⟩ := bnd_some h
        refine cV_i (rest := []) (w2 := (wd_X2_ofMeanWrong cy a_v a_v_ways a_u1 a_u1_facts a_u1_places o9.1 o9.2.1 o9.2.2 u1_boxes u1_startsAt u1_facts u1_places)) ⟨hx, hb, hml, hown, hts⟩ (c_X5_doneIn l D cy sa a_u1 a_u1_facts a_u1_places u1_boxes u1_startsAt u1_facts u1_places x3 o11 hc12) (cwV 1 hts gX2_ofMeanWrong_X5_doneIn rfl rfl rfl (by decide +kernel) ⟨Nat.le_of_ble_eq_true rfl, Nat.le_of_ble_eq_true rfl⟩) rfl rfl rfl hE hP hDD rfl hS [2, 3, 4] rfl rfl rfl rfl hl.1 (Nat.le_of_ble_eq_true rfl) ⟨Nat.zero_le _, Nat.zero_le _⟩ rfl dX2_ofMeanWrong_21 rfl (fun H locs hP hS => ?_)
        refine lv_istore (lv' := [(4, .int (zI o11)), (0, .ref a_v), (1, .ref a_u1), (2, .int (zI x2)), (3, .int (zI x3))]) hx hb dX2_ofMeanWrong_24 hl (by decide) rfl (fun ls hl => ?_)
        refine wi_ic hx hb dX2_ofMeanWrong_26 ?_
        refine lv_istore (lv' := [(5, .int (zI 0)), (4, .int (zI o11)), (0, .ref a_v), (1, .ref a_u1), (2, .int (zI x2)), (3, .int (zI x3))]) hx hb dX2_ofMeanWrong_27 hl (by decide) rfl (fun ls hl => ?_)
        obtain ⟨o22, hx23, h⟩ := bnd_some h
        refine L29 5000 o9.1 o9.2.1 o9.2.2 x2 x3 o11 0 _ _ _ _ hP hS (lv_sub hl [2, 3, 4, 5, 1, 0] rfl) hx23 ?_
        clear hx23
        intro H locs ls hP hS hl
        refine wi_iinc (k := 3) (lv' := [(3, .int (zI (x3 + 1))), (0, .ref a_v), (1, .ref a_u1), (2, .int (zI x2))]) hx hb dX2_ofMeanWrong_77 hl rfl (by decide) rfl (fun ls hl => ?_)
        refine lv_goto (tgt := 6) hx hb dX2_ofMeanWrong_80 (by decide) ?_
        exact ih o22 o9.2.1 o9.2.2 x2 (x3 + 1) _ _ _ _ hP hS (lv_sub hl [1, 2, 3, 0] rfl) h K
  refine lv_aload_n hx hb dX2_ofMeanWrong_0 rfl (lv_at hl 0 rfl) ?_
  obtain ⟨o1, hc2, h⟩ := bnd_some h
  refine cV_v (rest := []) (w2 := (wd_X2_ofMeanWrong cy a_v a_v_ways a_u1 a_u1_facts a_u1_places o1.1 o1.2.1 o1.2.2 u1_boxes u1_startsAt u1_facts u1_places)) ⟨hx, hb, hml, hown, hts⟩ (c_X2_beginAnew l D cy sa a_v a_v_ways v_upper v_lower v_ways o1 hc2) (cwV 0 hts gX2_ofMeanWrong_X2_beginAnew rfl rfl rfl (by decide +kernel) ⟨Nat.le_of_ble_eq_true rfl, Nat.le_of_ble_eq_true rfl⟩) rfl rfl rfl hE hP hDD rfl hS [0, 1] rfl rfl rfl rfl hl.1 (Nat.le_of_ble_eq_true rfl) ⟨Nat.zero_le _, Nat.zero_le _⟩ rfl dX2_ofMeanWrong_1 rfl (fun H locs hP hS => ?_)
  refine wi_ic hx hb dX2_ofMeanWrong_4 ?_
  refine lv_istore_n (lv' := [(3, .int (zI 0)), (0, .ref a_v), (1, .ref a_u1), (2, .int (zI x2))]) hx hb dX2_ofMeanWrong_5 rfl hl (by decide) rfl (fun ls hl => ?_)
  obtain ⟨o24, hx25, h⟩ := bnd_some h
  refine L6 5000 o1.1 o1.2.1 o1.2.2 x2 0 _ _ _ _ hP hS (lv_sub hl [1, 2, 3, 0] rfl) hx25 ?_
  clear hx25
  intro H locs ls hP hS hl
  refine lv_aload_n hx hb dX2_ofMeanWrong_83 rfl (lv_at hl 0 rfl) ?_
  obtain ⟨o26, hc27, h⟩ := bnd_some h
  refine cV_v (rest := []) (w2 := (wd_X2_ofMeanWrong cy a_v a_v_ways a_u1 a_u1_facts a_u1_places o26.1 o26.2 o24.2.2 u1_boxes u1_startsAt u1_facts u1_places)) ⟨hx, hb, hml, hown, hts⟩ (c_X2_reduce l D cy sa a_v a_v_ways o24.1 o24.2.1 o26 hc27) (cwV 0 hts gX2_ofMeanWrong_X2_reduce rfl rfl rfl (by decide +kernel) ⟨Nat.le_of_ble_eq_true rfl, Nat.le_of_ble_eq_true rfl⟩) rfl rfl rfl hE hP hDD rfl hS [0] rfl rfl rfl rfl hl.1 (Nat.le_of_ble_eq_true rfl) ⟨Nat.zero_le _, Nat.zero_le _⟩ rfl dX2_ofMeanWrong_84 rfl (fun H locs hP hS => ?_)
  obtain rfl := Option.some.inj h
  exact KR _ _ _ _ hP hS dX2_ofMeanWrong_87
abbrev wd_X6_isFull (cy : Nat → ClassId) (a_v : Nat) (a_v_rooms : Nat) (a_v_hours : Nat) (a_v_oclocks : Nat) (v_used : Int) : va_W := [(a_v, .inr (6, [.ref a_v_rooms, .ref a_v_hours, .ref a_v_oclocks, .int (zI v_used)]))]
set_option maxHeartbeats 4000000 in
set_option maxRecDepth 100000 in
theorem c_X6_isFull (l : Launch) (D : va_G) (cy : Nat → ClassId) (sa : Nat → Nat) (a_v : Nat) (a_v_rooms : Nat) (a_v_hours : Nat) (a_v_oclocks : Nat) (v_used : Int) (o : Int) (h : f_Sightings_isFull v_used = some o) : CtI l yX6_isFull wsX6_isFull ({ frames := 0, cells := 0, slots := 0, locals := 0 }) D cy sa [.ref a_v] (wd_X6_isFull cy a_v a_v_rooms a_v_hours a_v_oclocks v_used) (wd_X6_isFull cy a_v a_v_rooms a_v_hours a_v_oclocks v_used) o := by
  refine ct_Z (cc := cX6_isFull) (maxL := 1) (plainFor_of_name (by decide)) rfl (Nat.le_of_ble_eq_true rfl) ?_
  intro p e s m below meth c A args QQ hx hb hml hown hts hE hDD hP KR ls hl
  have hl : lv_has ls 1 [(0, .ref a_v)] := hl
  have hDD : DD A [a_v] := hDD
  have hS : va_S A s.heap s.heap [] := va_S.rf
  have q0 := hts (.fieldLink RX6 19 "HatHours$Sightings" "used" "I") (List.mem_of_getElem? (i := 1) rfl)
  have iX6 : ∀ w ∈ u_ws RX6 TX6 4, w ∈ wsX6_isFull := in_slice 2 4 rfl
  refine lv_aload_n hx hb dX6_isFull_0 rfl (lv_at hl 0 rfl) ?_
  refine wi_get (v := .int (zI v_used)) hx hb hts iX6 hown hE hP 0 rfl rfl 3 (by decide) q0 rfl dX6_isFull_1 ?_
  refine wi_bi hx hb dX6_isFull_4 (by decide) ?_
  obtain ⟨hr1, h⟩ := chk_some h
  refine wi_ic_lt (tgt := 13) hx hb dX6_isFull_6 (by decide) hr1 (by decide) (fun c3 => ?_) (fun c3 => ?_)
  · have h := ite_t c3 h
    refine wi_ic hx hb dX6_isFull_13 ?_
    obtain rfl := Option.some.inj h
    exact KR _ _ _ _ (z01 (Or.inl rfl)) hP hS dX6_isFull_14
  · have h := ite_f c3 h
    refine wi_ic hx hb dX6_isFull_9 ?_
    refine lv_goto (tgt := 14) hx hb dX6_isFull_10 (by decide) ?_
    obtain rfl := Option.some.inj h
    exact KR _ _ _ _ (z01 (Or.inr rfl)) hP hS dX6_isFull_14
abbrev wd_X6_add (cy : Nat → ClassId) (a_v : Nat) (a_v_hours : Nat) (a_v_oclocks : Nat) (a_v_rooms : Nat) (v_used : Int) (v_hours : Nat → Int) (v_oclocks : Nat → Int) (v_rooms : Nat → Int) : va_W := [(a_v, .inr (6, [.ref a_v_rooms, .ref a_v_hours, .ref a_v_oclocks, .int (zI v_used)])), (a_v_hours, .inl (cy 0, 6, .inl (fun j => zI (v_hours j)))), (a_v_oclocks, .inl (cy 0, 6, .inl (fun j => zI (v_oclocks j)))), (a_v_rooms, .inl (cy 0, 6, .inl (fun j => zI (v_rooms j))))]
set_option maxHeartbeats 4000000 in
set_option maxRecDepth 100000 in
theorem c_X6_add (l : Launch) (D : va_G) (cy : Nat → ClassId) (sa : Nat → Nat) (a_v : Nat) (a_v_hours : Nat) (a_v_oclocks : Nat) (a_v_rooms : Nat) (v_used : Int) (v_hours : Nat → Int) (v_oclocks : Nat → Int) (v_rooms : Nat → Int) (x1 : Int) (x2 : Int) (x3 : Int) (o : Int × (Nat → Int) × (Nat → Int) × (Nat → Int)) (h : f_Sightings_add v_used v_hours v_oclocks v_rooms x1 x2 x3 = some o) : CtV l yX6_add wsX6_add ({ frames := 1, cells := 0, slots := 0, locals := 20 }) D cy sa [.ref a_v, .int (zI x1), .int (zI x2), .int (zI x3)] (wd_X6_add cy a_v a_v_hours a_v_oclocks a_v_rooms v_used v_hours v_oclocks v_rooms) (wd_X6_add cy a_v a_v_hours a_v_oclocks a_v_rooms o.1 o.2.1 o.2.2.1 o.2.2.2)  := by
  refine ct_V (cc := cX6_add) (maxL := 4) (plainFor_of_name (by decide)) rfl (Nat.le_of_ble_eq_true rfl) ?_
  intro p e s m below meth c A args QQ hx hb hml hown hts hE hDD hP KR ls hl
  have hl : lv_has ls 4 [(0, .ref a_v), (1, .int (zI x1)), (2, .int (zI x2)), (3, .int (zI x3))] := hl
  have hDD : DD A [a_v, a_v_hours, a_v_oclocks, a_v_rooms] := hDD
  have hS : va_S A s.heap s.heap [] := va_S.rf
  have q0 := hts (.fieldLink RX6 9 "HatHours$Sightings" "rooms" "[I") (List.mem_of_getElem? (i := 1) rfl)
  have q1 := hts (.fieldLink RX6 19 "HatHours$Sightings" "used" "I") (List.mem_of_getElem? (i := 2) rfl)
  have q2 := hts (.fieldLink RX6 13 "HatHours$Sightings" "hours" "[I") (List.mem_of_getElem? (i := 3) rfl)
  have q3 := hts (.fieldLink RX6 16 "HatHours$Sightings" "oclocks" "[I") (List.mem_of_getElem? (i := 4) rfl)
  have iX6 : ∀ w ∈ u_ws RX6 TX6 4, w ∈ wsX6_add := in_slice 10 4 rfl
  refine lv_aload_n hx hb dX6_add_0 rfl (lv_at hl 0 rfl) ?_
  obtain ⟨o1, hc2, h⟩ := bnd_some h
  refine cV_i (rest := []) (w2 := (wd_X6_add cy a_v a_v_hours a_v_oclocks a_v_rooms v_used v_hours v_oclocks v_rooms)) ⟨hx, hb, hml, hown, hts⟩ (c_X6_isFull l D cy sa a_v a_v_rooms a_v_hours a_v_oclocks v_used o1 hc2) (cwV 0 hts gX6_add_X6_isFull rfl rfl rfl (by decide +kernel) ⟨Nat.le_of_ble_eq_true rfl, Nat.le_of_ble_eq_true rfl⟩) rfl rfl rfl hE hP hDD rfl hS [0] rfl rfl rfl rfl hl.1 (Nat.le_of_ble_eq_true rfl) ⟨Nat.zero_le _, Nat.zero_le _⟩ rfl dX6_add_1 rfl (fun H locs hP hS => ?_)
  obtain ⟨hr3, h⟩ := chk_some h
  refine wi_if_ne (tgt := 47) hx hb dX6_add_4 (by decide) hr3 (fun c5 => ?_) (fun c5 => ?_)
  · have h := ite_f c5 h
    obtain rfl := Option.some.inj h
    exact KR _ _ _ _ hP hS dX6_add_47
  · have h := ite_t c5 h
    refine lv_aload_n hx hb dX6_add_7 rfl (lv_at hl 0 rfl) ?_
    refine wi_get (v := .ref a_v_rooms) hx hb hts iX6 hown hE hP 0 rfl rfl 0 (by decide) q0 rfl dX6_add_8 ?_
    refine lv_aload_n hx hb dX6_add_11 rfl (lv_at hl 0 rfl) ?_
    refine wi_get (v := .int (zI v_used)) hx hb hts iX6 hown hE hP 0 rfl rfl 3 (by decide) q1 rfl dX6_add_12 ?_
    refine lv_iload_n hx hb dX6_add_15 rfl (lv_at hl 1 rfl) ?_
    obtain ⟨hk6, h⟩ := chk_some h
    refine wi_iast (w2 := (wd_X6_add cy a_v a_v_hours a_v_oclocks a_v_rooms v_used v_hours v_oclocks (upZ v_rooms (v_used).toNat x1))) hx hb hE hP hDD rfl hS 3 rfl (by decide) hk6 dX6_add_16 rfl (fun H locs hP hS => ?_)
    refine lv_aload_n hx hb dX6_add_17 rfl (lv_at hl 0 rfl) ?_
    refine wi_get (v := .ref a_v_hours) hx hb hts iX6 hown hE hP 0 rfl rfl 1 (by decide) q2 rfl dX6_add_18 ?_
    refine lv_aload_n hx hb dX6_add_21 rfl (lv_at hl 0 rfl) ?_
    refine wi_get (v := .int (zI v_used)) hx hb hts iX6 hown hE hP 0 rfl rfl 3 (by decide) q1 rfl dX6_add_22 ?_
    refine lv_iload_n hx hb dX6_add_25 rfl (lv_at hl 2 rfl) ?_
    refine wi_iast (w2 := (wd_X6_add cy a_v a_v_hours a_v_oclocks a_v_rooms v_used (upZ v_hours (v_used).toNat x2) v_oclocks (upZ v_rooms (v_used).toNat x1))) hx hb hE hP hDD rfl hS 1 rfl (by decide) hk6 dX6_add_26 rfl (fun H locs hP hS => ?_)
    refine lv_aload_n hx hb dX6_add_27 rfl (lv_at hl 0 rfl) ?_
    refine wi_get (v := .ref a_v_oclocks) hx hb hts iX6 hown hE hP 0 rfl rfl 2 (by decide) q3 rfl dX6_add_28 ?_
    refine lv_aload_n hx hb dX6_add_31 rfl (lv_at hl 0 rfl) ?_
    refine wi_get (v := .int (zI v_used)) hx hb hts iX6 hown hE hP 0 rfl rfl 3 (by decide) q1 rfl dX6_add_32 ?_
    refine lv_iload_n hx hb dX6_add_35 rfl (lv_at hl 3 rfl) ?_
    refine wi_iast (w2 := (wd_X6_add cy a_v a_v_hours a_v_oclocks a_v_rooms v_used (upZ v_hours (v_used).toNat x2) (upZ v_oclocks (v_used).toNat x3) (upZ v_rooms (v_used).toNat x1))) hx hb hE hP hDD rfl hS 2 rfl (by decide) hk6 dX6_add_36 rfl (fun H locs hP hS => ?_)
    refine lv_aload_n hx hb dX6_add_37 rfl (lv_at hl 0 rfl) ?_
    refine lv_dup hx hb dX6_add_38 rfl ?_
    refine wi_get (v := .int (zI v_used)) hx hb hts iX6 hown hE hP 0 rfl rfl 3 (by decide) q1 rfl dX6_add_39 ?_
    refine wi_ic hx hb dX6_add_42 ?_
    refine wi_iadd hx hb dX6_add_43 ?_
    refine wi_put (ty := .int) (v := .int (zI (v_used + 1))) (w2 := (wd_X6_add cy a_v a_v_hours a_v_oclocks a_v_rooms (v_used + 1) (upZ v_hours (v_used).toNat x2) (upZ v_oclocks (v_used).toNat x3) (upZ v_rooms (v_used).toNat x1))) hx hb hts iX6 tyX6 tyX6_ok nmX6 hown hE hP hDD rfl hS 0 rfl rfl 3 (by decide) q1 rfl (by decide +kernel) rfl rfl (Nat.le_of_ble_eq_true rfl) dX6_add_44 rfl (fun H locs hP hS => ?_)
    obtain rfl := Option.some.inj h
    exact KR _ _ _ _ hP hS dX6_add_47
abbrev wd_X6_size (cy : Nat → ClassId) (a_v : Nat) (a_v_rooms : Nat) (a_v_hours : Nat) (a_v_oclocks : Nat) (v_used : Int) : va_W := [(a_v, .inr (6, [.ref a_v_rooms, .ref a_v_hours, .ref a_v_oclocks, .int (zI v_used)]))]
set_option maxHeartbeats 4000000 in
set_option maxRecDepth 100000 in
theorem c_X6_size (l : Launch) (D : va_G) (cy : Nat → ClassId) (sa : Nat → Nat) (a_v : Nat) (a_v_rooms : Nat) (a_v_hours : Nat) (a_v_oclocks : Nat) (v_used : Int) (o : Int) (h : f_Sightings_size v_used = some o) : CtI l yX6_size wsX6_size ({ frames := 0, cells := 0, slots := 0, locals := 0 }) D cy sa [.ref a_v] (wd_X6_size cy a_v a_v_rooms a_v_hours a_v_oclocks v_used) (wd_X6_size cy a_v a_v_rooms a_v_hours a_v_oclocks v_used) o := by
  refine ct_I (cc := cX6_size) (maxL := 1) (plainFor_of_name (by decide)) rfl (Nat.le_of_ble_eq_true rfl) ?_
  intro p e s m below meth c A args QQ hx hb hml hown hts hE hDD hP KR ls hl
  have hl : lv_has ls 1 [(0, .ref a_v)] := hl
  have hDD : DD A [a_v] := hDD
  have hS : va_S A s.heap s.heap [] := va_S.rf
  have q0 := hts (.fieldLink RX6 19 "HatHours$Sightings" "used" "I") (List.mem_of_getElem? (i := 1) rfl)
  have iX6 : ∀ w ∈ u_ws RX6 TX6 4, w ∈ wsX6_size := in_slice 2 4 rfl
  refine lv_aload_n hx hb dX6_size_0 rfl (lv_at hl 0 rfl) ?_
  refine wi_get (v := .int (zI v_used)) hx hb hts iX6 hown hE hP 0 rfl rfl 3 (by decide) q0 rfl dX6_size_1 ?_
  obtain rfl := Option.some.inj h
  exact KR _ _ _ _ hP hS dX6_size_4
abbrev wd_X6_agreeWith (cy : Nat → ClassId) (a_v : Nat) (a_v_hours : Nat) (a_v_oclocks : Nat) (a_v_rooms : Nat) (a_u1 : Nat) (a_u1_facts : Nat) (a_u1_places : Nat) (v_used : Int) (v_hours : Nat → Int) (v_oclocks : Nat → Int) (v_rooms : Nat → Int) (u1_boxes : Int) (u1_startsAt : Int) (u1_facts : Nat → Int) (u1_places : Nat → Int) : va_W := [(a_v, .inr (6, [.ref a_v_rooms, .ref a_v_hours, .ref a_v_oclocks, .int (zI v_used)])), (a_v_hours, .inl (cy 0, 6, .inl (fun j => zI (v_hours j)))), (a_v_oclocks, .inl (cy 0, 6, .inl (fun j => zI (v_oclocks j)))), (a_v_rooms, .inl (cy 0, 6, .inl (fun j => zI (v_rooms j)))), (a_u1, .inr (5, [.ref a_u1_facts, .ref a_u1_places, .int (zI u1_boxes), .int (zI u1_startsAt)])), (a_u1_facts, .inl (cy 0, 30, .inl (fun j => zI (u1_facts j)))), (a_u1_places, .inl (cy 0, 5, .inl (fun j => zI (u1_places j))))]
set_option maxHeartbeats 4000000 in
set_option maxRecDepth 100000 in
theorem c_X6_agreeWith (l : Launch) (D : va_G) (cy : Nat → ClassId) (sa : Nat → Nat) (a_v : Nat) (a_v_hours : Nat) (a_v_oclocks : Nat) (a_v_rooms : Nat) (a_u1 : Nat) (a_u1_facts : Nat) (a_u1_places : Nat) (v_used : Int) (v_hours : Nat → Int) (v_oclocks : Nat → Int) (v_rooms : Nat → Int) (u1_boxes : Int) (u1_startsAt : Int) (u1_facts : Nat → Int) (u1_places : Nat → Int) (o : Int) (h : f_Sightings_agreeWith v_used v_hours v_oclocks v_rooms u1_boxes u1_startsAt u1_facts u1_places = some o) : CtI l yX6_agreeWith wsX6_agreeWith ({ frames := 4, cells := 0, slots := 0, locals := 91 }) D cy sa [.ref a_v, .ref a_u1] (wd_X6_agreeWith cy a_v a_v_hours a_v_oclocks a_v_rooms a_u1 a_u1_facts a_u1_places v_used v_hours v_oclocks v_rooms u1_boxes u1_startsAt u1_facts u1_places) (wd_X6_agreeWith cy a_v a_v_hours a_v_oclocks a_v_rooms a_u1 a_u1_facts a_u1_places v_used v_hours v_oclocks v_rooms u1_boxes u1_startsAt u1_facts u1_places) o := by
  refine ct_Z (cc := cX6_agreeWith) (maxL := 3) (plainFor_of_name (by decide)) rfl (Nat.le_of_ble_eq_true rfl) ?_
  intro p e s m below meth c A args QQ hx hb hml hown hts hE hDD hP KR ls hl
  have hl : lv_has ls 3 [(0, .ref a_v), (1, .ref a_u1)] := hl
  have hDD : DD A [a_v, a_v_hours, a_v_oclocks, a_v_rooms, a_u1, a_u1_facts, a_u1_places] := hDD
  have hS : va_S A s.heap s.heap [] := va_S.rf
  have q0 := hts (.fieldLink RX6 19 "HatHours$Sightings" "used" "I") (List.mem_of_getElem? (i := 1) rfl)
  have q1 := hts (.fieldLink RX6 9 "HatHours$Sightings" "rooms" "[I") (List.mem_of_getElem? (i := 2) rfl)
  have q2 := hts (.fieldLink RX6 13 "HatHours$Sightings" "hours" "[I") (List.mem_of_getElem? (i := 3) rfl)
  have q3 := hts (.fieldLink RX6 16 "HatHours$Sightings" "oclocks" "[I") (List.mem_of_getElem? (i := 4) rfl)
  have iX6 : ∀ w ∈ u_ws RX6 TX6 4, w ∈ wsX6_agreeWith := in_slice 38 4 rfl
  have L2 : ∀ (fuel : Nat) (x2 : Int) (H : Heap) (locs : List Loc) (ls : Array Slot), va_P D vwCl (wd_X6_agreeWith cy a_v a_v_hours a_v_oclocks a_v_rooms a_u1 a_u1_facts a_u1_places v_used v_hours v_oclocks v_rooms u1_boxes u1_startsAt u1_facts u1_places) H → va_S A s.heap H locs → lv_has ls 3 [(0, .ref a_v), (1, .ref a_u1), (2, .int (zI x2))] → f_Sightings_agreeWith_L2 fuel v_used v_hours v_oclocks v_rooms u1_boxes u1_startsAt u1_facts u1_places x2 = some o → W p l e { frames := 4, cells := 0, slots := 0, locals := 91 } s m args below meth c H locs 0 0 QQ (F0 m 2 ls []) := by
    intro fuel
    induction fuel with
    | zero => intro _ H locs ls hP hS hl h; cases h
    | succ fuel ih =>
      intro x2 H locs ls hP hS hl h
      refine lv_iload_n hx hb dX6_agreeWith_2 rfl (lv_at hl 2 rfl) ?_
      refine lv_aload_n hx hb dX6_agreeWith_3 rfl (lv_at hl 0 rfl) ?_
      refine wi_get (v := .int (zI v_used)) hx hb hts iX6 hown hE hP 0 rfl rfl 3 (by decide) q0 rfl dX6_agreeWith_4 ?_
      obtain ⟨hr1, h⟩ := chk_some h
      obtain ⟨hr2, h⟩ := chk_some h
      refine wi_ic_ge (tgt := 43) hx hb dX6_agreeWith_7 (by decide) hr1 hr2 (fun c4 => ?_) (fun c4 => ?_)
      · have h := ite_t c4 h
        refine wi_ic hx hb dX6_agreeWith_43 ?_
        obtain rfl := Option.some.inj h
        exact KR _ _ _ _ (z01 (Or.inr rfl)) hP hS dX6_agreeWith_44
      · have h := ite_f c4 h
        refine lv_aload_n hx hb dX6_agreeWith_10 rfl (lv_at hl 1 rfl) ?_
        refine lv_aload_n hx hb dX6_agreeWith_11 rfl (lv_at hl 0 rfl) ?_
        refine wi_get (v := .ref a_v_rooms) hx hb hts iX6 hown hE hP 0 rfl rfl 0 (by decide) q1 rfl dX6_agreeWith_12 ?_
        refine lv_iload_n hx hb dX6_agreeWith_15 rfl (lv_at hl 2 rfl) ?_
        obtain ⟨hk5, h⟩ := chk_some h
        refine wi_iald hx hb hE hP 3 rfl (by decide) hk5 dX6_agreeWith_16 ?_
        refine lv_aload_n hx hb dX6_agreeWith_17 rfl (lv_at hl 0 rfl) ?_
        refine wi_get (v := .ref a_v_hours) hx hb hts iX6 hown hE hP 0 rfl rfl 1 (by decide) q2 rfl dX6_agreeWith_18 ?_
        refine lv_iload_n hx hb dX6_agreeWith_21 rfl (lv_at hl 2 rfl) ?_
        refine wi_iald hx hb hE hP 1 rfl (by decide) hk5 dX6_agreeWith_22 ?_
        obtain ⟨o6, hc7, h⟩ := bnd_some h
        refine cV_i (rest := []) (w2 := (wd_X6_agreeWith cy a_v a_v_hours a_v_oclocks a_v_rooms a_u1 a_u1_facts a_u1_places v_used v_hours v_oclocks v_rooms u1_boxes u1_startsAt u1_facts u1_places)) ⟨hx, hb, hml, hown, hts⟩ (c_X5_oclock l D cy sa a_u1 a_u1_facts a_u1_places u1_boxes u1_startsAt u1_facts u1_places (v_rooms (x2).toNat) (v_hours (x2).toNat) o6 hc7) (cwV 2 hts gX6_agreeWith_X5_oclock rfl rfl rfl (by decide +kernel) ⟨Nat.le_of_ble_eq_true rfl, Nat.le_of_ble_eq_true rfl⟩) rfl rfl rfl hE hP hDD rfl hS [4, 5, 6] rfl rfl rfl rfl hl.1 (Nat.le_of_ble_eq_true rfl) ⟨Nat.zero_le _, Nat.zero_le _⟩ rfl dX6_agreeWith_23 rfl (fun H locs hP hS => ?_)
        refine lv_aload_n hx hb dX6_agreeWith_26 rfl (lv_at hl 0 rfl) ?_
        refine wi_get (v := .ref a_v_oclocks) hx hb hts iX6 hown hE hP 0 rfl rfl 2 (by decide) q3 rfl dX6_agreeWith_27 ?_
        refine lv_iload_n hx hb dX6_agreeWith_30 rfl (lv_at hl 2 rfl) ?_
        refine wi_iald hx hb hE hP 2 rfl (by decide) hk5 dX6_agreeWith_31 ?_
        obtain ⟨hr8, h⟩ := chk_some h
        obtain ⟨hr9, h⟩ := chk_some h
        refine wi_ic_eq (tgt := 37) hx hb dX6_agreeWith_32 (by decide) hr8 hr9 (fun c11 => ?_) (fun c11 => ?_)
        · have h := ite_t c11 h
          refine wi_iinc (k := 2) (lv' := [(2, .int (zI (x2 + 1))), (0, .ref a_v), (1, .ref a_u1)]) hx hb dX6_agreeWith_37 hl rfl (by decide) rfl (fun ls hl => ?_)
          refine lv_goto (tgt := 2) hx hb dX6_agreeWith_40 (by decide) ?_
          exact ih (x2 + 1) _ _ _ hP hS (lv_sub hl [1, 2, 0] rfl) h
        · have h := ite_f c11 h
          refine wi_ic hx hb dX6_agreeWith_35 ?_
          obtain rfl := Option.some.inj h
          exact KR _ _ _ _ (z01 (Or.inl rfl)) hP hS dX6_agreeWith_36
  refine wi_ic hx hb dX6_agreeWith_0 ?_
  refine lv_istore_n (lv' := [(2, .int (zI 0)), (0, .ref a_v), (1, .ref a_u1)]) hx hb dX6_agreeWith_1 rfl hl (by decide) rfl (fun ls hl => ?_)
  exact L2 5000 0 _ _ _ hP hS (lv_sub hl [1, 2, 0] rfl) h
abbrev wd_X3_startsAsSeen (cy : Nat → ClassId) (a_v : Nat) (a_v_draft : Nat) (a_v_draft_facts : Nat) (a_v_draft_places : Nat) (a_u1 : Nat) (a_u1_facts : Nat) (a_u1_places : Nat) (a_u2 : Nat) (a_u2_hours : Nat) (a_u2_oclocks : Nat) (a_u2_rooms : Nat) (a_v_least : Nat) (a_v_bestPlaces : Nat) (a_v_startsLeft : Nat) (v_draft_boxes : Int) (v_draft_startsAt : Int) (v_draft_facts : Nat → Int) (v_draft_places : Nat → Int) (u1_boxes : Int) (u1_startsAt : Int) (u1_facts : Nat → Int) (u1_places : Nat → Int) (u2_used : Int) (u2_hours : Nat → Int) (u2_oclocks : Nat → Int) (u2_rooms : Nat → Int) : va_W := [(a_v, .inr (3, [.ref a_v_draft, .ref a_v_least, .ref a_v_bestPlaces, .ref a_v_startsLeft])), (a_v_draft, .inr (5, [.ref a_v_draft_facts, .ref a_v_draft_places, .int (zI v_draft_boxes), .int (zI v_draft_startsAt)])), (a_v_draft_facts, .inl (cy 0, 30, .inl (fun j => zI (v_draft_facts j)))), (a_v_draft_places, .inl (cy 0, 5, .inl (fun j => zI (v_draft_places j)))), (a_u1, .inr (5, [.ref a_u1_facts, .ref a_u1_places, .int (zI u1_boxes), .int (zI u1_startsAt)])), (a_u1_facts, .inl (cy 0, 30, .inl (fun j => zI (u1_facts j)))), (a_u1_places, .inl (cy 0, 5, .inl (fun j => zI (u1_places j)))), (a_u2, .inr (6, [.ref a_u2_rooms, .ref a_u2_hours, .ref a_u2_oclocks, .int (zI u2_used)])), (a_u2_hours, .inl (cy 0, 6, .inl (fun j => zI (u2_hours j)))), (a_u2_oclocks, .inl (cy 0, 6, .inl (fun j => zI (u2_oclocks j)))), (a_u2_rooms, .inl (cy 0, 6, .inl (fun j => zI (u2_rooms j))))]
set_option maxHeartbeats 4000000 in
set_option maxRecDepth 100000 in
theorem c_X3_startsAsSeen (l : Launch) (D : va_G) (cy : Nat → ClassId) (sa : Nat → Nat) (a_v : Nat) (a_v_draft : Nat) (a_v_draft_facts : Nat) (a_v_draft_places : Nat) (a_u1 : Nat) (a_u1_facts : Nat) (a_u1_places : Nat) (a_u2 : Nat) (a_u2_hours : Nat) (a_u2_oclocks : Nat) (a_u2_rooms : Nat) (a_v_least : Nat) (a_v_bestPlaces : Nat) (a_v_startsLeft : Nat) (v_draft_boxes : Int) (v_draft_startsAt : Int) (v_draft_facts : Nat → Int) (v_draft_places : Nat → Int) (u1_boxes : Int) (u1_startsAt : Int) (u1_facts : Nat → Int) (u1_places : Nat → Int) (u2_used : Int) (u2_hours : Nat → Int) (u2_oclocks : Nat → Int) (u2_rooms : Nat → Int) (o : Int × Int × Int × (Nat → Int) × (Nat → Int)) (h : f_Search_startsAsSeen v_draft_boxes v_draft_startsAt v_draft_facts v_draft_places u1_boxes u1_startsAt u1_facts u1_places u2_used u2_hours u2_oclocks u2_rooms = some o) : CtI l yX3_startsAsSeen wsX3_startsAsSeen ({ frames := 5, cells := 0, slots := 0, locals := 113 }) D cy sa [.ref a_v, .ref a_u1, .ref a_u2] (wd_X3_startsAsSeen cy a_v a_v_draft a_v_draft_facts a_v_draft_places a_u1 a_u1_facts a_u1_places a_u2 a_u2_hours a_u2_oclocks a_u2_rooms a_v_least a_v_bestPlaces a_v_startsLeft v_draft_boxes v_draft_startsAt v_draft_facts v_draft_places u1_boxes u1_startsAt u1_facts u1_places u2_used u2_hours u2_oclocks u2_rooms) (wd_X3_startsAsSeen cy a_v a_v_draft a_v_draft_facts a_v_draft_places a_u1 a_u1_facts a_u1_places a_u2 a_u2_hours a_u2_oclocks a_u2_rooms a_v_least a_v_bestPlaces a_v_startsLeft o.2.1 o.2.2.1 o.2.2.2.1 o.2.2.2.2 u1_boxes u1_startsAt u1_facts u1_places u2_used u2_hours u2_oclocks u2_rooms) o.1 := by
  refine ct_I (cc := cX3_startsAsSeen) (maxL := 5) (plainFor_of_name (by decide)) rfl (Nat.le_of_ble_eq_true rfl) ?_
  intro p e s m below meth c A args QQ hx hb hml hown hts hE hDD hP KR ls hl
  have hl : lv_has ls 5 [(0, .ref a_v), (1, .ref a_u1), (2, .ref a_u2)] := hl
  have hDD : DD A [a_v, a_v_draft, a_v_draft_facts, a_v_draft_places, a_u1, a_u1_facts, a_u1_places, a_u2, a_u2_hours, a_u2_oclocks, a_u2_rooms] := hDD
  have hS : va_S A s.heap s.heap [] := va_S.rf
  have q0 := hts (.fieldLink RX3 12 "HatHours$Search" "draft" "LHatHours$Shop;") (List.mem_of_getElem? (i := 1) rfl)
  have iX3 : ∀ w ∈ u_ws RX3 TX3 4, w ∈ wsX3_startsAsSeen := in_slice 56 4 rfl
  have L13 : ∀ (fuel : Nat) (v_draft_boxes : Int) (v_draft_startsAt : Int) (v_draft_facts : Nat → Int) (v_draft_places : Nat → Int) (x3 : Int) (x4 : Int) (H : Heap) (locs : List Loc) (ls : Array Slot) (ex : Int × Int), va_P D vwCl (wd_X3_startsAsSeen cy a_v a_v_draft a_v_draft_facts a_v_draft_places a_u1 a_u1_facts a_u1_places a_u2 a_u2_hours a_u2_oclocks a_u2_rooms a_v_least a_v_bestPlaces a_v_startsLeft v_draft_boxes v_draft_startsAt v_draft_facts v_draft_places u1_boxes u1_startsAt u1_facts u1_places u2_used u2_hours u2_oclocks u2_rooms) H → va_S A s.heap H locs → lv_has ls 5 [(0, .ref a_v), (2, .ref a_u2), (3, .int (zI x3)), (4, .int (zI x4))] → f_Search_startsAsSeen_L13 fuel v_draft_boxes v_draft_startsAt v_draft_facts v_draft_places u2_used u2_hours u2_oclocks u2_rooms x3 x4 = some ex → (∀ (H : Heap) (locs : List Loc) (ls : Array Slot), va_P D vwCl (wd_X3_startsAsSeen cy a_v a_v_draft a_v_draft_facts a_v_draft_places a_u1 a_u1_facts a_u1_places a_u2 a_u2_hours a_u2_oclocks a_u2_rooms a_v_least a_v_bestPlaces a_v_startsLeft v_draft_boxes ex.2 v_draft_facts v_draft_places u1_boxes u1_startsAt u1_facts u1_places u2_used u2_hours u2_oclocks u2_rooms) H → va_S A s.heap H locs → lv_has ls 5 [(3, .int (zI ex.1))] → W p l e { frames := 5, cells := 0, slots := 0, locals := 113 } s m args below meth c H locs 0 0 QQ (F0 m 53 ls [])) → W p l e { frames := 5, cells := 0, slots := 0, locals := 113 } s m args below meth c H locs 0 0 QQ (F0 m 13 ls []) := by
    intro fuel
    induction fuel with
    | zero => intro _ _ _ _ _ _ H locs ls ex hP hS hl h K; cases h
    | succ fuel ih =>
      intro v_draft_boxes v_draft_startsAt v_draft_facts v_draft_places x3 x4 H locs ls ex hP hS hl h K
      refine lv_iload hx hb dX3_startsAsSeen_13 (lv_at hl 3 rfl) ?_
      refine wi_bi hx hb dX3_startsAsSeen_15 (by decide) ?_
      obtain ⟨hr3, h⟩ := chk_some h
      refine wi_ic_ge (tgt := 53) hx hb dX3_startsAsSeen_17 (by decide) hr3 (by decide) (fun c5 => ?_) (fun c5 => ?_)
      · have h := ite_t c5 h
        obtain rfl := Option.some.inj h
        exact K _ _ _ hP hS (lv_sub hl [2] rfl)
      · have h := ite_f c5 h
        refine lv_aload_n hx hb dX3_startsAsSeen_20 rfl (lv_at hl 0 rfl) ?_
        refine wi_get (v := .ref a_v_draft) hx hb hts iX3 hown hE hP 0 rfl rfl 0 (by decide) q0 rfl dX3_startsAsSeen_21 ?_
        refine lv_iload hx hb dX3_startsAsSeen_24 (lv_at hl 3 rfl) ?_
        obtain ⟨o6, hc7, h⟩ := bnd_some h
        refine cV_v (rest := []) (w2 := (wd_X3_startsAsSeen cy a_v a_v_draft a_v_draft_facts a_v_draft_places a_u1 a_u1_facts a_u1_places a_u2 a_u2_hours a_u2_oclocks a_u2_rooms a_v_least a_v_bestPlaces a_v_startsLeft v_draft_boxes o6 v_draft_facts v_draft_places u1_boxes u1_startsAt u1_facts u1_places u2_used u2_hours u2_oclocks u2_rooms)) ⟨hx, hb, hml, hown, hts⟩ (c_X5_setStart l D cy sa a_v_draft a_v_draft_facts a_v_draft_places v_draft_boxes v_draft_startsAt x4 o6 hc7) (cwV 1 hts gX3_startsAsSeen_X5_setStart rfl rfl rfl (by decide +kernel) ⟨Nat.le_of_ble_eq_true rfl, Nat.le_of_ble_eq_true rfl⟩) rfl rfl rfl hE hP hDD rfl hS [1] rfl rfl rfl rfl hl.1 (Nat.le_of_ble_eq_true rfl) ⟨Nat.zero_le _, Nat.zero_le _⟩ rfl dX3_startsAsSeen_26 rfl (fun H locs hP hS => ?_)
        refine lv_aload_n hx hb dX3_startsAsSeen_29 rfl (lv_at hl 1 rfl) ?_
        refine lv_aload_n hx hb dX3_startsAsSeen_30 rfl (lv_at hl 0 rfl) ?_
        refine wi_get (v := .ref a_v_draft) hx hb hts iX3 hown hE hP 0 rfl rfl 0 (by decide) q0 rfl dX3_startsAsSeen_31 ?_
        obtain ⟨o8, hc9, h⟩ := bnd_some h
        refine cV_i (rest := []) (w2 := (wd_X3_startsAsSeen cy a_v a_v_draft a_v_draft_facts a_v_draft_places a_u1 a_u1_facts a_u1_places a_u2 a_u2_hours a_u2_oclocks a_u2_rooms a_v_least a_v_bestPlaces a_v_startsLeft v_draft_boxes o6 v_draft_facts v_draft_places u1_boxes u1_startsAt u1_facts u1_places u2_used u2_hours u2_oclocks u2_rooms)) ⟨hx, hb, hml, hown, hts⟩ (c_X6_agreeWith l D cy sa a_u2 a_u2_hours a_u2_oclocks a_u2_rooms a_v_draft a_v_draft_facts a_v_draft_places u2_used u2_hours u2_oclocks u2_rooms v_draft_boxes o6 v_draft_facts v_draft_places o8 hc9) (cwV 1 hts gX3_startsAsSeen_X6_agreeWith rfl rfl rfl (by decide +kernel) ⟨Nat.le_of_ble_eq_true rfl, Nat.le_of_ble_eq_true rfl⟩) rfl rfl rfl hE hP hDD rfl hS [7, 8, 9, 10, 1, 2, 3] rfl rfl rfl rfl hl.1 (Nat.le_of_ble_eq_true rfl) ⟨Nat.zero_le _, Nat.zero_le _⟩ rfl dX3_startsAsSeen_34 rfl (fun H locs hP hS => ?_)
        obtain ⟨hr10, h⟩ := chk_some h
        refine wi_if_eq (tgt := 47) hx hb dX3_startsAsSeen_37 (by decide) hr10 (fun c12 => ?_) (fun c12 => ?_)
        · have h := ite_t c12 h
          refine wi_iinc (k := 3) (lv' := [(4, .int (zI (x4 + 1))), (0, .ref a_v), (2, .ref a_u2), (3, .int (zI x3))]) hx hb dX3_startsAsSeen_47 hl rfl (by decide) rfl (fun ls hl => ?_)
          refine lv_goto (tgt := 13) hx hb dX3_startsAsSeen_50 (by decide) ?_
          exact ih v_draft_boxes o6 v_draft_facts v_draft_places x3 (x4 + 1) _ _ _ _ hP hS (lv_sub hl [1, 2, 3, 0] rfl) h K
        · have h := ite_f c12 h
          refine lv_iload_n hx hb dX3_startsAsSeen_40 rfl (lv_at hl 2 rfl) ?_
          refine wi_ic hx hb dX3_startsAsSeen_41 ?_
          refine lv_iload hx hb dX3_startsAsSeen_42 (lv_at hl 3 rfl) ?_
          refine wi_ishl hx hb dX3_startsAsSeen_44 ?_
          refine wi_ior hx hb dX3_startsAsSeen_45 ?_
          refine lv_istore_n (lv' := [(3, .int (zI (zor x3 (zshl 1 x4)))), (0, .ref a_v), (2, .ref a_u2), (4, .int (zI x4))]) hx hb dX3_startsAsSeen_46 rfl hl (by decide) rfl (fun ls hl => ?_)
          refine wi_iinc (k := 3) (lv' := [(4, .int (zI (x4 + 1))), (3, .int (zI (zor x3 (zshl 1 x4)))), (0, .ref a_v), (2, .ref a_u2)]) hx hb dX3_startsAsSeen_47 hl rfl (by decide) rfl (fun ls hl => ?_)
          refine lv_goto (tgt := 13) hx hb dX3_startsAsSeen_50 (by decide) ?_
          exact ih v_draft_boxes o6 v_draft_facts v_draft_places (zor x3 (zshl 1 x4)) (x4 + 1) _ _ _ _ hP hS (lv_sub hl [2, 3, 1, 0] rfl) h K
  refine lv_aload_n hx hb dX3_startsAsSeen_0 rfl (lv_at hl 0 rfl) ?_
  refine wi_get (v := .ref a_v_draft) hx hb hts iX3 hown hE hP 0 rfl rfl 0 (by decide) q0 rfl dX3_startsAsSeen_1 ?_
  refine lv_aload_n hx hb dX3_startsAsSeen_4 rfl (lv_at hl 1 rfl) ?_
  obtain ⟨o1, hc2, h⟩ := bnd_some h
  refine cV_v (rest := []) (w2 := (wd_X3_startsAsSeen cy a_v a_v_draft a_v_draft_facts a_v_draft_places a_u1 a_u1_facts a_u1_places a_u2 a_u2_hours a_u2_oclocks a_u2_rooms a_v_least a_v_bestPlaces a_v_startsLeft o1.1 o1.2.1 o1.2.2.1 o1.2.2.2 u1_boxes u1_startsAt u1_facts u1_places u2_used u2_hours u2_oclocks u2_rooms)) ⟨hx, hb, hml, hown, hts⟩ (c_X5_copyFrom l D cy sa a_v_draft a_v_draft_facts a_v_draft_places a_u1 a_u1_facts a_u1_places v_draft_boxes v_draft_startsAt v_draft_facts v_draft_places u1_boxes u1_startsAt u1_facts u1_places o1 hc2) (cwV 1 hts gX3_startsAsSeen_X5_copyFrom rfl rfl rfl (by decide +kernel) ⟨Nat.le_of_ble_eq_true rfl, Nat.le_of_ble_eq_true rfl⟩) rfl rfl rfl hE hP hDD rfl hS [1, 2, 3, 4, 5, 6] rfl rfl rfl rfl hl.1 (Nat.le_of_ble_eq_true rfl) ⟨Nat.zero_le _, Nat.zero_le _⟩ rfl dX3_startsAsSeen_5 rfl (fun H locs hP hS => ?_)
  refine wi_ic hx hb dX3_startsAsSeen_8 ?_
  refine lv_istore_n (lv' := [(3, .int (zI 0)), (0, .ref a_v), (1, .ref a_u1), (2, .ref a_u2)]) hx hb dX3_startsAsSeen_9 rfl hl (by decide) rfl (fun ls hl => ?_)
  refine wi_ic hx hb dX3_startsAsSeen_10 ?_
  refine lv_istore (lv' := [(4, .int (zI 0)), (3, .int (zI 0)), (0, .ref a_v), (1, .ref a_u1), (2, .ref a_u2)]) hx hb dX3_startsAsSeen_11 hl (by decide) rfl (fun ls hl => ?_)
  obtain ⟨o13, hx14, h⟩ := bnd_some h
  refine L13 5000 o1.1 o1.2.1 o1.2.2.1 o1.2.2.2 0 0 _ _ _ _ hP hS (lv_sub hl [2, 4, 1, 0] rfl) hx14 ?_
  clear hx14
  intro H locs ls hP hS hl
  refine lv_iload_n hx hb dX3_startsAsSeen_53 rfl (lv_at hl 0 rfl) ?_
  obtain rfl := Option.some.inj h
  exact KR _ _ _ _ hP hS dX3_startsAsSeen_54
abbrev wd_X3_factsAsSeen (cy : Nat → ClassId) (a_v : Nat) (a_v_draft : Nat) (a_v_draft_facts : Nat) (a_v_draft_places : Nat) (a_u1 : Nat) (a_u1_facts : Nat) (a_u1_places : Nat) (a_u2 : Nat) (a_u2_hours : Nat) (a_u2_oclocks : Nat) (a_u2_rooms : Nat) (a_v_least : Nat) (a_v_bestPlaces : Nat) (a_v_startsLeft : Nat) (v_draft_boxes : Int) (v_draft_startsAt : Int) (v_draft_facts : Nat → Int) (v_draft_places : Nat → Int) (u1_boxes : Int) (u1_startsAt : Int) (u1_facts : Nat → Int) (u1_places : Nat → Int) (u2_used : Int) (u2_hours : Nat → Int) (u2_oclocks : Nat → Int) (u2_rooms : Nat → Int) : va_W := [(a_v, .inr (3, [.ref a_v_draft, .ref a_v_least, .ref a_v_bestPlaces, .ref a_v_startsLeft])), (a_v_draft, .inr (5, [.ref a_v_draft_facts, .ref a_v_draft_places, .int (zI v_draft_boxes), .int (zI v_draft_startsAt)])), (a_v_draft_facts, .inl (cy 0, 30, .inl (fun j => zI (v_draft_facts j)))), (a_v_draft_places, .inl (cy 0, 5, .inl (fun j => zI (v_draft_places j)))), (a_u1, .inr (5, [.ref a_u1_facts, .ref a_u1_places, .int (zI u1_boxes), .int (zI u1_startsAt)])), (a_u1_facts, .inl (cy 0, 30, .inl (fun j => zI (u1_facts j)))), (a_u1_places, .inl (cy 0, 5, .inl (fun j => zI (u1_places j)))), (a_u2, .inr (6, [.ref a_u2_rooms, .ref a_u2_hours, .ref a_u2_oclocks, .int (zI u2_used)])), (a_u2_hours, .inl (cy 0, 6, .inl (fun j => zI (u2_hours j)))), (a_u2_oclocks, .inl (cy 0, 6, .inl (fun j => zI (u2_oclocks j)))), (a_u2_rooms, .inl (cy 0, 6, .inl (fun j => zI (u2_rooms j))))]
set_option maxHeartbeats 4000000 in
set_option maxRecDepth 100000 in
theorem c_X3_factsAsSeen (l : Launch) (D : va_G) (cy : Nat → ClassId) (sa : Nat → Nat) (a_v : Nat) (a_v_draft : Nat) (a_v_draft_facts : Nat) (a_v_draft_places : Nat) (a_u1 : Nat) (a_u1_facts : Nat) (a_u1_places : Nat) (a_u2 : Nat) (a_u2_hours : Nat) (a_u2_oclocks : Nat) (a_u2_rooms : Nat) (a_v_least : Nat) (a_v_bestPlaces : Nat) (a_v_startsLeft : Nat) (v_draft_boxes : Int) (v_draft_startsAt : Int) (v_draft_facts : Nat → Int) (v_draft_places : Nat → Int) (u1_boxes : Int) (u1_startsAt : Int) (u1_facts : Nat → Int) (u1_places : Nat → Int) (u2_used : Int) (u2_hours : Nat → Int) (u2_oclocks : Nat → Int) (u2_rooms : Nat → Int) (x3 : Int) (x4 : Int) (o : Int × Int × Int × (Nat → Int) × (Nat → Int)) (h : f_Search_factsAsSeen v_draft_boxes v_draft_startsAt v_draft_facts v_draft_places u1_boxes u1_startsAt u1_facts u1_places u2_used u2_hours u2_oclocks u2_rooms x3 x4 = some o) : CtI l yX3_factsAsSeen wsX3_factsAsSeen ({ frames := 5, cells := 0, slots := 0, locals := 113 }) D cy sa [.ref a_v, .ref a_u1, .ref a_u2, .int (zI x3), .int (zI x4)] (wd_X3_factsAsSeen cy a_v a_v_draft a_v_draft_facts a_v_draft_places a_u1 a_u1_facts a_u1_places a_u2 a_u2_hours a_u2_oclocks a_u2_rooms a_v_least a_v_bestPlaces a_v_startsLeft v_draft_boxes v_draft_startsAt v_draft_facts v_draft_places u1_boxes u1_startsAt u1_facts u1_places u2_used u2_hours u2_oclocks u2_rooms) (wd_X3_factsAsSeen cy a_v a_v_draft a_v_draft_facts a_v_draft_places a_u1 a_u1_facts a_u1_places a_u2 a_u2_hours a_u2_oclocks a_u2_rooms a_v_least a_v_bestPlaces a_v_startsLeft o.2.1 o.2.2.1 o.2.2.2.1 o.2.2.2.2 u1_boxes u1_startsAt u1_facts u1_places u2_used u2_hours u2_oclocks u2_rooms) o.1 := by
  refine ct_I (cc := cX3_factsAsSeen) (maxL := 7) (plainFor_of_name (by decide)) rfl (Nat.le_of_ble_eq_true rfl) ?_
  intro p e s m below meth c A args QQ hx hb hml hown hts hE hDD hP KR ls hl
  have hl : lv_has ls 7 [(0, .ref a_v), (1, .ref a_u1), (2, .ref a_u2), (3, .int (zI x3)), (4, .int (zI x4))] := hl
  have hDD : DD A [a_v, a_v_draft, a_v_draft_facts, a_v_draft_places, a_u1, a_u1_facts, a_u1_places, a_u2, a_u2_hours, a_u2_oclocks, a_u2_rooms] := hDD
  have hS : va_S A s.heap s.heap [] := va_S.rf
  have q0 := hts (.fieldLink RX3 12 "HatHours$Search" "draft" "LHatHours$Shop;") (List.mem_of_getElem? (i := 1) rfl)
  have iX3 : ∀ w ∈ u_ws RX3 TX3 4, w ∈ wsX3_factsAsSeen := in_slice 70 4 rfl
  have L18 : ∀ (fuel : Nat) (v_draft_boxes : Int) (v_draft_startsAt : Int) (v_draft_facts : Nat → Int) (v_draft_places : Nat → Int) (x3 : Int) (x4 : Int) (x5 : Int) (x6 : Int) (H : Heap) (locs : List Loc) (ls : Array Slot) (ex : Int × (Nat → Int)), va_P D vwCl (wd_X3_factsAsSeen cy a_v a_v_draft a_v_draft_facts a_v_draft_places a_u1 a_u1_facts a_u1_places a_u2 a_u2_hours a_u2_oclocks a_u2_rooms a_v_least a_v_bestPlaces a_v_startsLeft v_draft_boxes v_draft_startsAt v_draft_facts v_draft_places u1_boxes u1_startsAt u1_facts u1_places u2_used u2_hours u2_oclocks u2_rooms) H → va_S A s.heap H locs → lv_has ls 7 [(0, .ref a_v), (2, .ref a_u2), (3, .int (zI x3)), (4, .int (zI x4)), (5, .int (zI x5)), (6, .int (zI x6))] → f_Search_factsAsSeen_L18 fuel v_draft_boxes v_draft_startsAt v_draft_facts v_draft_places u2_used u2_hours u2_oclocks u2_rooms x3 x4 x5 x6 = some ex → (∀ (H : Heap) (locs : List Loc) (ls : Array Slot), va_P D vwCl (wd_X3_factsAsSeen cy a_v a_v_draft a_v_draft_facts a_v_draft_places a_u1 a_u1_facts a_u1_places a_u2 a_u2_hours a_u2_oclocks a_u2_rooms a_v_least a_v_bestPlaces a_v_startsLeft v_draft_boxes v_draft_startsAt ex.2 v_draft_places u1_boxes u1_startsAt u1_facts u1_places u2_used u2_hours u2_oclocks u2_rooms) H → va_S A s.heap H locs → lv_has ls 7 [(5, .int (zI ex.1))] → W p l e { frames := 5, cells := 0, slots := 0, locals := 113 } s m args below meth c H locs 0 0 QQ (F0 m 66 ls [])) → W p l e { frames := 5, cells := 0, slots := 0, locals := 113 } s m args below meth c H locs 0 0 QQ (F0 m 18 ls []) := by
    intro fuel
    induction fuel with
    | zero => intro _ _ _ _ _ _ _ _ H locs ls ex hP hS hl h K; cases h
    | succ fuel ih =>
      intro v_draft_boxes v_draft_startsAt v_draft_facts v_draft_places x3 x4 x5 x6 H locs ls ex hP hS hl h K
      refine lv_iload hx hb dX3_factsAsSeen_18 (lv_at hl 5 rfl) ?_
      refine lv_iload hx hb dX3_factsAsSeen_20 (lv_at hl 3 rfl) ?_
      obtain ⟨o5, hc6, h⟩ := bnd_some h
      refine cS_i (rest := [.int (zI x6)]) (w2 := (wd_X3_factsAsSeen cy a_v a_v_draft a_v_draft_facts a_v_draft_places a_u1 a_u1_facts a_u1_places a_u2 a_u2_hours a_u2_oclocks a_u2_rooms a_v_least a_v_bestPlaces a_v_startsLeft v_draft_boxes v_draft_startsAt v_draft_facts v_draft_places u1_boxes u1_startsAt u1_facts u1_places u2_used u2_hours u2_oclocks u2_rooms)) ⟨hx, hb, hml, hown, hts⟩ (c_X5_most l D cy sa x4 o5 hc6) (va_cwS 1 hts gX3_factsAsSeen_X5_most rfl rfl rfl (by decide +kernel) ⟨Nat.le_of_ble_eq_true rfl, Nat.le_of_ble_eq_true rfl⟩) hE hP hDD rfl hS [] rfl rfl rfl rfl hl.1 (Nat.le_of_ble_eq_true rfl) ⟨Nat.zero_le _, Nat.zero_le _⟩ rfl dX3_factsAsSeen_22 rfl (fun H locs hP hS => ?_)
      obtain ⟨hr7, h⟩ := chk_some h
      obtain ⟨hr8, h⟩ := chk_some h
      refine wi_ic_gt (tgt := 66) hx hb dX3_factsAsSeen_25 (by decide) hr7 hr8 (fun c10 => ?_) (fun c10 => ?_)
      · have h := ite_t c10 h
        obtain rfl := Option.some.inj h
        exact K _ _ _ hP hS (lv_sub hl [4] rfl)
      · have h := ite_f c10 h
        refine lv_aload_n hx hb dX3_factsAsSeen_28 rfl (lv_at hl 0 rfl) ?_
        refine wi_get (v := .ref a_v_draft) hx hb hts iX3 hown hE hP 0 rfl rfl 0 (by decide) q0 rfl dX3_factsAsSeen_29 ?_
        refine lv_iload_n hx hb dX3_factsAsSeen_32 rfl (lv_at hl 2 rfl) ?_
        refine lv_iload hx hb dX3_factsAsSeen_33 (lv_at hl 3 rfl) ?_
        refine lv_iload hx hb dX3_factsAsSeen_35 (lv_at hl 5 rfl) ?_
        obtain ⟨o11, hc12, h⟩ := bnd_some h
        refine cV_v (rest := []) (w2 := (wd_X3_factsAsSeen cy a_v a_v_draft a_v_draft_facts a_v_draft_places a_u1 a_u1_facts a_u1_places a_u2 a_u2_hours a_u2_oclocks a_u2_rooms a_v_least a_v_bestPlaces a_v_startsLeft v_draft_boxes v_draft_startsAt o11 v_draft_places u1_boxes u1_startsAt u1_facts u1_places u2_used u2_hours u2_oclocks u2_rooms)) ⟨hx, hb, hml, hown, hts⟩ (c_X5_setFact l D cy sa a_v_draft a_v_draft_facts a_v_draft_places v_draft_boxes v_draft_startsAt v_draft_facts x3 x4 x6 o11 hc12) (cwV 3 hts gX3_factsAsSeen_X5_setFact rfl rfl rfl (by decide +kernel) ⟨Nat.le_of_ble_eq_true rfl, Nat.le_of_ble_eq_true rfl⟩) rfl rfl rfl hE hP hDD rfl hS [1, 2] rfl rfl rfl rfl hl.1 (Nat.le_of_ble_eq_true rfl) ⟨Nat.zero_le _, Nat.zero_le _⟩ rfl dX3_factsAsSeen_37 rfl (fun H locs hP hS => ?_)
        refine lv_aload_n hx hb dX3_factsAsSeen_40 rfl (lv_at hl 1 rfl) ?_
        refine lv_aload_n hx hb dX3_factsAsSeen_41 rfl (lv_at hl 0 rfl) ?_
        refine wi_get (v := .ref a_v_draft) hx hb hts iX3 hown hE hP 0 rfl rfl 0 (by decide) q0 rfl dX3_factsAsSeen_42 ?_
        obtain ⟨o13, hc14, h⟩ := bnd_some h
        refine cV_i (rest := []) (w2 := (wd_X3_factsAsSeen cy a_v a_v_draft a_v_draft_facts a_v_draft_places a_u1 a_u1_facts a_u1_places a_u2 a_u2_hours a_u2_oclocks a_u2_rooms a_v_least a_v_bestPlaces a_v_startsLeft v_draft_boxes v_draft_startsAt o11 v_draft_places u1_boxes u1_startsAt u1_facts u1_places u2_used u2_hours u2_oclocks u2_rooms)) ⟨hx, hb, hml, hown, hts⟩ (c_X6_agreeWith l D cy sa a_u2 a_u2_hours a_u2_oclocks a_u2_rooms a_v_draft a_v_draft_facts a_v_draft_places u2_used u2_hours u2_oclocks u2_rooms v_draft_boxes v_draft_startsAt o11 v_draft_places o13 hc14) (cwV 1 hts gX3_factsAsSeen_X6_agreeWith rfl rfl rfl (by decide +kernel) ⟨Nat.le_of_ble_eq_true rfl, Nat.le_of_ble_eq_true rfl⟩) rfl rfl rfl hE hP hDD rfl hS [7, 8, 9, 10, 1, 2, 3] rfl rfl rfl rfl hl.1 (Nat.le_of_ble_eq_true rfl) ⟨Nat.zero_le _, Nat.zero_le _⟩ rfl dX3_factsAsSeen_45 rfl (fun H locs hP hS => ?_)
        obtain ⟨hr15, h⟩ := chk_some h
        refine wi_if_eq (tgt := 60) hx hb dX3_factsAsSeen_48 (by decide) hr15 (fun c17 => ?_) (fun c17 => ?_)
        · have h := ite_t c17 h
          refine wi_iinc (k := 5) (lv' := [(6, .int (zI (x6 + 1))), (0, .ref a_v), (2, .ref a_u2), (3, .int (zI x3)), (4, .int (zI x4)), (5, .int (zI x5))]) hx hb dX3_factsAsSeen_60 hl rfl (by decide) rfl (fun ls hl => ?_)
          refine lv_goto (tgt := 18) hx hb dX3_factsAsSeen_63 (by decide) ?_
          exact ih v_draft_boxes v_draft_startsAt o11 v_draft_places x3 x4 x5 (x6 + 1) _ _ _ _ hP hS (lv_sub hl [1, 2, 3, 4, 5, 0] rfl) h K
        · have h := ite_f c17 h
          refine lv_iload hx hb dX3_factsAsSeen_51 (lv_at hl 4 rfl) ?_
          refine wi_ic hx hb dX3_factsAsSeen_53 ?_
          refine lv_iload hx hb dX3_factsAsSeen_54 (lv_at hl 5 rfl) ?_
          refine wi_ishl hx hb dX3_factsAsSeen_56 ?_
          refine wi_ior hx hb dX3_factsAsSeen_57 ?_
          refine lv_istore (lv' := [(5, .int (zI (zor x5 (zshl 1 x6)))), (0, .ref a_v), (2, .ref a_u2), (3, .int (zI x3)), (4, .int (zI x4)), (6, .int (zI x6))]) hx hb dX3_factsAsSeen_58 hl (by decide) rfl (fun ls hl => ?_)
          refine wi_iinc (k := 5) (lv' := [(6, .int (zI (x6 + 1))), (5, .int (zI (zor x5 (zshl 1 x6)))), (0, .ref a_v), (2, .ref a_u2), (3, .int (zI x3)), (4, .int (zI x4))]) hx hb dX3_factsAsSeen_60 hl rfl (by decide) rfl (fun ls hl => ?_)
          refine lv_goto (tgt := 18) hx hb dX3_factsAsSeen_63 (by decide) ?_
          exact ih v_draft_boxes v_draft_startsAt o11 v_draft_places x3 x4 (zor x5 (zshl 1 x6)) (x6 + 1) _ _ _ _ hP hS (lv_sub hl [2, 3, 4, 5, 1, 0] rfl) h K
  refine lv_aload_n hx hb dX3_factsAsSeen_0 rfl (lv_at hl 0 rfl) ?_
  refine wi_get (v := .ref a_v_draft) hx hb hts iX3 hown hE hP 0 rfl rfl 0 (by decide) q0 rfl dX3_factsAsSeen_1 ?_
  refine lv_aload_n hx hb dX3_factsAsSeen_4 rfl (lv_at hl 1 rfl) ?_
  obtain ⟨o1, hc2, h⟩ := bnd_some h
  refine cV_v (rest := []) (w2 := (wd_X3_factsAsSeen cy a_v a_v_draft a_v_draft_facts a_v_draft_places a_u1 a_u1_facts a_u1_places a_u2 a_u2_hours a_u2_oclocks a_u2_rooms a_v_least a_v_bestPlaces a_v_startsLeft o1.1 o1.2.1 o1.2.2.1 o1.2.2.2 u1_boxes u1_startsAt u1_facts u1_places u2_used u2_hours u2_oclocks u2_rooms)) ⟨hx, hb, hml, hown, hts⟩ (c_X5_copyFrom l D cy sa a_v_draft a_v_draft_facts a_v_draft_places a_u1 a_u1_facts a_u1_places v_draft_boxes v_draft_startsAt v_draft_facts v_draft_places u1_boxes u1_startsAt u1_facts u1_places o1 hc2) (cwV 1 hts gX3_factsAsSeen_X5_copyFrom rfl rfl rfl (by decide +kernel) ⟨Nat.le_of_ble_eq_true rfl, Nat.le_of_ble_eq_true rfl⟩) rfl rfl rfl hE hP hDD rfl hS [1, 2, 3, 4, 5, 6] rfl rfl rfl rfl hl.1 (Nat.le_of_ble_eq_true rfl) ⟨Nat.zero_le _, Nat.zero_le _⟩ rfl dX3_factsAsSeen_5 rfl (fun H locs hP hS => ?_)
  refine wi_ic hx hb dX3_factsAsSeen_8 ?_
  refine lv_istore (lv' := [(5, .int (zI 0)), (0, .ref a_v), (1, .ref a_u1), (2, .ref a_u2), (3, .int (zI x3)), (4, .int (zI x4))]) hx hb dX3_factsAsSeen_9 hl (by decide) rfl (fun ls hl => ?_)
  refine lv_iload hx hb dX3_factsAsSeen_11 (lv_at hl 5 rfl) ?_
  obtain ⟨o3, hc4, h⟩ := bnd_some h
  refine cS_i (rest := []) (w2 := (wd_X3_factsAsSeen cy a_v a_v_draft a_v_draft_facts a_v_draft_places a_u1 a_u1_facts a_u1_places a_u2 a_u2_hours a_u2_oclocks a_u2_rooms a_v_least a_v_bestPlaces a_v_startsLeft o1.1 o1.2.1 o1.2.2.1 o1.2.2.2 u1_boxes u1_startsAt u1_facts u1_places u2_used u2_hours u2_oclocks u2_rooms)) ⟨hx, hb, hml, hown, hts⟩ (c_X5_least l D cy sa x4 o3 hc4) (va_cwS 1 hts gX3_factsAsSeen_X5_least rfl rfl rfl (by decide +kernel) ⟨Nat.le_of_ble_eq_true rfl, Nat.le_of_ble_eq_true rfl⟩) hE hP hDD rfl hS [] rfl rfl rfl rfl hl.1 (Nat.le_of_ble_eq_true rfl) ⟨Nat.zero_le _, Nat.zero_le _⟩ rfl dX3_factsAsSeen_13 rfl (fun H locs hP hS => ?_)
  refine lv_istore (lv' := [(6, .int (zI o3)), (5, .int (zI 0)), (0, .ref a_v), (1, .ref a_u1), (2, .ref a_u2), (3, .int (zI x3)), (4, .int (zI x4))]) hx hb dX3_factsAsSeen_16 hl (by decide) rfl (fun ls hl => ?_)
  obtain ⟨o18, hx19, h⟩ := bnd_some h
  refine L18 5000 o1.1 o1.2.1 o1.2.2.1 o1.2.2.2 x3 x4 0 o3 _ _ _ _ hP hS (lv_sub hl [2, 4, 5, 6, 1, 0] rfl) hx19 ?_
  clear hx19
  intro H locs ls hP hS hl
  refine lv_iload hx hb dX3_factsAsSeen_66 (lv_at hl 0 rfl) ?_
  obtain rfl := Option.some.inj h
  exact KR _ _ _ _ hP hS dX3_factsAsSeen_68
abbrev wd_X1_mayBecomeLess (cy : Nat → ClassId) (a_v : Nat) (v_at : Int) (v_value : Int) : va_W := [(a_v, .inr (1, [.int (zI v_at), .int (zI v_value)]))]
set_option maxHeartbeats 4000000 in
set_option maxRecDepth 100000 in
theorem c_X1_mayBecomeLess (l : Launch) (D : va_G) (cy : Nat → ClassId) (sa : Nat → Nat) (a_v : Nat) (v_at : Int) (v_value : Int) (x1 : Int) (o : Int) (h : f_Least_mayBecomeLess v_value x1 = some o) : CtI l yX1_mayBecomeLess wsX1_mayBecomeLess ({ frames := 0, cells := 0, slots := 0, locals := 0 }) D cy sa [.ref a_v, .int (zI x1)] (wd_X1_mayBecomeLess cy a_v v_at v_value) (wd_X1_mayBecomeLess cy a_v v_at v_value) o := by
  refine ct_Z (cc := cX1_mayBecomeLess) (maxL := 2) (plainFor_of_name (by decide)) rfl (Nat.le_of_ble_eq_true rfl) ?_
  intro p e s m below meth c A args QQ hx hb hml hown hts hE hDD hP KR ls hl
  have hl : lv_has ls 2 [(0, .ref a_v), (1, .int (zI x1))] := hl
  have hDD : DD A [a_v] := hDD
  have hS : va_S A s.heap s.heap [] := va_S.rf
  have q0 := hts (.fieldLink RX1 15 "HatHours$Least" "value" "I") (List.mem_of_getElem? (i := 1) rfl)
  have iX1 : ∀ w ∈ u_ws RX1 TX1 2, w ∈ wsX1_mayBecomeLess := in_slice 2 2 rfl
  refine lv_aload_n hx hb dX1_mayBecomeLess_0 rfl (lv_at hl 0 rfl) ?_
  refine wi_get (v := .int (zI v_value)) hx hb hts iX1 hown hE hP 0 rfl rfl 1 (by decide) q0 rfl dX1_mayBecomeLess_1 ?_
  refine lv_iload_n hx hb dX1_mayBecomeLess_4 rfl (lv_at hl 1 rfl) ?_
  obtain ⟨hr1, h⟩ := chk_some h
  obtain ⟨hr2, h⟩ := chk_some h
  refine wi_ic_le (tgt := 12) hx hb dX1_mayBecomeLess_5 (by decide) hr1 hr2 (fun c4 => ?_) (fun c4 => ?_)
  · have h := ite_t c4 h
    refine wi_ic hx hb dX1_mayBecomeLess_12 ?_
    obtain rfl := Option.some.inj h
    exact KR _ _ _ _ (z01 (Or.inl rfl)) hP hS dX1_mayBecomeLess_13
  · have h := ite_f c4 h
    refine wi_ic hx hb dX1_mayBecomeLess_8 ?_
    refine lv_goto (tgt := 13) hx hb dX1_mayBecomeLess_9 (by decide) ?_
    obtain rfl := Option.some.inj h
    exact KR _ _ _ _ (z01 (Or.inr rfl)) hP hS dX1_mayBecomeLess_13
