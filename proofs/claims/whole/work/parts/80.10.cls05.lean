abbrev wd_X3_mostLeft (cy : Nat → ClassId) (a_v : Nat) (a_v_draft : Nat) (a_v_draft_facts : Nat) (a_v_draft_places : Nat) (a_v_startsLeft : Nat) (a_v_least : Nat) (a_v_bestPlaces : Nat) (v_draft_boxes : Int) (v_draft_startsAt : Int) (v_draft_facts : Nat → Int) (v_draft_places : Nat → Int) (v_startsLeft : Nat → Int) : va_W := [(a_v, .inr (3, [.ref a_v_draft, .ref a_v_least, .ref a_v_bestPlaces, .ref a_v_startsLeft])), (a_v_draft, .inr (5, [.ref a_v_draft_facts, .ref a_v_draft_places, .int (zI v_draft_boxes), .int (zI v_draft_startsAt)])), (a_v_draft_facts, .inl (cy 0, 30, .inl (fun j => zI (v_draft_facts j)))), (a_v_draft_places, .inl (cy 0, 5, .inl (fun j => zI (v_draft_places j)))), (a_v_startsLeft, .inl (cy 0, 24, .inl (fun j => zI (v_startsLeft j))))]
set_option maxHeartbeats 4000000 in
set_option maxRecDepth 100000 in
theorem c_X3_mostLeft (l : Launch) (D : va_G) (cy : Nat → ClassId) (sa : Nat → Nat) (a_v : Nat) (a_v_draft : Nat) (a_v_draft_facts : Nat) (a_v_draft_places : Nat) (a_v_startsLeft : Nat) (a_v_least : Nat) (a_v_bestPlaces : Nat) (v_draft_boxes : Int) (v_draft_startsAt : Int) (v_draft_facts : Nat → Int) (v_draft_places : Nat → Int) (v_startsLeft : Nat → Int) (x1 : Int) (x2 : Int) (x3 : Int) (o : Int × Int × (Nat → Int)) (h : f_Search_mostLeft v_draft_boxes v_draft_startsAt v_draft_facts v_draft_places v_startsLeft x1 x2 x3 = some o) : CtI l yX3_mostLeft wsX3_mostLeft ({ frames := 3, cells := 0, slots := 0, locals := 68 }) D cy sa [.ref a_v, .int (zI x1), .int (zI x2), .int (zI x3)] (wd_X3_mostLeft cy a_v a_v_draft a_v_draft_facts a_v_draft_places a_v_startsLeft a_v_least a_v_bestPlaces v_draft_boxes v_draft_startsAt v_draft_facts v_draft_places v_startsLeft) (wd_X3_mostLeft cy a_v a_v_draft a_v_draft_facts a_v_draft_places a_v_startsLeft a_v_least a_v_bestPlaces v_draft_boxes o.2.1 v_draft_facts v_draft_places o.2.2) o.1 := by
  refine ct_I (cc := cX3_mostLeft) (maxL := 8) (plainFor_of_name (by decide)) rfl (Nat.le_of_ble_eq_true rfl) ?_
  intro p e s m below meth c A args QQ hx hb hml hown hts hE hDD hP KR ls hl
  have hl : lv_has ls 8 [(0, .ref a_v), (1, .int (zI x1)), (2, .int (zI x2)), (3, .int (zI x3))] := hl
  have hDD : DD A [a_v, a_v_draft, a_v_draft_facts, a_v_draft_places, a_v_startsLeft] := hDD
  have hS : va_S A s.heap s.heap [] := va_S.rf
  have q0 := hts (.fieldLink RX3 12 "HatHours$Search" "draft" "LHatHours$Shop;") (List.mem_of_getElem? (i := 1) rfl)
  have q1 := hts (.fieldLink RX3 29 "HatHours$Search" "startsLeft" "[I") (List.mem_of_getElem? (i := 2) rfl)
  have q2 := hts (.initialized RX9) (List.mem_of_getElem? (i := 48) rfl)
  have q3 := hts (.static yX9_isHour) (List.mem_of_getElem? (i := 47) rfl)
  have q4 := hts (.methodLink RX3 133 Lib.Math.max.name) (List.mem_of_getElem? (i := 3) rfl)
  have q5 := hts (.static Lib.Math.max.name) (List.mem_of_getElem? (i := 4) rfl)
  have q6 := hts (.initialized "java/lang/Math") (List.mem_of_getElem? (i := 5) rfl)
  have q7 := hts (.code Lib.Math.max.name Lib.Math.max.code 2 (some .int)) (List.mem_of_getElem? (i := 6) rfl)
  have iX3 : ∀ w ∈ u_ws RX3 TX3 4, w ∈ wsX3_mostLeft := in_slice 53 4 rfl
  have L29 : ∀ (fuel : Nat) (v_draft_startsAt : Int) (v_startsLeft : Nat → Int) (x2 : Int) (x3 : Int) (x4 : Int) (x5 : Int) (x6 : Int) (H : Heap) (locs : List Loc) (ls : Array Slot) (ex : (Nat → Int)), va_P D vwCl (wd_X3_mostLeft cy a_v a_v_draft a_v_draft_facts a_v_draft_places a_v_startsLeft a_v_least a_v_bestPlaces v_draft_boxes v_draft_startsAt v_draft_facts v_draft_places v_startsLeft) H → va_S A s.heap H locs → lv_has ls 8 [(0, .ref a_v), (2, .int (zI x2)), (3, .int (zI x3)), (4, .int (zI x4)), (5, .int (zI x5)), (6, .int (zI x6))] → f_Search_mostLeft_L29 fuel v_startsLeft x6 = some ex → (∀ (H : Heap) (locs : List Loc) (ls : Array Slot), va_P D vwCl (wd_X3_mostLeft cy a_v a_v_draft a_v_draft_facts a_v_draft_places a_v_startsLeft a_v_least a_v_bestPlaces v_draft_boxes v_draft_startsAt v_draft_facts v_draft_places ex) H → va_S A s.heap H locs → lv_has ls 8 [(0, .ref a_v), (2, .int (zI x2)), (3, .int (zI x3)), (4, .int (zI x4)), (5, .int (zI x5))] → W p l e { frames := 3, cells := 0, slots := 0, locals := 68 } s m args below meth c H locs 0 0 QQ (F0 m 50 ls [])) → W p l e { frames := 3, cells := 0, slots := 0, locals := 68 } s m args below meth c H locs 0 0 QQ (F0 m 29 ls []) := by
    intro fuel
    induction fuel with
    | zero => intro _ _ _ _ _ _ _ H locs ls ex hP hS hl h K; cases h
    | succ fuel ih =>
      intro v_draft_startsAt v_startsLeft x2 x3 x4 x5 x6 H locs ls ex hP hS hl h K
      refine lv_iload hx hb dX3_mostLeft_29 (lv_at hl 5 rfl) ?_
      refine wi_bi hx hb dX3_mostLeft_31 (by decide) ?_
      obtain ⟨hr6, h⟩ := chk_some h
      refine wi_ic_ge (tgt := 50) hx hb dX3_mostLeft_33 (by decide) hr6 (by decide) (fun c8 => ?_) (fun c8 => ?_)
      · have h := ite_t c8 h
        obtain rfl := Option.some.inj h
        exact K _ _ _ hP hS (lv_sub hl [0, 1, 2, 3, 4] rfl)
      · have h := ite_f c8 h
        refine lv_aload_n hx hb dX3_mostLeft_36 rfl (lv_at hl 0 rfl) ?_
        refine wi_get (v := .ref a_v_startsLeft) hx hb hts iX3 hown hE hP 0 rfl rfl 3 (by decide) q1 rfl dX3_mostLeft_37 ?_
        refine lv_iload hx hb dX3_mostLeft_40 (lv_at hl 5 rfl) ?_
        refine wi_ic hx hb dX3_mostLeft_42 ?_
        obtain ⟨hk9, h⟩ := chk_some h
        refine wi_iast (w2 := (wd_X3_mostLeft cy a_v a_v_draft a_v_draft_facts a_v_draft_places a_v_startsLeft a_v_least a_v_bestPlaces v_draft_boxes v_draft_startsAt v_draft_facts v_draft_places (upZ v_startsLeft (x6).toNat 0))) hx hb hE hP hDD rfl hS 4 rfl (by decide) hk9 dX3_mostLeft_43 rfl (fun H locs hP hS => ?_)
        refine wi_iinc (k := 5) (lv' := [(6, .int (zI (x6 + 1))), (0, .ref a_v), (2, .int (zI x2)), (3, .int (zI x3)), (4, .int (zI x4)), (5, .int (zI x5))]) hx hb dX3_mostLeft_44 hl rfl (by decide) rfl (fun ls hl => ?_)
        refine lv_goto (tgt := 29) hx hb dX3_mostLeft_47 (by decide) ?_
        exact ih v_draft_startsAt (upZ v_startsLeft (x6).toNat 0) x2 x3 x4 x5 (x6 + 1) _ _ _ _ hP hS (lv_sub hl [1, 2, 3, 4, 5, 0] rfl) h K
  have L53 : ∀ (fuel : Nat) (v_draft_startsAt : Int) (v_startsLeft : Nat → Int) (x2 : Int) (x3 : Int) (x4 : Int) (x5 : Int) (x6 : Int) (H : Heap) (locs : List Loc) (ls : Array Slot) (ex : Int × Int × (Nat → Int)), va_P D vwCl (wd_X3_mostLeft cy a_v a_v_draft a_v_draft_facts a_v_draft_places a_v_startsLeft a_v_least a_v_bestPlaces v_draft_boxes v_draft_startsAt v_draft_facts v_draft_places v_startsLeft) H → va_S A s.heap H locs → lv_has ls 8 [(0, .ref a_v), (2, .int (zI x2)), (3, .int (zI x3)), (4, .int (zI x4)), (5, .int (zI x5)), (6, .int (zI x6))] → f_Search_mostLeft_L53 fuel v_draft_boxes v_draft_startsAt v_draft_facts v_draft_places v_startsLeft x2 x3 x4 x5 x6 = some ex → (∀ (H : Heap) (locs : List Loc) (ls : Array Slot), va_P D vwCl (wd_X3_mostLeft cy a_v a_v_draft a_v_draft_facts a_v_draft_places a_v_startsLeft a_v_least a_v_bestPlaces v_draft_boxes ex.2.1 v_draft_facts v_draft_places ex.2.2) H → va_S A s.heap H locs → lv_has ls 8 [(5, .int (zI ex.1))] → W p l e { frames := 3, cells := 0, slots := 0, locals := 68 } s m args below meth c H locs 0 0 QQ (F0 m 130 ls [])) → W p l e { frames := 3, cells := 0, slots := 0, locals := 68 } s m args below meth c H locs 0 0 QQ (F0 m 53 ls []) := by
    intro fuel
    induction fuel with
    | zero => intro _ _ _ _ _ _ _ H locs ls ex hP hS hl h K; cases h
    | succ fuel ih =>
      intro v_draft_startsAt v_startsLeft x2 x3 x4 x5 x6 H locs ls ex hP hS hl h K
      refine lv_iload hx hb dX3_mostLeft_53 (lv_at hl 5 rfl) ?_
      refine wi_bi hx hb dX3_mostLeft_55 (by decide) ?_
      obtain ⟨hr12, h⟩ := chk_some h
      refine wi_ic_ge (tgt := 130) hx hb dX3_mostLeft_57 (by decide) hr12 (by decide) (fun c14 => ?_) (fun c14 => ?_)
      · have h := ite_t c14 h
        obtain rfl := Option.some.inj h
        exact K _ _ _ hP hS (lv_sub hl [4] rfl)
      · have h := ite_f c14 h
        refine lv_iload_n hx hb dX3_mostLeft_60 rfl (lv_at hl 2 rfl) ?_
        refine lv_iload hx hb dX3_mostLeft_61 (lv_at hl 5 rfl) ?_
        refine wi_ishr hx hb dX3_mostLeft_63 ?_
        refine wi_ic hx hb dX3_mostLeft_64 ?_
        refine wi_iand hx hb dX3_mostLeft_65 ?_
        refine wi_ic hx hb dX3_mostLeft_66 ?_
        refine wi_ic_ne (tgt := 124) hx hb dX3_mostLeft_67 (by decide) (inR_of _) (by decide) (fun c16 => ?_) (fun c16 => ?_)
        · have h := ite_f c16 h
          refine wi_iinc (k := 5) (lv' := [(6, .int (zI (x6 + 1))), (0, .ref a_v), (2, .int (zI x2)), (3, .int (zI x3)), (4, .int (zI x4)), (5, .int (zI x5))]) hx hb dX3_mostLeft_124 hl rfl (by decide) rfl (fun ls hl => ?_)
          refine lv_goto (tgt := 53) hx hb dX3_mostLeft_127 (by decide) ?_
          exact ih v_draft_startsAt v_startsLeft x2 x3 x4 x5 (x6 + 1) _ _ _ _ hP hS (lv_sub hl [1, 2, 3, 4, 5, 0] rfl) h K
        · have h := ite_t c16 h
          refine lv_aload_n hx hb dX3_mostLeft_70 rfl (lv_at hl 0 rfl) ?_
          refine wi_get (v := .ref a_v_draft) hx hb hts iX3 hown hE hP 0 rfl rfl 0 (by decide) q0 rfl dX3_mostLeft_71 ?_
          refine lv_iload hx hb dX3_mostLeft_74 (lv_at hl 5 rfl) ?_
          obtain ⟨o17, hc18, h⟩ := bnd_some h
          refine cV_v (rest := []) (w2 := (wd_X3_mostLeft cy a_v a_v_draft a_v_draft_facts a_v_draft_places a_v_startsLeft a_v_least a_v_bestPlaces v_draft_boxes o17 v_draft_facts v_draft_places v_startsLeft)) ⟨hx, hb, hml, hown, hts⟩ (c_X5_setStart l D cy sa a_v_draft a_v_draft_facts a_v_draft_places v_draft_boxes v_draft_startsAt x6 o17 hc18) (cwV 1 hts gX3_mostLeft_X5_setStart rfl rfl rfl (by decide +kernel) ⟨Nat.le_of_ble_eq_true rfl, Nat.le_of_ble_eq_true rfl⟩) rfl rfl rfl hE hP hDD rfl hS [1] rfl rfl rfl rfl hl.1 (Nat.le_of_ble_eq_true rfl) ⟨Nat.zero_le _, Nat.zero_le _⟩ rfl dX3_mostLeft_76 rfl (fun H locs hP hS => ?_)
          refine lv_aload_n hx hb dX3_mostLeft_79 rfl (lv_at hl 0 rfl) ?_
          refine wi_get (v := .ref a_v_draft) hx hb hts iX3 hown hE hP 0 rfl rfl 0 (by decide) q0 rfl dX3_mostLeft_80 ?_
          refine lv_iload hx hb dX3_mostLeft_83 (lv_at hl 3 rfl) ?_
          refine lv_iload_n hx hb dX3_mostLeft_85 rfl (lv_at hl 1 rfl) ?_
          obtain ⟨o19, hc20, h⟩ := bnd_some h
          refine cV_i (rest := []) (w2 := (wd_X3_mostLeft cy a_v a_v_draft a_v_draft_facts a_v_draft_places a_v_startsLeft a_v_least a_v_bestPlaces v_draft_boxes o17 v_draft_facts v_draft_places v_startsLeft)) ⟨hx, hb, hml, hown, hts⟩ (c_X5_oclockBy l D cy sa a_v_draft a_v_draft_facts a_v_draft_places v_draft_boxes o17 v_draft_facts v_draft_places x4 x2 o19 hc20) (cwV 2 hts gX3_mostLeft_X5_oclockBy rfl rfl rfl (by decide +kernel) ⟨Nat.le_of_ble_eq_true rfl, Nat.le_of_ble_eq_true rfl⟩) rfl rfl rfl hE hP hDD rfl hS [1, 2, 3] rfl rfl rfl rfl hl.1 (Nat.le_of_ble_eq_true rfl) ⟨Nat.zero_le _, Nat.zero_le _⟩ rfl dX3_mostLeft_86 rfl (fun H locs hP hS => ?_)
          refine lv_istore (lv' := [(7, .int (zI o19)), (0, .ref a_v), (2, .int (zI x2)), (3, .int (zI x3)), (4, .int (zI x4)), (5, .int (zI x5)), (6, .int (zI x6))]) hx hb dX3_mostLeft_89 hl (by decide) rfl (fun ls hl => ?_)
          refine lv_iload hx hb dX3_mostLeft_91 (lv_at hl 0 rfl) ?_
          obtain ⟨o21, hc22, h⟩ := bnd_some h
          refine cN_i (rest := []) (w2 := (wd_X3_mostLeft cy a_v a_v_draft a_v_draft_facts a_v_draft_places a_v_startsLeft a_v_least a_v_bestPlaces v_draft_boxes o17 v_draft_facts v_draft_places v_startsLeft)) ⟨hx, hb, hml, hown, hts⟩ (c_X9_isHour l D cy sa o19 o21 hc22) ⟨va_cnB 1 hts gX3_mostLeft_X9_isHour_n130 rfl rfl rfl (hE.2.1.1 ("HatHours$Search", 130, ⟨"HatHours", "isHour", "(I)Z"⟩, "HatHours") (List.mem_of_getElem? (i := 17) rfl)) q2 (by decide +kernel) ⟨Nat.le_of_ble_eq_true rfl, Nat.le_of_ble_eq_true rfl⟩, q3, trivial⟩ hE hP hDD rfl hS [] rfl rfl rfl rfl hl.1 (Nat.le_of_ble_eq_true rfl) ⟨Nat.zero_le _, Nat.zero_le _⟩ rfl dX3_mostLeft_93 rfl (fun H locs hP hS => ?_)
          obtain ⟨hr23, h⟩ := chk_some h
          refine wi_if_eq (tgt := 124) hx hb dX3_mostLeft_96 (by decide) hr23 (fun c25 => ?_) (fun c25 => ?_)
          · have h := ite_t c25 h
            refine wi_iinc (k := 6) (lv' := [(6, .int (zI (x6 + 1))), (7, .int (zI o19)), (0, .ref a_v), (2, .int (zI x2)), (3, .int (zI x3)), (4, .int (zI x4)), (5, .int (zI x5))]) hx hb dX3_mostLeft_124 hl rfl (by decide) rfl (fun ls hl => ?_)
            refine lv_goto (tgt := 53) hx hb dX3_mostLeft_127 (by decide) ?_
            exact ih o17 v_startsLeft x2 x3 x4 x5 (x6 + 1) _ _ _ _ hP hS (lv_sub hl [2, 3, 4, 5, 6, 0] rfl) h K
          · have h := ite_f c25 h
            refine lv_aload_n hx hb dX3_mostLeft_99 rfl (lv_at hl 1 rfl) ?_
            refine wi_get (v := .ref a_v_startsLeft) hx hb hts iX3 hown hE hP 0 rfl rfl 3 (by decide) q1 rfl dX3_mostLeft_100 ?_
            refine lv_iload hx hb dX3_mostLeft_103 (lv_at hl 0 rfl) ?_
            refine lv_dup2_11 hx hb dX3_mostLeft_105 rfl rfl ?_
            obtain ⟨hk26, h⟩ := chk_some h
            refine wi_iald hx hb hE hP 4 rfl (by decide) hk26 dX3_mostLeft_106 ?_
            refine wi_ic hx hb dX3_mostLeft_107 ?_
            refine wi_iadd hx hb dX3_mostLeft_108 ?_
            refine wi_iast (w2 := (wd_X3_mostLeft cy a_v a_v_draft a_v_draft_facts a_v_draft_places a_v_startsLeft a_v_least a_v_bestPlaces v_draft_boxes o17 v_draft_facts v_draft_places (upZ v_startsLeft (o19).toNat ((v_startsLeft (o19).toNat) + 1)))) hx hb hE hP hDD rfl hS 4 rfl (by decide) hk26 dX3_mostLeft_109 rfl (fun H locs hP hS => ?_)
            refine lv_iload hx hb dX3_mostLeft_110 (lv_at hl 5 rfl) ?_
            refine lv_aload_n hx hb dX3_mostLeft_112 rfl (lv_at hl 1 rfl) ?_
            refine wi_get (v := .ref a_v_startsLeft) hx hb hts iX3 hown hE hP 0 rfl rfl 3 (by decide) q1 rfl dX3_mostLeft_113 ?_
            refine lv_iload hx hb dX3_mostLeft_116 (lv_at hl 0 rfl) ?_
            refine wi_iald hx hb hE hP 4 rfl (by decide) hk26 dX3_mostLeft_118 ?_
            obtain ⟨hr27, h⟩ := chk_some h
            obtain ⟨hr28, h⟩ := chk_some h
            refine wi_max hx hb (by rw [hml]; exact hl.1.symm) hown q4 q5 q6 q7 (Nat.le_of_ble_eq_true rfl) (Nat.le_of_ble_eq_true rfl) ⟨Nat.zero_le _, Nat.zero_le _⟩ hr27 hr28 dX3_mostLeft_119 ?_
            refine lv_istore (lv' := [(5, .int (zI (if x5 < ((upZ v_startsLeft (o19).toNat ((v_startsLeft (o19).toNat) + 1)) (o19).toNat) then (upZ v_startsLeft (o19).toNat ((v_startsLeft (o19).toNat) + 1)) (o19).toNat else x5))), (7, .int (zI o19)), (0, .ref a_v), (2, .int (zI x2)), (3, .int (zI x3)), (4, .int (zI x4)), (6, .int (zI x6))]) hx hb dX3_mostLeft_122 hl (by decide) rfl (fun ls hl => ?_)
            refine wi_iinc (k := 6) (lv' := [(6, .int (zI (x6 + 1))), (5, .int (zI (if x5 < ((upZ v_startsLeft (o19).toNat ((v_startsLeft (o19).toNat) + 1)) (o19).toNat) then (upZ v_startsLeft (o19).toNat ((v_startsLeft (o19).toNat) + 1)) (o19).toNat else x5))), (7, .int (zI o19)), (0, .ref a_v), (2, .int (zI x2)), (3, .int (zI x3)), (4, .int (zI x4))]) hx hb dX3_mostLeft_124 hl rfl (by decide) rfl (fun ls hl => ?_)
            refine lv_goto (tgt := 53) hx hb dX3_mostLeft_127 (by decide) ?_
            exact ih o17 (upZ v_startsLeft (o19).toNat ((v_startsLeft (o19).toNat) + 1)) x2 x3 x4 (if x5 < ((upZ v_startsLeft (o19).toNat ((v_startsLeft (o19).toNat) + 1)) (o19).toNat) then (upZ v_startsLeft (o19).toNat ((v_startsLeft (o19).toNat) + 1)) (o19).toNat else x5) (x6 + 1) _ _ _ _ hP hS (lv_sub hl [3, 4, 5, 6, 1, 0] rfl) h K
  refine lv_aload_n hx hb dX3_mostLeft_0 rfl (lv_at hl 0 rfl) ?_
  refine wi_get (v := .ref a_v_draft) hx hb hts iX3 hown hE hP 0 rfl rfl 0 (by decide) q0 rfl dX3_mostLeft_1 ?_
  refine lv_iload_n hx hb dX3_mostLeft_4 rfl (lv_at hl 1 rfl) ?_
  refine lv_iload_n hx hb dX3_mostLeft_5 rfl (lv_at hl 2 rfl) ?_
  obtain ⟨o1, hc2, h⟩ := bnd_some h
  refine cV_i (rest := []) (w2 := (wd_X3_mostLeft cy a_v a_v_draft a_v_draft_facts a_v_draft_places a_v_startsLeft a_v_least a_v_bestPlaces v_draft_boxes v_draft_startsAt v_draft_facts v_draft_places v_startsLeft)) ⟨hx, hb, hml, hown, hts⟩ (c_X5_boxAt l D cy sa a_v_draft a_v_draft_facts a_v_draft_places v_draft_boxes v_draft_startsAt v_draft_facts x1 x2 o1 hc2) (cwV 2 hts gX3_mostLeft_X5_boxAt rfl rfl rfl (by decide +kernel) ⟨Nat.le_of_ble_eq_true rfl, Nat.le_of_ble_eq_true rfl⟩) rfl rfl rfl hE hP hDD rfl hS [1, 2] rfl rfl rfl rfl hl.1 (Nat.le_of_ble_eq_true rfl) ⟨Nat.zero_le _, Nat.zero_le _⟩ rfl dX3_mostLeft_6 rfl (fun H locs hP hS => ?_)
  refine lv_istore (lv' := [(4, .int (zI o1)), (0, .ref a_v), (1, .int (zI x1)), (2, .int (zI x2)), (3, .int (zI x3))]) hx hb dX3_mostLeft_9 hl (by decide) rfl (fun ls hl => ?_)
  refine lv_iload hx hb dX3_mostLeft_11 (lv_at hl 0 rfl) ?_
  refine wi_bi hx hb dX3_mostLeft_13 (by decide) ?_
  obtain ⟨hr3, h⟩ := chk_some h
  refine wi_ic_ne (tgt := 23) hx hb dX3_mostLeft_15 (by decide) hr3 (by decide) (fun c5 => ?_) (fun c5 => ?_)
  · have h := ite_f c5 h
    refine wi_ic hx hb dX3_mostLeft_23 ?_
    refine lv_istore (lv' := [(5, .int (zI 0)), (4, .int (zI o1)), (0, .ref a_v), (1, .int (zI x1)), (2, .int (zI x2)), (3, .int (zI x3))]) hx hb dX3_mostLeft_24 hl (by decide) rfl (fun ls hl => ?_)
    refine wi_ic hx hb dX3_mostLeft_26 ?_
    refine lv_istore (lv' := [(6, .int (zI 0)), (5, .int (zI 0)), (4, .int (zI o1)), (0, .ref a_v), (1, .int (zI x1)), (2, .int (zI x2)), (3, .int (zI x3))]) hx hb dX3_mostLeft_27 hl (by decide) rfl (fun ls hl => ?_)
    obtain ⟨o10, hx11, h⟩ := bnd_some h
    refine L29 5000 v_draft_startsAt v_startsLeft x2 x3 o1 0 0 _ _ _ _ hP hS (lv_sub hl [3, 5, 6, 2, 1, 0] rfl) hx11 ?_
    clear hx11
    intro H locs ls hP hS hl
    refine wi_ic hx hb dX3_mostLeft_50 ?_
    refine lv_istore (lv' := [(6, .int (zI 0)), (0, .ref a_v), (2, .int (zI x2)), (3, .int (zI x3)), (4, .int (zI o1)), (5, .int (zI 0))]) hx hb dX3_mostLeft_51 hl (by decide) rfl (fun ls hl => ?_)
    obtain ⟨o29, hx30, h⟩ := bnd_some h
    refine L53 5000 v_draft_startsAt o10 x2 x3 o1 0 0 _ _ _ _ hP hS (lv_sub hl [1, 2, 3, 4, 5, 0] rfl) hx30 ?_
    clear hx30
    intro H locs ls hP hS hl
    refine lv_iload hx hb dX3_mostLeft_130 (lv_at hl 0 rfl) ?_
    obtain rfl := Option.some.inj h
    exact KR _ _ _ _ hP hS dX3_mostLeft_132
  · have h := ite_t c5 h
    refine lv_iload_n hx hb dX3_mostLeft_18 rfl (lv_at hl 4 rfl) ?_
    obtain ⟨o31, hc32, h⟩ := bnd_some h
    refine cS_i (rest := []) (w2 := (wd_X3_mostLeft cy a_v a_v_draft a_v_draft_facts a_v_draft_places a_v_startsLeft a_v_least a_v_bestPlaces v_draft_boxes v_draft_startsAt v_draft_facts v_draft_places v_startsLeft)) ⟨hx, hb, hml, hown, hts⟩ (c_J6_bitCount_0f7a4 l D cy sa x3 o31 hc32) (va_cwS 1 hts gX3_mostLeft_J6_bitCount_0f7a4 rfl rfl rfl (by decide +kernel) ⟨Nat.le_of_ble_eq_true rfl, Nat.le_of_ble_eq_true rfl⟩) hE hP hDD rfl hS [] rfl rfl rfl rfl hl.1 (Nat.le_of_ble_eq_true rfl) ⟨Nat.zero_le _, Nat.zero_le _⟩ rfl dX3_mostLeft_19 rfl (fun H locs hP hS => ?_)
    obtain rfl := Option.some.inj h
    exact KR _ _ _ _ hP hS dX3_mostLeft_22
abbrev wd_X3_bestLook (cy : Nat → ClassId) (a_v : Nat) (a_v_draft : Nat) (a_v_draft_facts : Nat) (a_v_draft_places : Nat) (a_v_least : Nat) (a_v_startsLeft : Nat) (a_u1 : Nat) (a_u1_facts : Nat) (a_u1_places : Nat) (a_v_bestPlaces : Nat) (v_draft_boxes : Int) (v_draft_startsAt : Int) (v_draft_facts : Nat → Int) (v_draft_places : Nat → Int) (v_least_at : Int) (v_least_value : Int) (v_startsLeft : Nat → Int) (u1_boxes : Int) (u1_startsAt : Int) (u1_facts : Nat → Int) (u1_places : Nat → Int) : va_W := [(a_v, .inr (3, [.ref a_v_draft, .ref a_v_least, .ref a_v_bestPlaces, .ref a_v_startsLeft])), (a_v_draft, .inr (5, [.ref a_v_draft_facts, .ref a_v_draft_places, .int (zI v_draft_boxes), .int (zI v_draft_startsAt)])), (a_v_draft_facts, .inl (cy 0, 30, .inl (fun j => zI (v_draft_facts j)))), (a_v_draft_places, .inl (cy 0, 5, .inl (fun j => zI (v_draft_places j)))), (a_v_least, .inr (1, [.int (zI v_least_at), .int (zI v_least_value)])), (a_v_startsLeft, .inl (cy 0, 24, .inl (fun j => zI (v_startsLeft j)))), (a_u1, .inr (5, [.ref a_u1_facts, .ref a_u1_places, .int (zI u1_boxes), .int (zI u1_startsAt)])), (a_u1_facts, .inl (cy 0, 30, .inl (fun j => zI (u1_facts j)))), (a_u1_places, .inl (cy 0, 5, .inl (fun j => zI (u1_places j))))]
set_option maxHeartbeats 4000000 in
set_option maxRecDepth 100000 in
theorem c_X3_bestLook (l : Launch) (D : va_G) (cy : Nat → ClassId) (sa : Nat → Nat) (a_v : Nat) (a_v_draft : Nat) (a_v_draft_facts : Nat) (a_v_draft_places : Nat) (a_v_least : Nat) (a_v_startsLeft : Nat) (a_u1 : Nat) (a_u1_facts : Nat) (a_u1_places : Nat) (a_v_bestPlaces : Nat) (v_draft_boxes : Int) (v_draft_startsAt : Int) (v_draft_facts : Nat → Int) (v_draft_places : Nat → Int) (v_least_at : Int) (v_least_value : Int) (v_startsLeft : Nat → Int) (u1_boxes : Int) (u1_startsAt : Int) (u1_facts : Nat → Int) (u1_places : Nat → Int) (x2 : Int) (o : Int × Int × (Nat → Int) × (Nat → Int) × Int × Int × (Nat → Int)) (h : f_Search_bestLook v_draft_boxes v_draft_startsAt v_draft_facts v_draft_places v_least_at v_least_value v_startsLeft u1_boxes u1_startsAt u1_facts u1_places x2 = some o) : CtV l yX3_bestLook wsX3_bestLook ({ frames := 4, cells := 0, slots := 0, locals := 95 }) D cy sa [.ref a_v, .ref a_u1, .int (zI x2)] (wd_X3_bestLook cy a_v a_v_draft a_v_draft_facts a_v_draft_places a_v_least a_v_startsLeft a_u1 a_u1_facts a_u1_places a_v_bestPlaces v_draft_boxes v_draft_startsAt v_draft_facts v_draft_places v_least_at v_least_value v_startsLeft u1_boxes u1_startsAt u1_facts u1_places) (wd_X3_bestLook cy a_v a_v_draft a_v_draft_facts a_v_draft_places a_v_least a_v_startsLeft a_u1 a_u1_facts a_u1_places a_v_bestPlaces o.1 o.2.1 o.2.2.1 o.2.2.2.1 o.2.2.2.2.1 o.2.2.2.2.2.1 o.2.2.2.2.2.2 u1_boxes u1_startsAt u1_facts u1_places)  := by
  refine ct_V (cc := cX3_bestLook) (maxL := 5) (plainFor_of_name (by decide)) rfl (Nat.le_of_ble_eq_true rfl) ?_
  intro p e s m below meth c A args QQ hx hb hml hown hts hE hDD hP KR ls hl
  have hl : lv_has ls 5 [(0, .ref a_v), (1, .ref a_u1), (2, .int (zI x2))] := hl
  have hDD : DD A [a_v, a_v_draft, a_v_draft_facts, a_v_draft_places, a_v_least, a_v_startsLeft, a_u1, a_u1_facts, a_u1_places] := hDD
  have hS : va_S A s.heap s.heap [] := va_S.rf
  have q0 := hts (.fieldLink RX3 12 "HatHours$Search" "draft" "LHatHours$Shop;") (List.mem_of_getElem? (i := 1) rfl)
  have q1 := hts (.fieldLink RX3 21 "HatHours$Search" "least" "LHatHours$Least;") (List.mem_of_getElem? (i := 2) rfl)
  have iX3 : ∀ w ∈ u_ws RX3 TX3 4, w ∈ wsX3_bestLook := in_slice 82 4 rfl
  have L29 : ∀ (fuel : Nat) (v_draft_boxes : Int) (v_draft_startsAt : Int) (v_draft_facts : Nat → Int) (v_draft_places : Nat → Int) (v_least_at : Int) (v_least_value : Int) (v_startsLeft : Nat → Int) (x2 : Int) (x3 : Int) (x4 : Int) (H : Heap) (locs : List Loc) (ls : Array Slot) (ex : Int × Int × Int × (Nat → Int)), va_P D vwCl (wd_X3_bestLook cy a_v a_v_draft a_v_draft_facts a_v_draft_places a_v_least a_v_startsLeft a_u1 a_u1_facts a_u1_places a_v_bestPlaces v_draft_boxes v_draft_startsAt v_draft_facts v_draft_places v_least_at v_least_value v_startsLeft u1_boxes u1_startsAt u1_facts u1_places) H → va_S A s.heap H locs → lv_has ls 5 [(0, .ref a_v), (2, .int (zI x2)), (3, .int (zI x3)), (4, .int (zI x4))] → f_Search_bestLook_L29 fuel v_draft_boxes v_draft_startsAt v_draft_facts v_draft_places v_least_at v_least_value v_startsLeft x2 x3 x4 = some ex → (∀ (H : Heap) (locs : List Loc) (ls : Array Slot), va_P D vwCl (wd_X3_bestLook cy a_v a_v_draft a_v_draft_facts a_v_draft_places a_v_least a_v_startsLeft a_u1 a_u1_facts a_u1_places a_v_bestPlaces v_draft_boxes ex.1 v_draft_facts v_draft_places ex.2.1 ex.2.2.1 ex.2.2.2 u1_boxes u1_startsAt u1_facts u1_places) H → va_S A s.heap H locs → lv_has ls 5 [(0, .ref a_v), (2, .int (zI x2)), (3, .int (zI x3))] → W p l e { frames := 4, cells := 0, slots := 0, locals := 95 } s m args below meth c H locs 0 0 QQ (F0 m 76 ls [])) → W p l e { frames := 4, cells := 0, slots := 0, locals := 95 } s m args below meth c H locs 0 0 QQ (F0 m 29 ls []) := by
    intro fuel
    induction fuel with
    | zero => intro _ _ _ _ _ _ _ _ _ _ H locs ls ex hP hS hl h K; cases h
    | succ fuel ih =>
      intro v_draft_boxes v_draft_startsAt v_draft_facts v_draft_places v_least_at v_least_value v_startsLeft x2 x3 x4 H locs ls ex hP hS hl h K
      refine lv_iload hx hb dX3_bestLook_29 (lv_at hl 3 rfl) ?_
      refine wi_bi hx hb dX3_bestLook_31 (by decide) ?_
      obtain ⟨hr10, h⟩ := chk_some h
      refine wi_ic_ge (tgt := 76) hx hb dX3_bestLook_33 (by decide) hr10 (by decide) (fun c12 => ?_) (fun c12 => ?_)
      · have h := ite_t c12 h
        obtain rfl := Option.some.inj h
        exact K _ _ _ hP hS (lv_sub hl [0, 1, 2] rfl)
      · have h := ite_f c12 h
        refine lv_aload_n hx hb dX3_bestLook_36 rfl (lv_at hl 0 rfl) ?_
        refine wi_get (v := .ref a_v_least) hx hb hts iX3 hown hE hP 0 rfl rfl 1 (by decide) q1 rfl dX3_bestLook_37 ?_
        refine wi_ic hx hb dX3_bestLook_40 ?_
        obtain ⟨o13, hc14, h⟩ := bnd_some h
        refine cV_i (rest := []) (w2 := (wd_X3_bestLook cy a_v a_v_draft a_v_draft_facts a_v_draft_places a_v_least a_v_startsLeft a_u1 a_u1_facts a_u1_places a_v_bestPlaces v_draft_boxes v_draft_startsAt v_draft_facts v_draft_places v_least_at v_least_value v_startsLeft u1_boxes u1_startsAt u1_facts u1_places)) ⟨hx, hb, hml, hown, hts⟩ (c_X1_mayBecomeLess l D cy sa a_v_least v_least_at v_least_value 1 o13 hc14) (cwV 1 hts gX3_bestLook_X1_mayBecomeLess rfl rfl rfl (by decide +kernel) ⟨Nat.le_of_ble_eq_true rfl, Nat.le_of_ble_eq_true rfl⟩) rfl rfl rfl hE hP hDD rfl hS [4] rfl rfl rfl rfl hl.1 (Nat.le_of_ble_eq_true rfl) ⟨Nat.zero_le _, Nat.zero_le _⟩ rfl dX3_bestLook_41 rfl (fun H locs hP hS => ?_)
        obtain ⟨hr15, h⟩ := chk_some h
        refine wi_if_eq (tgt := 76) hx hb dX3_bestLook_44 (by decide) hr15 (fun c17 => ?_) (fun c17 => ?_)
        · have h := ite_t c17 h
          obtain rfl := Option.some.inj h
          exact K _ _ _ hP hS (lv_sub hl [0, 1, 2] rfl)
        · have h := ite_f c17 h
          refine lv_aload_n hx hb dX3_bestLook_47 rfl (lv_at hl 0 rfl) ?_
          refine wi_get (v := .ref a_v_least) hx hb hts iX3 hown hE hP 0 rfl rfl 1 (by decide) q1 rfl dX3_bestLook_48 ?_
          refine wi_bi hx hb dX3_bestLook_51 (by decide) ?_
          refine lv_iload_n hx hb dX3_bestLook_53 rfl (lv_at hl 2 rfl) ?_
          refine wi_imul hx hb dX3_bestLook_54 ?_
          refine lv_iload hx hb dX3_bestLook_55 (lv_at hl 3 rfl) ?_
          refine wi_iadd hx hb dX3_bestLook_57 ?_
          refine lv_aload_n hx hb dX3_bestLook_58 rfl (lv_at hl 0 rfl) ?_
          refine lv_iload_n hx hb dX3_bestLook_59 rfl (lv_at hl 2 rfl) ?_
          refine lv_iload hx hb dX3_bestLook_60 (lv_at hl 3 rfl) ?_
          refine lv_iload_n hx hb dX3_bestLook_62 rfl (lv_at hl 1 rfl) ?_
          obtain ⟨o18, hc19, h⟩ := bnd_some h
          refine cV_i (rest := [.int (zI ((100 * x3) + x4)), .ref a_v_least]) (w2 := (wd_X3_bestLook cy a_v a_v_draft a_v_draft_facts a_v_draft_places a_v_least a_v_startsLeft a_u1 a_u1_facts a_u1_places a_v_bestPlaces v_draft_boxes o18.2.1 v_draft_facts v_draft_places v_least_at v_least_value o18.2.2 u1_boxes u1_startsAt u1_facts u1_places)) ⟨hx, hb, hml, hown, hts⟩ (c_X3_mostLeft l D cy sa a_v a_v_draft a_v_draft_facts a_v_draft_places a_v_startsLeft a_v_least a_v_bestPlaces v_draft_boxes v_draft_startsAt v_draft_facts v_draft_places v_startsLeft x3 x4 x2 o18 hc19) (cwV 3 hts gX3_bestLook_X3_mostLeft rfl rfl rfl (by decide +kernel) ⟨Nat.le_of_ble_eq_true rfl, Nat.le_of_ble_eq_true rfl⟩) rfl rfl rfl hE hP hDD rfl hS [0, 1, 2, 3, 5] rfl rfl rfl rfl hl.1 (Nat.le_of_ble_eq_true rfl) ⟨Nat.zero_le _, Nat.zero_le _⟩ rfl dX3_bestLook_63 rfl (fun H locs hP hS => ?_)
          obtain ⟨o20, hc21, h⟩ := bnd_some h
          refine cV_i (rest := []) (w2 := (wd_X3_bestLook cy a_v a_v_draft a_v_draft_facts a_v_draft_places a_v_least a_v_startsLeft a_u1 a_u1_facts a_u1_places a_v_bestPlaces v_draft_boxes o18.2.1 v_draft_facts v_draft_places o20.2.1 o20.2.2 o18.2.2 u1_boxes u1_startsAt u1_facts u1_places)) ⟨hx, hb, hml, hown, hts⟩ (c_X1_offer l D cy sa a_v_least v_least_at v_least_value ((100 * x3) + x4) o18.1 o20 hc21) (cwV 2 hts gX3_bestLook_X1_offer rfl rfl rfl (by decide +kernel) ⟨Nat.le_of_ble_eq_true rfl, Nat.le_of_ble_eq_true rfl⟩) rfl rfl rfl hE hP hDD rfl hS [4] rfl rfl rfl rfl hl.1 (Nat.le_of_ble_eq_true rfl) ⟨Nat.zero_le _, Nat.zero_le _⟩ rfl dX3_bestLook_66 rfl (fun H locs hP hS => ?_)
          refine lv_pop hx hb dX3_bestLook_69 rfl ?_
          refine wi_iinc (k := 3) (lv' := [(4, .int (zI (x4 + 1))), (0, .ref a_v), (2, .int (zI x2)), (3, .int (zI x3))]) hx hb dX3_bestLook_70 hl rfl (by decide) rfl (fun ls hl => ?_)
          refine lv_goto (tgt := 29) hx hb dX3_bestLook_73 (by decide) ?_
          exact ih v_draft_boxes o18.2.1 v_draft_facts v_draft_places o20.2.1 o20.2.2 o18.2.2 x2 x3 (x4 + 1) _ _ _ _ hP hS (lv_sub hl [1, 2, 3, 0] rfl) h K
  have L21 : ∀ (fuel : Nat) (v_draft_boxes : Int) (v_draft_startsAt : Int) (v_draft_facts : Nat → Int) (v_draft_places : Nat → Int) (v_least_at : Int) (v_least_value : Int) (v_startsLeft : Nat → Int) (x2 : Int) (x3 : Int) (H : Heap) (locs : List Loc) (ls : Array Slot) (ex : Int × Int × Int × (Nat → Int)), va_P D vwCl (wd_X3_bestLook cy a_v a_v_draft a_v_draft_facts a_v_draft_places a_v_least a_v_startsLeft a_u1 a_u1_facts a_u1_places a_v_bestPlaces v_draft_boxes v_draft_startsAt v_draft_facts v_draft_places v_least_at v_least_value v_startsLeft u1_boxes u1_startsAt u1_facts u1_places) H → va_S A s.heap H locs → lv_has ls 5 [(0, .ref a_v), (2, .int (zI x2)), (3, .int (zI x3))] → f_Search_bestLook_L21 fuel v_draft_boxes v_draft_startsAt v_draft_facts v_draft_places v_least_at v_least_value v_startsLeft x2 x3 = some ex → (∀ (H : Heap) (locs : List Loc) (ls : Array Slot), va_P D vwCl (wd_X3_bestLook cy a_v a_v_draft a_v_draft_facts a_v_draft_places a_v_least a_v_startsLeft a_u1 a_u1_facts a_u1_places a_v_bestPlaces v_draft_boxes ex.1 v_draft_facts v_draft_places ex.2.1 ex.2.2.1 ex.2.2.2 u1_boxes u1_startsAt u1_facts u1_places) H → va_S A s.heap H locs → lv_has ls 5 [] → W p l e { frames := 4, cells := 0, slots := 0, locals := 95 } s m args below meth c H locs 0 0 QQ (F0 m 82 ls [])) → W p l e { frames := 4, cells := 0, slots := 0, locals := 95 } s m args below meth c H locs 0 0 QQ (F0 m 21 ls []) := by
    intro fuel
    induction fuel with
    | zero => intro _ _ _ _ _ _ _ _ _ H locs ls ex hP hS hl h K; cases h
    | succ fuel ih =>
      intro v_draft_boxes v_draft_startsAt v_draft_facts v_draft_places v_least_at v_least_value v_startsLeft x2 x3 H locs ls ex hP hS hl h K
      refine lv_iload_n hx hb dX3_bestLook_21 rfl (lv_at hl 2 rfl) ?_
      refine wi_ic hx hb dX3_bestLook_22 ?_
      obtain ⟨hr7, h⟩ := chk_some h
      refine wi_ic_ge (tgt := 82) hx hb dX3_bestLook_23 (by decide) hr7 (by decide) (fun c9 => ?_) (fun c9 => ?_)
      · have h := ite_t c9 h
        obtain rfl := Option.some.inj h
        exact K _ _ _ hP hS (lv_sub hl [] rfl)
      · have h := ite_f c9 h
        refine wi_ic hx hb dX3_bestLook_26 ?_
        refine lv_istore (lv' := [(4, .int (zI 0)), (0, .ref a_v), (2, .int (zI x2)), (3, .int (zI x3))]) hx hb dX3_bestLook_27 hl (by decide) rfl (fun ls hl => ?_)
        obtain ⟨o22, hx23, h⟩ := bnd_some h
        refine L29 5000 v_draft_boxes v_draft_startsAt v_draft_facts v_draft_places v_least_at v_least_value v_startsLeft x2 x3 0 _ _ _ _ hP hS (lv_sub hl [1, 2, 3, 0] rfl) hx23 ?_
        clear hx23
        intro H locs ls hP hS hl
        refine wi_iinc (k := 2) (lv' := [(3, .int (zI (x3 + 1))), (0, .ref a_v), (2, .int (zI x2))]) hx hb dX3_bestLook_76 hl rfl (by decide) rfl (fun ls hl => ?_)
        refine lv_goto (tgt := 21) hx hb dX3_bestLook_79 (by decide) ?_
        exact ih v_draft_boxes o22.1 v_draft_facts v_draft_places o22.2.1 o22.2.2.1 o22.2.2.2 x2 (x3 + 1) _ _ _ _ hP hS (lv_sub hl [1, 2, 0] rfl) h K
  refine lv_aload_n hx hb dX3_bestLook_0 rfl (lv_at hl 0 rfl) ?_
  refine wi_get (v := .ref a_v_draft) hx hb hts iX3 hown hE hP 0 rfl rfl 0 (by decide) q0 rfl dX3_bestLook_1 ?_
  refine lv_aload_n hx hb dX3_bestLook_4 rfl (lv_at hl 1 rfl) ?_
  obtain ⟨o1, hc2, h⟩ := bnd_some h
  refine cV_v (rest := []) (w2 := (wd_X3_bestLook cy a_v a_v_draft a_v_draft_facts a_v_draft_places a_v_least a_v_startsLeft a_u1 a_u1_facts a_u1_places a_v_bestPlaces o1.1 o1.2.1 o1.2.2.1 o1.2.2.2 v_least_at v_least_value v_startsLeft u1_boxes u1_startsAt u1_facts u1_places)) ⟨hx, hb, hml, hown, hts⟩ (c_X5_copyFrom l D cy sa a_v_draft a_v_draft_facts a_v_draft_places a_u1 a_u1_facts a_u1_places v_draft_boxes v_draft_startsAt v_draft_facts v_draft_places u1_boxes u1_startsAt u1_facts u1_places o1 hc2) (cwV 1 hts gX3_bestLook_X5_copyFrom rfl rfl rfl (by decide +kernel) ⟨Nat.le_of_ble_eq_true rfl, Nat.le_of_ble_eq_true rfl⟩) rfl rfl rfl hE hP hDD rfl hS [1, 2, 3, 6, 7, 8] rfl rfl rfl rfl hl.1 (Nat.le_of_ble_eq_true rfl) ⟨Nat.zero_le _, Nat.zero_le _⟩ rfl dX3_bestLook_5 rfl (fun H locs hP hS => ?_)
  refine lv_aload_n hx hb dX3_bestLook_8 rfl (lv_at hl 0 rfl) ?_
  refine wi_get (v := .ref a_v_least) hx hb hts iX3 hown hE hP 0 rfl rfl 1 (by decide) q1 rfl dX3_bestLook_9 ?_
  refine lv_iload_n hx hb dX3_bestLook_12 rfl (lv_at hl 2 rfl) ?_
  obtain ⟨o3, hc4, h⟩ := bnd_some h
  refine cS_i (rest := [.ref a_v_least]) (w2 := (wd_X3_bestLook cy a_v a_v_draft a_v_draft_facts a_v_draft_places a_v_least a_v_startsLeft a_u1 a_u1_facts a_u1_places a_v_bestPlaces o1.1 o1.2.1 o1.2.2.1 o1.2.2.2 v_least_at v_least_value v_startsLeft u1_boxes u1_startsAt u1_facts u1_places)) ⟨hx, hb, hml, hown, hts⟩ (c_J6_bitCount_0f7a4 l D cy sa x2 o3 hc4) (va_cwS 1 hts gX3_bestLook_J6_bitCount_0f7a4 rfl rfl rfl (by decide +kernel) ⟨Nat.le_of_ble_eq_true rfl, Nat.le_of_ble_eq_true rfl⟩) hE hP hDD rfl hS [] rfl rfl rfl rfl hl.1 (Nat.le_of_ble_eq_true rfl) ⟨Nat.zero_le _, Nat.zero_le _⟩ rfl dX3_bestLook_13 rfl (fun H locs hP hS => ?_)
  obtain ⟨o5, hc6, h⟩ := bnd_some h
  refine cV_v (rest := []) (w2 := (wd_X3_bestLook cy a_v a_v_draft a_v_draft_facts a_v_draft_places a_v_least a_v_startsLeft a_u1 a_u1_facts a_u1_places a_v_bestPlaces o1.1 o1.2.1 o1.2.2.1 o1.2.2.2 o5.1 o5.2 v_startsLeft u1_boxes u1_startsAt u1_facts u1_places)) ⟨hx, hb, hml, hown, hts⟩ (c_X1_seekBelow l D cy sa a_v_least v_least_at v_least_value o3 o5 hc6) (cwV 1 hts gX3_bestLook_X1_seekBelow rfl rfl rfl (by decide +kernel) ⟨Nat.le_of_ble_eq_true rfl, Nat.le_of_ble_eq_true rfl⟩) rfl rfl rfl hE hP hDD rfl hS [4] rfl rfl rfl rfl hl.1 (Nat.le_of_ble_eq_true rfl) ⟨Nat.zero_le _, Nat.zero_le _⟩ rfl dX3_bestLook_16 rfl (fun H locs hP hS => ?_)
  refine wi_ic hx hb dX3_bestLook_19 ?_
  refine lv_istore_n (lv' := [(3, .int (zI 0)), (0, .ref a_v), (1, .ref a_u1), (2, .int (zI x2))]) hx hb dX3_bestLook_20 rfl hl (by decide) rfl (fun ls hl => ?_)
  obtain ⟨o24, hx25, h⟩ := bnd_some h
  refine L21 5000 o1.1 o1.2.1 o1.2.2.1 o1.2.2.2 o5.1 o5.2 v_startsLeft x2 0 _ _ _ _ hP hS (lv_sub hl [1, 3, 0] rfl) hx25 ?_
  clear hx25
  intro H locs ls hP hS hl
  obtain rfl := Option.some.inj h
  exact KR _ _ _ _ hP hS dX3_bestLook_82
abbrev wd_X3_drifted (cy : Nat → ClassId) (a_v : Nat) (a_v_draft : Nat) (a_v_draft_facts : Nat) (a_v_draft_places : Nat) (a_u1 : Nat) (a_u1_facts : Nat) (a_u1_places : Nat) (a_v_least : Nat) (a_v_bestPlaces : Nat) (a_v_startsLeft : Nat) (v_draft_boxes : Int) (v_draft_startsAt : Int) (v_draft_facts : Nat → Int) (v_draft_places : Nat → Int) (u1_boxes : Int) (u1_startsAt : Int) (u1_facts : Nat → Int) (u1_places : Nat → Int) : va_W := [(a_v, .inr (3, [.ref a_v_draft, .ref a_v_least, .ref a_v_bestPlaces, .ref a_v_startsLeft])), (a_v_draft, .inr (5, [.ref a_v_draft_facts, .ref a_v_draft_places, .int (zI v_draft_boxes), .int (zI v_draft_startsAt)])), (a_v_draft_facts, .inl (cy 0, 30, .inl (fun j => zI (v_draft_facts j)))), (a_v_draft_places, .inl (cy 0, 5, .inl (fun j => zI (v_draft_places j)))), (a_u1, .inr (5, [.ref a_u1_facts, .ref a_u1_places, .int (zI u1_boxes), .int (zI u1_startsAt)])), (a_u1_facts, .inl (cy 0, 30, .inl (fun j => zI (u1_facts j)))), (a_u1_places, .inl (cy 0, 5, .inl (fun j => zI (u1_places j))))]
set_option maxHeartbeats 4000000 in
set_option maxRecDepth 100000 in
theorem c_X3_drifted (l : Launch) (D : va_G) (cy : Nat → ClassId) (sa : Nat → Nat) (a_v : Nat) (a_v_draft : Nat) (a_v_draft_facts : Nat) (a_v_draft_places : Nat) (a_u1 : Nat) (a_u1_facts : Nat) (a_u1_places : Nat) (a_v_least : Nat) (a_v_bestPlaces : Nat) (a_v_startsLeft : Nat) (v_draft_boxes : Int) (v_draft_startsAt : Int) (v_draft_facts : Nat → Int) (v_draft_places : Nat → Int) (u1_boxes : Int) (u1_startsAt : Int) (u1_facts : Nat → Int) (u1_places : Nat → Int) (x2 : Int) (x3 : Int) (x4 : Int) (o : Int × Int × Int × (Nat → Int) × (Nat → Int)) (h : f_Search_drifted v_draft_boxes v_draft_startsAt v_draft_facts v_draft_places u1_boxes u1_startsAt u1_facts u1_places x2 x3 x4 = some o) : CtI l yX3_drifted wsX3_drifted ({ frames := 4, cells := 0, slots := 0, locals := 100 }) D cy sa [.ref a_v, .ref a_u1, .int (zI x2), .int (zI x3), .int (zI x4)] (wd_X3_drifted cy a_v a_v_draft a_v_draft_facts a_v_draft_places a_u1 a_u1_facts a_u1_places a_v_least a_v_bestPlaces a_v_startsLeft v_draft_boxes v_draft_startsAt v_draft_facts v_draft_places u1_boxes u1_startsAt u1_facts u1_places) (wd_X3_drifted cy a_v a_v_draft a_v_draft_facts a_v_draft_places a_u1 a_u1_facts a_u1_places a_v_least a_v_bestPlaces a_v_startsLeft o.2.1 o.2.2.1 o.2.2.2.1 o.2.2.2.2 u1_boxes u1_startsAt u1_facts u1_places) o.1 := by
  refine ct_I (cc := cX3_drifted) (maxL := 10) (plainFor_of_name (by decide)) rfl (Nat.le_of_ble_eq_true rfl) ?_
  intro p e s m below meth c A args QQ hx hb hml hown hts hE hDD hP KR ls hl
  have hl : lv_has ls 10 [(0, .ref a_v), (1, .ref a_u1), (2, .int (zI x2)), (3, .int (zI x3)), (4, .int (zI x4))] := hl
  have hDD : DD A [a_v, a_v_draft, a_v_draft_facts, a_v_draft_places, a_u1, a_u1_facts, a_u1_places] := hDD
  have hS : va_S A s.heap s.heap [] := va_S.rf
  have q0 := hts (.fieldLink RX3 12 "HatHours$Search" "draft" "LHatHours$Shop;") (List.mem_of_getElem? (i := 1) rfl)
  have q1 := hts (.constant RX3 138 (1103515245)) (List.mem_of_getElem? (i := 2) rfl)
  have iX3 : ∀ w ∈ u_ws RX3 TX3 4, w ∈ wsX3_drifted := in_slice 75 4 rfl
  have L31 : ∀ (fuel : Nat) (v_draft_boxes : Int) (v_draft_startsAt : Int) (v_draft_facts : Nat → Int) (v_draft_places : Nat → Int) (x3 : Int) (x4 : Int) (x5 : Int) (x6 : Int) (x7 : Int) (x8 : Int) (H : Heap) (locs : List Loc) (ls : Array Slot) (ex : Int × Int × (Nat → Int)), va_P D vwCl (wd_X3_drifted cy a_v a_v_draft a_v_draft_facts a_v_draft_places a_u1 a_u1_facts a_u1_places a_v_least a_v_bestPlaces a_v_startsLeft v_draft_boxes v_draft_startsAt v_draft_facts v_draft_places u1_boxes u1_startsAt u1_facts u1_places) H → va_S A s.heap H locs → lv_has ls 10 [(0, .ref a_v), (3, .int (zI x3)), (4, .int (zI x4)), (5, .int (zI x5)), (6, .int (zI x6)), (7, .int (zI x7)), (8, .int (zI x8))] → f_Search_drifted_L31 fuel v_draft_boxes v_draft_startsAt v_draft_facts v_draft_places x3 x5 x6 x7 x8 = some ex → (∀ (H : Heap) (locs : List Loc) (ls : Array Slot), va_P D vwCl (wd_X3_drifted cy a_v a_v_draft a_v_draft_facts a_v_draft_places a_u1 a_u1_facts a_u1_places a_v_least a_v_bestPlaces a_v_startsLeft v_draft_boxes ex.2.1 v_draft_facts ex.2.2 u1_boxes u1_startsAt u1_facts u1_places) H → va_S A s.heap H locs → lv_has ls 10 [(0, .ref a_v), (4, .int (zI x4)), (7, .int (zI ex.1))] → W p l e { frames := 4, cells := 0, slots := 0, locals := 100 } s m args below meth c H locs 0 0 QQ (F0 m 119 ls [])) → W p l e { frames := 4, cells := 0, slots := 0, locals := 100 } s m args below meth c H locs 0 0 QQ (F0 m 31 ls []) := by
    intro fuel
    induction fuel with
    | zero => intro _ _ _ _ _ _ _ _ _ _ H locs ls ex hP hS hl h K; cases h
    | succ fuel ih =>
      intro v_draft_boxes v_draft_startsAt v_draft_facts v_draft_places x3 x4 x5 x6 x7 x8 H locs ls ex hP hS hl h K
      refine lv_iload hx hb dX3_drifted_31 (lv_at hl 6 rfl) ?_
      refine lv_iload_n hx hb dX3_drifted_33 rfl (lv_at hl 1 rfl) ?_
      obtain ⟨hr8, h⟩ := chk_some h
      obtain ⟨hr9, h⟩ := chk_some h
      refine wi_ic_ge (tgt := 119) hx hb dX3_drifted_34 (by decide) hr8 hr9 (fun c11 => ?_) (fun c11 => ?_)
      · have h := ite_t c11 h
        obtain rfl := Option.some.inj h
        exact K _ _ _ hP hS (lv_sub hl [0, 2, 5] rfl)
      · have h := ite_f c11 h
        refine lv_iload hx hb dX3_drifted_37 (lv_at hl 6 rfl) ?_
        refine wi_bi hx hb dX3_drifted_39 (by decide) ?_
        refine wi_ic_ge (tgt := 119) hx hb dX3_drifted_41 (by decide) hr8 (by decide) (fun c13 => ?_) (fun c13 => ?_)
        · have h := ite_t c13 h
          obtain rfl := Option.some.inj h
          exact K _ _ _ hP hS (lv_sub hl [0, 2, 5] rfl)
        · have h := ite_f c13 h
          refine lv_iload hx hb dX3_drifted_44 (lv_at hl 4 rfl) ?_
          refine wi_ldc (n := 1103515245) hx hb hown q1 dX3_drifted_46 rfl ?_
          refine wi_imul hx hb dX3_drifted_48 ?_
          refine wi_si hx hb dX3_drifted_49 (by decide) ?_
          refine wi_iadd hx hb dX3_drifted_52 ?_
          refine lv_istore (lv' := [(6, .int (zI ((x6 * 1103515245) + 12345))), (0, .ref a_v), (3, .int (zI x3)), (4, .int (zI x4)), (5, .int (zI x5)), (7, .int (zI x7)), (8, .int (zI x8))]) hx hb dX3_drifted_53 hl (by decide) rfl (fun ls hl => ?_)
          refine lv_iload hx hb dX3_drifted_55 (lv_at hl 0 rfl) ?_
          refine wi_bi hx hb dX3_drifted_57 (by decide) ?_
          refine wi_ishr hx hb dX3_drifted_59 ?_
          refine wi_si hx hb dX3_drifted_60 (by decide) ?_
          refine wi_iand hx hb dX3_drifted_63 ?_
          refine lv_istore (lv' := [(9, .int (zI (zand (zshr ((x6 * 1103515245) + 12345) 16) 32767))), (6, .int (zI ((x6 * 1103515245) + 12345))), (0, .ref a_v), (3, .int (zI x3)), (4, .int (zI x4)), (5, .int (zI x5)), (7, .int (zI x7)), (8, .int (zI x8))]) hx hb dX3_drifted_64 hl (by decide) rfl (fun ls hl => ?_)
          refine lv_aload_n hx hb dX3_drifted_66 rfl (lv_at hl 2 rfl) ?_
          refine wi_get (v := .ref a_v_draft) hx hb hts iX3 hown hE hP 0 rfl rfl 0 (by decide) q0 rfl dX3_drifted_67 ?_
          refine lv_iload hx hb dX3_drifted_70 (lv_at hl 0 rfl) ?_
          refine lv_iload hx hb dX3_drifted_72 (lv_at hl 5 rfl) ?_
          obtain ⟨hk14, h⟩ := chk_some h
          refine wi_irem hx hb dX3_drifted_74 hk14 ?_
          refine lv_iload hx hb dX3_drifted_75 (lv_at hl 0 rfl) ?_
          refine wi_bi hx hb dX3_drifted_77 (by decide) ?_
          obtain ⟨hk15, h⟩ := chk_some h
          refine wi_idiv hx hb dX3_drifted_79 ⟨hk15, by decide⟩ ?_
          refine lv_iload hx hb dX3_drifted_80 (lv_at hl 5 rfl) ?_
          obtain ⟨hk16, h⟩ := chk_some h
          refine wi_irem hx hb dX3_drifted_82 hk16 ?_
          obtain ⟨o17, hc18, h⟩ := bnd_some h
          refine cV_v (rest := []) (w2 := (wd_X3_drifted cy a_v a_v_draft a_v_draft_facts a_v_draft_places a_u1 a_u1_facts a_u1_places a_v_least a_v_bestPlaces a_v_startsLeft v_draft_boxes v_draft_startsAt v_draft_facts o17 u1_boxes u1_startsAt u1_facts u1_places)) ⟨hx, hb, hml, hown, hts⟩ (c_X5_exchange l D cy sa a_v_draft a_v_draft_places a_v_draft_facts v_draft_boxes v_draft_startsAt v_draft_places ((zand (zshr ((x6 * 1103515245) + 12345) 16) 32767) % x5) (((zand (zshr ((x6 * 1103515245) + 12345) 16) 32767) / 8) % x5) o17 hc18) (cwV 2 hts gX3_drifted_X5_exchange rfl rfl rfl (by decide +kernel) ⟨Nat.le_of_ble_eq_true rfl, Nat.le_of_ble_eq_true rfl⟩) rfl rfl rfl hE hP hDD rfl hS [1, 3] rfl rfl rfl rfl hl.1 (Nat.le_of_ble_eq_true rfl) ⟨Nat.zero_le _, Nat.zero_le _⟩ rfl dX3_drifted_83 rfl (fun H locs hP hS => ?_)
          refine lv_aload_n hx hb dX3_drifted_86 rfl (lv_at hl 2 rfl) ?_
          refine wi_get (v := .ref a_v_draft) hx hb hts iX3 hown hE hP 0 rfl rfl 0 (by decide) q0 rfl dX3_drifted_87 ?_
          refine lv_iload hx hb dX3_drifted_90 (lv_at hl 0 rfl) ?_
          refine wi_bi hx hb dX3_drifted_92 (by decide) ?_
          refine wi_idiv hx hb dX3_drifted_94 ⟨hk15, by decide⟩ ?_
          refine wi_bi hx hb dX3_drifted_95 (by decide) ?_
          obtain ⟨hk19, h⟩ := chk_some h
          refine wi_irem hx hb dX3_drifted_97 ⟨hk19, by decide⟩ ?_
          obtain ⟨o20, hc21, h⟩ := bnd_some h
          refine cV_v (rest := []) (w2 := (wd_X3_drifted cy a_v a_v_draft a_v_draft_facts a_v_draft_places a_u1 a_u1_facts a_u1_places a_v_least a_v_bestPlaces a_v_startsLeft v_draft_boxes o20 v_draft_facts o17 u1_boxes u1_startsAt u1_facts u1_places)) ⟨hx, hb, hml, hown, hts⟩ (c_X5_setStart l D cy sa a_v_draft a_v_draft_facts a_v_draft_places v_draft_boxes v_draft_startsAt (((zand (zshr ((x6 * 1103515245) + 12345) 16) 32767) / 64) % 24) o20 hc21) (cwV 1 hts gX3_drifted_X5_setStart rfl rfl rfl (by decide +kernel) ⟨Nat.le_of_ble_eq_true rfl, Nat.le_of_ble_eq_true rfl⟩) rfl rfl rfl hE hP hDD rfl hS [1] rfl rfl rfl rfl hl.1 (Nat.le_of_ble_eq_true rfl) ⟨Nat.zero_le _, Nat.zero_le _⟩ rfl dX3_drifted_98 rfl (fun H locs hP hS => ?_)
          refine lv_iload hx hb dX3_drifted_101 (lv_at hl 6 rfl) ?_
          refine lv_aload_n hx hb dX3_drifted_103 rfl (lv_at hl 2 rfl) ?_
          refine wi_get (v := .ref a_v_draft) hx hb hts iX3 hown hE hP 0 rfl rfl 0 (by decide) q0 rfl dX3_drifted_104 ?_
          obtain ⟨o22, hc23, h⟩ := bnd_some h
          refine cV_i (rest := [.int (zI x7)]) (w2 := (wd_X3_drifted cy a_v a_v_draft a_v_draft_facts a_v_draft_places a_u1 a_u1_facts a_u1_places a_v_least a_v_bestPlaces a_v_startsLeft v_draft_boxes o20 v_draft_facts o17 u1_boxes u1_startsAt u1_facts u1_places)) ⟨hx, hb, hml, hown, hts⟩ (c_X5_wrongOfAll l D cy sa a_v_draft a_v_draft_facts a_v_draft_places v_draft_boxes o20 v_draft_facts o17 o22 hc23) (cwV 0 hts gX3_drifted_X5_wrongOfAll rfl rfl rfl (by decide +kernel) ⟨Nat.le_of_ble_eq_true rfl, Nat.le_of_ble_eq_true rfl⟩) rfl rfl rfl hE hP hDD rfl hS [1, 2, 3] rfl rfl rfl rfl hl.1 (Nat.le_of_ble_eq_true rfl) ⟨Nat.zero_le _, Nat.zero_le _⟩ rfl dX3_drifted_107 rfl (fun H locs hP hS => ?_)
          refine wi_iadd hx hb dX3_drifted_110 ?_
          refine lv_istore (lv' := [(7, .int (zI (x7 + o22))), (9, .int (zI (zand (zshr ((x6 * 1103515245) + 12345) 16) 32767))), (6, .int (zI ((x6 * 1103515245) + 12345))), (0, .ref a_v), (3, .int (zI x3)), (4, .int (zI x4)), (5, .int (zI x5)), (8, .int (zI x8))]) hx hb dX3_drifted_111 hl (by decide) rfl (fun ls hl => ?_)
          refine wi_iinc (k := 7) (lv' := [(8, .int (zI (x8 + 1))), (7, .int (zI (x7 + o22))), (9, .int (zI (zand (zshr ((x6 * 1103515245) + 12345) 16) 32767))), (6, .int (zI ((x6 * 1103515245) + 12345))), (0, .ref a_v), (3, .int (zI x3)), (4, .int (zI x4)), (5, .int (zI x5))]) hx hb dX3_drifted_113 hl rfl (by decide) rfl (fun ls hl => ?_)
          refine lv_goto (tgt := 31) hx hb dX3_drifted_116 (by decide) ?_
          exact ih v_draft_boxes o20 v_draft_facts o17 x3 x4 x5 ((x6 * 1103515245) + 12345) (x7 + o22) (x8 + 1) _ _ _ _ hP hS (lv_sub hl [4, 5, 6, 7, 3, 1, 0] rfl) h K
  refine lv_aload_n hx hb dX3_drifted_0 rfl (lv_at hl 1 rfl) ?_
  obtain ⟨o1, hc2, h⟩ := bnd_some h
  refine cV_i (rest := []) (w2 := (wd_X3_drifted cy a_v a_v_draft a_v_draft_facts a_v_draft_places a_u1 a_u1_facts a_u1_places a_v_least a_v_bestPlaces a_v_startsLeft v_draft_boxes v_draft_startsAt v_draft_facts v_draft_places u1_boxes u1_startsAt u1_facts u1_places)) ⟨hx, hb, hml, hown, hts⟩ (c_X5_size l D cy sa a_u1 a_u1_facts a_u1_places u1_boxes u1_startsAt o1 hc2) (cwV 0 hts gX3_drifted_X5_size rfl rfl rfl (by decide +kernel) ⟨Nat.le_of_ble_eq_true rfl, Nat.le_of_ble_eq_true rfl⟩) rfl rfl rfl hE hP hDD rfl hS [4] rfl rfl rfl rfl hl.1 (Nat.le_of_ble_eq_true rfl) ⟨Nat.zero_le _, Nat.zero_le _⟩ rfl dX3_drifted_1 rfl (fun H locs hP hS => ?_)
  refine lv_istore (lv' := [(5, .int (zI o1)), (0, .ref a_v), (1, .ref a_u1), (2, .int (zI x2)), (3, .int (zI x3)), (4, .int (zI x4))]) hx hb dX3_drifted_4 hl (by decide) rfl (fun ls hl => ?_)
  refine lv_iload hx hb dX3_drifted_6 (lv_at hl 0 rfl) ?_
  obtain ⟨hr3, h⟩ := chk_some h
  refine wi_if_gt (tgt := 14) hx hb dX3_drifted_8 (by decide) hr3 (fun c5 => ?_) (fun c5 => ?_)
  · have h := ite_t c5 h
    refine lv_aload_n hx hb dX3_drifted_14 rfl (lv_at hl 1 rfl) ?_
    refine wi_get (v := .ref a_v_draft) hx hb hts iX3 hown hE hP 0 rfl rfl 0 (by decide) q0 rfl dX3_drifted_15 ?_
    refine lv_aload_n hx hb dX3_drifted_18 rfl (lv_at hl 2 rfl) ?_
    obtain ⟨o6, hc7, h⟩ := bnd_some h
    refine cV_v (rest := []) (w2 := (wd_X3_drifted cy a_v a_v_draft a_v_draft_facts a_v_draft_places a_u1 a_u1_facts a_u1_places a_v_least a_v_bestPlaces a_v_startsLeft o6.1 o6.2.1 o6.2.2.1 o6.2.2.2 u1_boxes u1_startsAt u1_facts u1_places)) ⟨hx, hb, hml, hown, hts⟩ (c_X5_copyFrom l D cy sa a_v_draft a_v_draft_facts a_v_draft_places a_u1 a_u1_facts a_u1_places v_draft_boxes v_draft_startsAt v_draft_facts v_draft_places u1_boxes u1_startsAt u1_facts u1_places o6 hc7) (cwV 1 hts gX3_drifted_X5_copyFrom rfl rfl rfl (by decide +kernel) ⟨Nat.le_of_ble_eq_true rfl, Nat.le_of_ble_eq_true rfl⟩) rfl rfl rfl hE hP hDD rfl hS [1, 2, 3, 4, 5, 6] rfl rfl rfl rfl hl.1 (Nat.le_of_ble_eq_true rfl) ⟨Nat.zero_le _, Nat.zero_le _⟩ rfl dX3_drifted_19 rfl (fun H locs hP hS => ?_)
    refine lv_iload_n hx hb dX3_drifted_22 rfl (lv_at hl 3 rfl) ?_
    refine lv_istore (lv' := [(6, .int (zI x2)), (5, .int (zI o1)), (0, .ref a_v), (1, .ref a_u1), (2, .int (zI x2)), (3, .int (zI x3)), (4, .int (zI x4))]) hx hb dX3_drifted_23 hl (by decide) rfl (fun ls hl => ?_)
    refine wi_ic hx hb dX3_drifted_25 ?_
    refine lv_istore (lv' := [(7, .int (zI 0)), (6, .int (zI x2)), (5, .int (zI o1)), (0, .ref a_v), (1, .ref a_u1), (2, .int (zI x2)), (3, .int (zI x3)), (4, .int (zI x4))]) hx hb dX3_drifted_26 hl (by decide) rfl (fun ls hl => ?_)
    refine wi_ic hx hb dX3_drifted_28 ?_
    refine lv_istore (lv' := [(8, .int (zI 0)), (7, .int (zI 0)), (6, .int (zI x2)), (5, .int (zI o1)), (0, .ref a_v), (1, .ref a_u1), (2, .int (zI x2)), (3, .int (zI x3)), (4, .int (zI x4))]) hx hb dX3_drifted_29 hl (by decide) rfl (fun ls hl => ?_)
    obtain ⟨o24, hx25, h⟩ := bnd_some h
    refine L31 5000 o6.1 o6.2.1 o6.2.2.1 o6.2.2.2 x3 x4 o1 x2 0 0 _ _ _ _ hP hS (lv_sub hl [4, 7, 8, 3, 2, 1, 0] rfl) hx25 ?_
    clear hx25
    intro H locs ls hP hS hl
    refine lv_iload hx hb dX3_drifted_119 (lv_at hl 1 rfl) ?_
    obtain ⟨hr26, h⟩ := chk_some h
    refine wi_if_ne (tgt := 129) hx hb dX3_drifted_121 (by decide) hr26 (fun c28 => ?_) (fun c28 => ?_)
    · have h := ite_f c28 h
      refine lv_aload_n hx hb dX3_drifted_129 rfl (lv_at hl 0 rfl) ?_
      refine wi_get (v := .ref a_v_draft) hx hb hts iX3 hown hE hP 0 rfl rfl 0 (by decide) q0 rfl dX3_drifted_130 ?_
      obtain ⟨o29, hc30, h⟩ := bnd_some h
      refine cV_i (rest := []) (w2 := (wd_X3_drifted cy a_v a_v_draft a_v_draft_facts a_v_draft_places a_u1 a_u1_facts a_u1_places a_v_least a_v_bestPlaces a_v_startsLeft o6.1 o24.2.1 o6.2.2.1 o24.2.2 u1_boxes u1_startsAt u1_facts u1_places)) ⟨hx, hb, hml, hown, hts⟩ (c_X5_yawnsOfAll l D cy sa a_v_draft a_v_draft_facts a_v_draft_places o6.1 o24.2.1 o6.2.2.1 o24.2.2 o29 hc30) (cwV 0 hts gX3_drifted_X5_yawnsOfAll rfl rfl rfl (by decide +kernel) ⟨Nat.le_of_ble_eq_true rfl, Nat.le_of_ble_eq_true rfl⟩) rfl rfl rfl hE hP hDD rfl hS [1, 2, 3] rfl rfl rfl rfl hl.1 (Nat.le_of_ble_eq_true rfl) ⟨Nat.zero_le _, Nat.zero_le _⟩ rfl dX3_drifted_133 rfl (fun H locs hP hS => ?_)
      obtain rfl := Option.some.inj h
      exact KR _ _ _ _ hP hS dX3_drifted_136
    · have h := ite_t c28 h
      refine lv_iload hx hb dX3_drifted_124 (lv_at hl 2 rfl) ?_
      refine lv_goto (tgt := 136) hx hb dX3_drifted_126 (by decide) ?_
      obtain rfl := Option.some.inj h
      exact KR _ _ _ _ hP hS dX3_drifted_136
  · have h := ite_f c5 h
    refine wi_bi hx hb dX3_drifted_11 (by decide) ?_
    obtain rfl := Option.some.inj h
    exact KR _ _ _ _ hP hS dX3_drifted_13
abbrev wd_X0_isThere (cy : Nat → ClassId) (a_v : Nat) (a_v_shop : Nat) (a_v_seen : Nat) (v_there : Int) : va_W := [(a_v, .inr (0, [.ref a_v_shop, .ref a_v_seen, .int (zI v_there)]))]
set_option maxHeartbeats 4000000 in
set_option maxRecDepth 100000 in
theorem c_X0_isThere (l : Launch) (D : va_G) (cy : Nat → ClassId) (sa : Nat → Nat) (a_v : Nat) (a_v_shop : Nat) (a_v_seen : Nat) (v_there : Int) (o : Int) (h : f_Image_isThere v_there = some o) : CtI l yX0_isThere wsX0_isThere ({ frames := 0, cells := 0, slots := 0, locals := 0 }) D cy sa [.ref a_v] (wd_X0_isThere cy a_v a_v_shop a_v_seen v_there) (wd_X0_isThere cy a_v a_v_shop a_v_seen v_there) o := by
  refine ct_Z (cc := cX0_isThere) (maxL := 1) (plainFor_of_name (by decide)) rfl (Nat.le_of_ble_eq_true rfl) ?_
  intro p e s m below meth c A args QQ hx hb hml hown hts hE hDD hP KR ls hl
  have hl : lv_has ls 1 [(0, .ref a_v)] := hl
  have hDD : DD A [a_v] := hDD
  have hS : va_S A s.heap s.heap [] := va_S.rf
  have q0 := hts (.fieldLink RX0 23 "HatHours$Image" "there" "Z") (List.mem_of_getElem? (i := 1) rfl)
  have iX0 : ∀ w ∈ u_ws RX0 TX0 3, w ∈ wsX0_isThere := in_slice 2 3 rfl
  refine lv_aload_n hx hb dX0_isThere_0 rfl (lv_at hl 0 rfl) ?_
  refine wi_get (v := .int (zI v_there)) hx hb hts iX0 hown hE hP 0 rfl rfl 2 (by decide) q0 rfl dX0_isThere_1 ?_
  obtain ⟨hk1, h⟩ := chk_some h
  obtain rfl := Option.some.inj h
  exact KR _ _ _ _ (z01 hk1) hP hS dX0_isThere_4
abbrev wd_X6_copyFrom (cy : Nat → ClassId) (a_v : Nat) (a_v_hours : Nat) (a_v_oclocks : Nat) (a_v_rooms : Nat) (a_u1 : Nat) (a_u1_hours : Nat) (a_u1_oclocks : Nat) (a_u1_rooms : Nat) (v_used : Int) (v_hours : Nat → Int) (v_oclocks : Nat → Int) (v_rooms : Nat → Int) (u1_used : Int) (u1_hours : Nat → Int) (u1_oclocks : Nat → Int) (u1_rooms : Nat → Int) : va_W := [(a_v, .inr (6, [.ref a_v_rooms, .ref a_v_hours, .ref a_v_oclocks, .int (zI v_used)])), (a_v_hours, .inl (cy 0, 6, .inl (fun j => zI (v_hours j)))), (a_v_oclocks, .inl (cy 0, 6, .inl (fun j => zI (v_oclocks j)))), (a_v_rooms, .inl (cy 0, 6, .inl (fun j => zI (v_rooms j)))), (a_u1, .inr (6, [.ref a_u1_rooms, .ref a_u1_hours, .ref a_u1_oclocks, .int (zI u1_used)])), (a_u1_hours, .inl (cy 0, 6, .inl (fun j => zI (u1_hours j)))), (a_u1_oclocks, .inl (cy 0, 6, .inl (fun j => zI (u1_oclocks j)))), (a_u1_rooms, .inl (cy 0, 6, .inl (fun j => zI (u1_rooms j))))]
set_option maxHeartbeats 4000000 in
set_option maxRecDepth 100000 in
theorem c_X6_copyFrom (l : Launch) (D : va_G) (cy : Nat → ClassId) (sa : Nat → Nat) (a_v : Nat) (a_v_hours : Nat) (a_v_oclocks : Nat) (a_v_rooms : Nat) (a_u1 : Nat) (a_u1_hours : Nat) (a_u1_oclocks : Nat) (a_u1_rooms : Nat) (v_used : Int) (v_hours : Nat → Int) (v_oclocks : Nat → Int) (v_rooms : Nat → Int) (u1_used : Int) (u1_hours : Nat → Int) (u1_oclocks : Nat → Int) (u1_rooms : Nat → Int) (o : Int × (Nat → Int) × (Nat → Int) × (Nat → Int)) (h : f_Sightings_copyFrom v_used v_hours v_oclocks v_rooms u1_used u1_hours u1_oclocks u1_rooms = some o) : CtV l yX6_copyFrom wsX6_copyFrom ({ frames := 1, cells := 0, slots := 0, locals := 60 }) D cy sa [.ref a_v, .ref a_u1] (wd_X6_copyFrom cy a_v a_v_hours a_v_oclocks a_v_rooms a_u1 a_u1_hours a_u1_oclocks a_u1_rooms v_used v_hours v_oclocks v_rooms u1_used u1_hours u1_oclocks u1_rooms) (wd_X6_copyFrom cy a_v a_v_hours a_v_oclocks a_v_rooms a_u1 a_u1_hours a_u1_oclocks a_u1_rooms o.1 o.2.1 o.2.2.1 o.2.2.2 u1_used u1_hours u1_oclocks u1_rooms)  := by
  refine ct_V (cc := cX6_copyFrom) (maxL := 2) (plainFor_of_name (by decide)) rfl (Nat.le_of_ble_eq_true rfl) ?_
  intro p e s m below meth c A args QQ hx hb hml hown hts hE hDD hP KR ls hl
  have hl : lv_has ls 2 [(0, .ref a_v), (1, .ref a_u1)] := hl
  have hDD : DD A [a_v, a_v_hours, a_v_oclocks, a_v_rooms, a_u1, a_u1_hours, a_u1_oclocks, a_u1_rooms] := hDD
  have hS : va_S A s.heap s.heap [] := va_S.rf
  have q0 := hts (.fieldLink RX6 9 "HatHours$Sightings" "rooms" "[I") (List.mem_of_getElem? (i := 1) rfl)
  have q1 := hts (.methodLink RX6 33 arraycopyName) (List.mem_of_getElem? (i := 2) rfl)
  have q2 := hts (.native arraycopyName) (List.mem_of_getElem? (i := 3) rfl)
  have q3 := hts (.static arraycopyName) (List.mem_of_getElem? (i := 4) rfl)
  have q4 := hts (.initialized "java/lang/System") (List.mem_of_getElem? (i := 5) rfl)
  have q5 := hts (.fieldLink RX6 13 "HatHours$Sightings" "hours" "[I") (List.mem_of_getElem? (i := 6) rfl)
  have q6 := hts (.fieldLink RX6 16 "HatHours$Sightings" "oclocks" "[I") (List.mem_of_getElem? (i := 7) rfl)
  have q7 := hts (.fieldLink RX6 19 "HatHours$Sightings" "used" "I") (List.mem_of_getElem? (i := 8) rfl)
  have iX6 : ∀ w ∈ u_ws RX6 TX6 4, w ∈ wsX6_copyFrom := in_slice 9 4 rfl
  refine lv_aload_n hx hb dX6_copyFrom_0 rfl (lv_at hl 1 rfl) ?_
  refine wi_get (v := .ref a_u1_rooms) hx hb hts iX6 hown hE hP 4 rfl rfl 0 (by decide) q0 rfl dX6_copyFrom_1 ?_
  refine wi_ic hx hb dX6_copyFrom_4 ?_
  refine lv_aload_n hx hb dX6_copyFrom_5 rfl (lv_at hl 0 rfl) ?_
  refine wi_get (v := .ref a_v_rooms) hx hb hts iX6 hown hE hP 0 rfl rfl 0 (by decide) q0 rfl dX6_copyFrom_6 ?_
  refine wi_ic hx hb dX6_copyFrom_9 ?_
  refine wi_bi hx hb dX6_copyFrom_10 (by decide) ?_
  refine wi_copy (w2 := (wd_X6_copyFrom cy a_v a_v_hours a_v_oclocks a_v_rooms a_u1 a_u1_hours a_u1_oclocks a_u1_rooms v_used v_hours v_oclocks (cpZ u1_rooms v_rooms 6) u1_used u1_hours u1_oclocks u1_rooms)) hx hb (by rw [hml]; exact hl.1.symm) hown q1 q2 q3 q4 hE hP hDD rfl hS 7 3 rfl rfl (by decide) rfl (Nat.le_of_ble_eq_true rfl) (Nat.le_of_ble_eq_true rfl) dX6_copyFrom_12 rfl (fun H locs hP hS => ?_)
  refine lv_aload_n hx hb dX6_copyFrom_15 rfl (lv_at hl 1 rfl) ?_
  refine wi_get (v := .ref a_u1_hours) hx hb hts iX6 hown hE hP 4 rfl rfl 1 (by decide) q5 rfl dX6_copyFrom_16 ?_
  refine wi_ic hx hb dX6_copyFrom_19 ?_
  refine lv_aload_n hx hb dX6_copyFrom_20 rfl (lv_at hl 0 rfl) ?_
  refine wi_get (v := .ref a_v_hours) hx hb hts iX6 hown hE hP 0 rfl rfl 1 (by decide) q5 rfl dX6_copyFrom_21 ?_
  refine wi_ic hx hb dX6_copyFrom_24 ?_
  refine wi_bi hx hb dX6_copyFrom_25 (by decide) ?_
  refine wi_copy (w2 := (wd_X6_copyFrom cy a_v a_v_hours a_v_oclocks a_v_rooms a_u1 a_u1_hours a_u1_oclocks a_u1_rooms v_used (cpZ u1_hours v_hours 6) v_oclocks (cpZ u1_rooms v_rooms 6) u1_used u1_hours u1_oclocks u1_rooms)) hx hb (by rw [hml]; exact hl.1.symm) hown q1 q2 q3 q4 hE hP hDD rfl hS 5 1 rfl rfl (by decide) rfl (Nat.le_of_ble_eq_true rfl) (Nat.le_of_ble_eq_true rfl) dX6_copyFrom_27 rfl (fun H locs hP hS => ?_)
  refine lv_aload_n hx hb dX6_copyFrom_30 rfl (lv_at hl 1 rfl) ?_
  refine wi_get (v := .ref a_u1_oclocks) hx hb hts iX6 hown hE hP 4 rfl rfl 2 (by decide) q6 rfl dX6_copyFrom_31 ?_
  refine wi_ic hx hb dX6_copyFrom_34 ?_
  refine lv_aload_n hx hb dX6_copyFrom_35 rfl (lv_at hl 0 rfl) ?_
  refine wi_get (v := .ref a_v_oclocks) hx hb hts iX6 hown hE hP 0 rfl rfl 2 (by decide) q6 rfl dX6_copyFrom_36 ?_
  refine wi_ic hx hb dX6_copyFrom_39 ?_
  refine wi_bi hx hb dX6_copyFrom_40 (by decide) ?_
  refine wi_copy (w2 := (wd_X6_copyFrom cy a_v a_v_hours a_v_oclocks a_v_rooms a_u1 a_u1_hours a_u1_oclocks a_u1_rooms v_used (cpZ u1_hours v_hours 6) (cpZ u1_oclocks v_oclocks 6) (cpZ u1_rooms v_rooms 6) u1_used u1_hours u1_oclocks u1_rooms)) hx hb (by rw [hml]; exact hl.1.symm) hown q1 q2 q3 q4 hE hP hDD rfl hS 6 2 rfl rfl (by decide) rfl (Nat.le_of_ble_eq_true rfl) (Nat.le_of_ble_eq_true rfl) dX6_copyFrom_42 rfl (fun H locs hP hS => ?_)
  refine lv_aload_n hx hb dX6_copyFrom_45 rfl (lv_at hl 0 rfl) ?_
  refine lv_aload_n hx hb dX6_copyFrom_46 rfl (lv_at hl 1 rfl) ?_
  refine wi_get (v := .int (zI u1_used)) hx hb hts iX6 hown hE hP 4 rfl rfl 3 (by decide) q7 rfl dX6_copyFrom_47 ?_
  refine wi_put (ty := .int) (v := .int (zI u1_used)) (w2 := (wd_X6_copyFrom cy a_v a_v_hours a_v_oclocks a_v_rooms a_u1 a_u1_hours a_u1_oclocks a_u1_rooms u1_used (cpZ u1_hours v_hours 6) (cpZ u1_oclocks v_oclocks 6) (cpZ u1_rooms v_rooms 6) u1_used u1_hours u1_oclocks u1_rooms)) hx hb hts iX6 tyX6 tyX6_ok nmX6 hown hE hP hDD rfl hS 0 rfl rfl 3 (by decide) q7 rfl (by decide +kernel) rfl rfl (Nat.le_of_ble_eq_true rfl) dX6_copyFrom_50 rfl (fun H locs hP hS => ?_)
  obtain rfl := Option.some.inj h
  exact KR _ _ _ _ hP hS dX6_copyFrom_53
abbrev wd_X0_take (cy : Nat → ClassId) (a_v : Nat) (a_v_seen : Nat) (a_v_seen_hours : Nat) (a_v_seen_oclocks : Nat) (a_v_seen_rooms : Nat) (a_v_shop : Nat) (a_v_shop_facts : Nat) (a_v_shop_places : Nat) (a_u1 : Nat) (a_u1_facts : Nat) (a_u1_places : Nat) (a_u2 : Nat) (a_u2_hours : Nat) (a_u2_oclocks : Nat) (a_u2_rooms : Nat) (v_there : Int) (v_seen_used : Int) (v_seen_hours : Nat → Int) (v_seen_oclocks : Nat → Int) (v_seen_rooms : Nat → Int) (v_shop_boxes : Int) (v_shop_startsAt : Int) (v_shop_facts : Nat → Int) (v_shop_places : Nat → Int) (u1_boxes : Int) (u1_startsAt : Int) (u1_facts : Nat → Int) (u1_places : Nat → Int) (u2_used : Int) (u2_hours : Nat → Int) (u2_oclocks : Nat → Int) (u2_rooms : Nat → Int) : va_W := [(a_v, .inr (0, [.ref a_v_shop, .ref a_v_seen, .int (zI v_there)])), (a_v_seen, .inr (6, [.ref a_v_seen_rooms, .ref a_v_seen_hours, .ref a_v_seen_oclocks, .int (zI v_seen_used)])), (a_v_seen_hours, .inl (cy 0, 6, .inl (fun j => zI (v_seen_hours j)))), (a_v_seen_oclocks, .inl (cy 0, 6, .inl (fun j => zI (v_seen_oclocks j)))), (a_v_seen_rooms, .inl (cy 0, 6, .inl (fun j => zI (v_seen_rooms j)))), (a_v_shop, .inr (5, [.ref a_v_shop_facts, .ref a_v_shop_places, .int (zI v_shop_boxes), .int (zI v_shop_startsAt)])), (a_v_shop_facts, .inl (cy 0, 30, .inl (fun j => zI (v_shop_facts j)))), (a_v_shop_places, .inl (cy 0, 5, .inl (fun j => zI (v_shop_places j)))), (a_u1, .inr (5, [.ref a_u1_facts, .ref a_u1_places, .int (zI u1_boxes), .int (zI u1_startsAt)])), (a_u1_facts, .inl (cy 0, 30, .inl (fun j => zI (u1_facts j)))), (a_u1_places, .inl (cy 0, 5, .inl (fun j => zI (u1_places j)))), (a_u2, .inr (6, [.ref a_u2_rooms, .ref a_u2_hours, .ref a_u2_oclocks, .int (zI u2_used)])), (a_u2_hours, .inl (cy 0, 6, .inl (fun j => zI (u2_hours j)))), (a_u2_oclocks, .inl (cy 0, 6, .inl (fun j => zI (u2_oclocks j)))), (a_u2_rooms, .inl (cy 0, 6, .inl (fun j => zI (u2_rooms j))))]
set_option maxHeartbeats 4000000 in
set_option maxRecDepth 100000 in
theorem c_X0_take (l : Launch) (D : va_G) (cy : Nat → ClassId) (sa : Nat → Nat) (a_v : Nat) (a_v_seen : Nat) (a_v_seen_hours : Nat) (a_v_seen_oclocks : Nat) (a_v_seen_rooms : Nat) (a_v_shop : Nat) (a_v_shop_facts : Nat) (a_v_shop_places : Nat) (a_u1 : Nat) (a_u1_facts : Nat) (a_u1_places : Nat) (a_u2 : Nat) (a_u2_hours : Nat) (a_u2_oclocks : Nat) (a_u2_rooms : Nat) (v_there : Int) (v_seen_used : Int) (v_seen_hours : Nat → Int) (v_seen_oclocks : Nat → Int) (v_seen_rooms : Nat → Int) (v_shop_boxes : Int) (v_shop_startsAt : Int) (v_shop_facts : Nat → Int) (v_shop_places : Nat → Int) (u1_boxes : Int) (u1_startsAt : Int) (u1_facts : Nat → Int) (u1_places : Nat → Int) (u2_used : Int) (u2_hours : Nat → Int) (u2_oclocks : Nat → Int) (u2_rooms : Nat → Int) (o : Int × Int × (Nat → Int) × (Nat → Int) × (Nat → Int) × Int × Int × (Nat → Int) × (Nat → Int)) (h : f_Image_take v_there v_seen_used v_seen_hours v_seen_oclocks v_seen_rooms v_shop_boxes v_shop_startsAt v_shop_facts v_shop_places u1_boxes u1_startsAt u1_facts u1_places u2_used u2_hours u2_oclocks u2_rooms = some o) : CtV l yX0_take wsX0_take ({ frames := 2, cells := 0, slots := 0, locals := 81 }) D cy sa [.ref a_v, .ref a_u1, .ref a_u2] (wd_X0_take cy a_v a_v_seen a_v_seen_hours a_v_seen_oclocks a_v_seen_rooms a_v_shop a_v_shop_facts a_v_shop_places a_u1 a_u1_facts a_u1_places a_u2 a_u2_hours a_u2_oclocks a_u2_rooms v_there v_seen_used v_seen_hours v_seen_oclocks v_seen_rooms v_shop_boxes v_shop_startsAt v_shop_facts v_shop_places u1_boxes u1_startsAt u1_facts u1_places u2_used u2_hours u2_oclocks u2_rooms) (wd_X0_take cy a_v a_v_seen a_v_seen_hours a_v_seen_oclocks a_v_seen_rooms a_v_shop a_v_shop_facts a_v_shop_places a_u1 a_u1_facts a_u1_places a_u2 a_u2_hours a_u2_oclocks a_u2_rooms o.1 o.2.1 o.2.2.1 o.2.2.2.1 o.2.2.2.2.1 o.2.2.2.2.2.1 o.2.2.2.2.2.2.1 o.2.2.2.2.2.2.2.1 o.2.2.2.2.2.2.2.2 u1_boxes u1_startsAt u1_facts u1_places u2_used u2_hours u2_oclocks u2_rooms)  := by
  refine ct_V (cc := cX0_take) (maxL := 3) (plainFor_of_name (by decide)) rfl (Nat.le_of_ble_eq_true rfl) ?_
  intro p e s m below meth c A args QQ hx hb hml hown hts hE hDD hP KR ls hl
  have hl : lv_has ls 3 [(0, .ref a_v), (1, .ref a_u1), (2, .ref a_u2)] := hl
  have hDD : DD A [a_v, a_v_seen, a_v_seen_hours, a_v_seen_oclocks, a_v_seen_rooms, a_v_shop, a_v_shop_facts, a_v_shop_places, a_u1, a_u1_facts, a_u1_places, a_u2, a_u2_hours, a_u2_oclocks, a_u2_rooms] := hDD
  have hS : va_S A s.heap s.heap [] := va_S.rf
  have q0 := hts (.fieldLink RX0 10 "HatHours$Image" "shop" "LHatHours$Shop;") (List.mem_of_getElem? (i := 1) rfl)
  have q1 := hts (.fieldLink RX0 19 "HatHours$Image" "seen" "LHatHours$Sightings;") (List.mem_of_getElem? (i := 2) rfl)
  have q2 := hts (.fieldLink RX0 23 "HatHours$Image" "there" "Z") (List.mem_of_getElem? (i := 3) rfl)
  have iX0 : ∀ w ∈ u_ws RX0 TX0 3, w ∈ wsX0_take := in_slice 27 3 rfl
  refine lv_aload_n hx hb dX0_take_0 rfl (lv_at hl 0 rfl) ?_
  refine wi_get (v := .ref a_v_shop) hx hb hts iX0 hown hE hP 0 rfl rfl 0 (by decide) q0 rfl dX0_take_1 ?_
  refine lv_aload_n hx hb dX0_take_4 rfl (lv_at hl 1 rfl) ?_
  obtain ⟨o1, hc2, h⟩ := bnd_some h
  refine cV_v (rest := []) (w2 := (wd_X0_take cy a_v a_v_seen a_v_seen_hours a_v_seen_oclocks a_v_seen_rooms a_v_shop a_v_shop_facts a_v_shop_places a_u1 a_u1_facts a_u1_places a_u2 a_u2_hours a_u2_oclocks a_u2_rooms v_there v_seen_used v_seen_hours v_seen_oclocks v_seen_rooms o1.1 o1.2.1 o1.2.2.1 o1.2.2.2 u1_boxes u1_startsAt u1_facts u1_places u2_used u2_hours u2_oclocks u2_rooms)) ⟨hx, hb, hml, hown, hts⟩ (c_X5_copyFrom l D cy sa a_v_shop a_v_shop_facts a_v_shop_places a_u1 a_u1_facts a_u1_places v_shop_boxes v_shop_startsAt v_shop_facts v_shop_places u1_boxes u1_startsAt u1_facts u1_places o1 hc2) (cwV 1 hts gX0_take_X5_copyFrom rfl rfl rfl (by decide +kernel) ⟨Nat.le_of_ble_eq_true rfl, Nat.le_of_ble_eq_true rfl⟩) rfl rfl rfl hE hP hDD rfl hS [5, 6, 7, 8, 9, 10] rfl rfl rfl rfl hl.1 (Nat.le_of_ble_eq_true rfl) ⟨Nat.zero_le _, Nat.zero_le _⟩ rfl dX0_take_5 rfl (fun H locs hP hS => ?_)
  refine lv_aload_n hx hb dX0_take_8 rfl (lv_at hl 0 rfl) ?_
  refine wi_get (v := .ref a_v_seen) hx hb hts iX0 hown hE hP 0 rfl rfl 1 (by decide) q1 rfl dX0_take_9 ?_
  refine lv_aload_n hx hb dX0_take_12 rfl (lv_at hl 2 rfl) ?_
  obtain ⟨o3, hc4, h⟩ := bnd_some h
  refine cV_v (rest := []) (w2 := (wd_X0_take cy a_v a_v_seen a_v_seen_hours a_v_seen_oclocks a_v_seen_rooms a_v_shop a_v_shop_facts a_v_shop_places a_u1 a_u1_facts a_u1_places a_u2 a_u2_hours a_u2_oclocks a_u2_rooms v_there o3.1 o3.2.1 o3.2.2.1 o3.2.2.2 o1.1 o1.2.1 o1.2.2.1 o1.2.2.2 u1_boxes u1_startsAt u1_facts u1_places u2_used u2_hours u2_oclocks u2_rooms)) ⟨hx, hb, hml, hown, hts⟩ (c_X6_copyFrom l D cy sa a_v_seen a_v_seen_hours a_v_seen_oclocks a_v_seen_rooms a_u2 a_u2_hours a_u2_oclocks a_u2_rooms v_seen_used v_seen_hours v_seen_oclocks v_seen_rooms u2_used u2_hours u2_oclocks u2_rooms o3 hc4) (cwV 1 hts gX0_take_X6_copyFrom rfl rfl rfl (by decide +kernel) ⟨Nat.le_of_ble_eq_true rfl, Nat.le_of_ble_eq_true rfl⟩) rfl rfl rfl hE hP hDD rfl hS [1, 2, 3, 4, 11, 12, 13, 14] rfl rfl rfl rfl hl.1 (Nat.le_of_ble_eq_true rfl) ⟨Nat.zero_le _, Nat.zero_le _⟩ rfl dX0_take_13 rfl (fun H locs hP hS => ?_)
  refine lv_aload_n hx hb dX0_take_16 rfl (lv_at hl 0 rfl) ?_
  refine wi_ic hx hb dX0_take_17 ?_
  refine wi_put (ty := .boolean) (v := .int (zI 1)) (w2 := (wd_X0_take cy a_v a_v_seen a_v_seen_hours a_v_seen_oclocks a_v_seen_rooms a_v_shop a_v_shop_facts a_v_shop_places a_u1 a_u1_facts a_u1_places a_u2 a_u2_hours a_u2_oclocks a_u2_rooms 1 o3.1 o3.2.1 o3.2.2.1 o3.2.2.2 o1.1 o1.2.1 o1.2.2.1 o1.2.2.2 u1_boxes u1_startsAt u1_facts u1_places u2_used u2_hours u2_oclocks u2_rooms)) hx hb hts iX0 tyX0 tyX0_ok nmX0 hown hE hP hDD rfl hS 0 rfl rfl 2 (by decide) q2 rfl (by decide +kernel) rfl rfl (Nat.le_of_ble_eq_true rfl) dX0_take_18 rfl (fun H locs hP hS => ?_)
  obtain rfl := Option.some.inj h
  exact KR _ _ _ _ hP hS dX0_take_21
abbrev wd_X0_giveBack (cy : Nat → ClassId) (a_v : Nat) (a_v_seen : Nat) (a_v_seen_hours : Nat) (a_v_seen_oclocks : Nat) (a_v_seen_rooms : Nat) (a_v_shop : Nat) (a_v_shop_facts : Nat) (a_v_shop_places : Nat) (a_u1 : Nat) (a_u1_facts : Nat) (a_u1_places : Nat) (a_u2 : Nat) (a_u2_hours : Nat) (a_u2_oclocks : Nat) (a_u2_rooms : Nat) (v_there : Int) (v_seen_used : Int) (v_seen_hours : Nat → Int) (v_seen_oclocks : Nat → Int) (v_seen_rooms : Nat → Int) (v_shop_boxes : Int) (v_shop_startsAt : Int) (v_shop_facts : Nat → Int) (v_shop_places : Nat → Int) (u1_boxes : Int) (u1_startsAt : Int) (u1_facts : Nat → Int) (u1_places : Nat → Int) (u2_used : Int) (u2_hours : Nat → Int) (u2_oclocks : Nat → Int) (u2_rooms : Nat → Int) : va_W := [(a_v, .inr (0, [.ref a_v_shop, .ref a_v_seen, .int (zI v_there)])), (a_v_seen, .inr (6, [.ref a_v_seen_rooms, .ref a_v_seen_hours, .ref a_v_seen_oclocks, .int (zI v_seen_used)])), (a_v_seen_hours, .inl (cy 0, 6, .inl (fun j => zI (v_seen_hours j)))), (a_v_seen_oclocks, .inl (cy 0, 6, .inl (fun j => zI (v_seen_oclocks j)))), (a_v_seen_rooms, .inl (cy 0, 6, .inl (fun j => zI (v_seen_rooms j)))), (a_v_shop, .inr (5, [.ref a_v_shop_facts, .ref a_v_shop_places, .int (zI v_shop_boxes), .int (zI v_shop_startsAt)])), (a_v_shop_facts, .inl (cy 0, 30, .inl (fun j => zI (v_shop_facts j)))), (a_v_shop_places, .inl (cy 0, 5, .inl (fun j => zI (v_shop_places j)))), (a_u1, .inr (5, [.ref a_u1_facts, .ref a_u1_places, .int (zI u1_boxes), .int (zI u1_startsAt)])), (a_u1_facts, .inl (cy 0, 30, .inl (fun j => zI (u1_facts j)))), (a_u1_places, .inl (cy 0, 5, .inl (fun j => zI (u1_places j)))), (a_u2, .inr (6, [.ref a_u2_rooms, .ref a_u2_hours, .ref a_u2_oclocks, .int (zI u2_used)])), (a_u2_hours, .inl (cy 0, 6, .inl (fun j => zI (u2_hours j)))), (a_u2_oclocks, .inl (cy 0, 6, .inl (fun j => zI (u2_oclocks j)))), (a_u2_rooms, .inl (cy 0, 6, .inl (fun j => zI (u2_rooms j))))]
set_option maxHeartbeats 4000000 in
set_option maxRecDepth 100000 in
theorem c_X0_giveBack (l : Launch) (D : va_G) (cy : Nat → ClassId) (sa : Nat → Nat) (a_v : Nat) (a_v_seen : Nat) (a_v_seen_hours : Nat) (a_v_seen_oclocks : Nat) (a_v_seen_rooms : Nat) (a_v_shop : Nat) (a_v_shop_facts : Nat) (a_v_shop_places : Nat) (a_u1 : Nat) (a_u1_facts : Nat) (a_u1_places : Nat) (a_u2 : Nat) (a_u2_hours : Nat) (a_u2_oclocks : Nat) (a_u2_rooms : Nat) (v_there : Int) (v_seen_used : Int) (v_seen_hours : Nat → Int) (v_seen_oclocks : Nat → Int) (v_seen_rooms : Nat → Int) (v_shop_boxes : Int) (v_shop_startsAt : Int) (v_shop_facts : Nat → Int) (v_shop_places : Nat → Int) (u1_boxes : Int) (u1_startsAt : Int) (u1_facts : Nat → Int) (u1_places : Nat → Int) (u2_used : Int) (u2_hours : Nat → Int) (u2_oclocks : Nat → Int) (u2_rooms : Nat → Int) (o : Int × Int × (Nat → Int) × (Nat → Int) × Int × (Nat → Int) × (Nat → Int) × (Nat → Int)) (h : f_Image_giveBack v_seen_used v_seen_hours v_seen_oclocks v_seen_rooms v_shop_boxes v_shop_startsAt v_shop_facts v_shop_places u1_boxes u1_startsAt u1_facts u1_places u2_used u2_hours u2_oclocks u2_rooms = some o) : CtV l yX0_giveBack wsX0_giveBack ({ frames := 2, cells := 0, slots := 0, locals := 81 }) D cy sa [.ref a_v, .ref a_u1, .ref a_u2] (wd_X0_giveBack cy a_v a_v_seen a_v_seen_hours a_v_seen_oclocks a_v_seen_rooms a_v_shop a_v_shop_facts a_v_shop_places a_u1 a_u1_facts a_u1_places a_u2 a_u2_hours a_u2_oclocks a_u2_rooms v_there v_seen_used v_seen_hours v_seen_oclocks v_seen_rooms v_shop_boxes v_shop_startsAt v_shop_facts v_shop_places u1_boxes u1_startsAt u1_facts u1_places u2_used u2_hours u2_oclocks u2_rooms) (wd_X0_giveBack cy a_v a_v_seen a_v_seen_hours a_v_seen_oclocks a_v_seen_rooms a_v_shop a_v_shop_facts a_v_shop_places a_u1 a_u1_facts a_u1_places a_u2 a_u2_hours a_u2_oclocks a_u2_rooms v_there v_seen_used v_seen_hours v_seen_oclocks v_seen_rooms v_shop_boxes v_shop_startsAt v_shop_facts v_shop_places o.1 o.2.1 o.2.2.1 o.2.2.2.1 o.2.2.2.2.1 o.2.2.2.2.2.1 o.2.2.2.2.2.2.1 o.2.2.2.2.2.2.2)  := by
  refine ct_V (cc := cX0_giveBack) (maxL := 3) (plainFor_of_name (by decide)) rfl (Nat.le_of_ble_eq_true rfl) ?_
  intro p e s m below meth c A args QQ hx hb hml hown hts hE hDD hP KR ls hl
  have hl : lv_has ls 3 [(0, .ref a_v), (1, .ref a_u1), (2, .ref a_u2)] := hl
  have hDD : DD A [a_v, a_v_seen, a_v_seen_hours, a_v_seen_oclocks, a_v_seen_rooms, a_v_shop, a_v_shop_facts, a_v_shop_places, a_u1, a_u1_facts, a_u1_places, a_u2, a_u2_hours, a_u2_oclocks, a_u2_rooms] := hDD
  have hS : va_S A s.heap s.heap [] := va_S.rf
  have q0 := hts (.fieldLink RX0 10 "HatHours$Image" "shop" "LHatHours$Shop;") (List.mem_of_getElem? (i := 1) rfl)
  have q1 := hts (.fieldLink RX0 19 "HatHours$Image" "seen" "LHatHours$Sightings;") (List.mem_of_getElem? (i := 2) rfl)
  have iX0 : ∀ w ∈ u_ws RX0 TX0 3, w ∈ wsX0_giveBack := in_slice 26 3 rfl
  refine lv_aload_n hx hb dX0_giveBack_0 rfl (lv_at hl 1 rfl) ?_
  refine lv_aload_n hx hb dX0_giveBack_1 rfl (lv_at hl 0 rfl) ?_
  refine wi_get (v := .ref a_v_shop) hx hb hts iX0 hown hE hP 0 rfl rfl 0 (by decide) q0 rfl dX0_giveBack_2 ?_
  obtain ⟨o1, hc2, h⟩ := bnd_some h
  refine cV_v (rest := []) (w2 := (wd_X0_giveBack cy a_v a_v_seen a_v_seen_hours a_v_seen_oclocks a_v_seen_rooms a_v_shop a_v_shop_facts a_v_shop_places a_u1 a_u1_facts a_u1_places a_u2 a_u2_hours a_u2_oclocks a_u2_rooms v_there v_seen_used v_seen_hours v_seen_oclocks v_seen_rooms v_shop_boxes v_shop_startsAt v_shop_facts v_shop_places o1.1 o1.2.1 o1.2.2.1 o1.2.2.2 u2_used u2_hours u2_oclocks u2_rooms)) ⟨hx, hb, hml, hown, hts⟩ (c_X5_copyFrom l D cy sa a_u1 a_u1_facts a_u1_places a_v_shop a_v_shop_facts a_v_shop_places u1_boxes u1_startsAt u1_facts u1_places v_shop_boxes v_shop_startsAt v_shop_facts v_shop_places o1 hc2) (cwV 1 hts gX0_giveBack_X5_copyFrom rfl rfl rfl (by decide +kernel) ⟨Nat.le_of_ble_eq_true rfl, Nat.le_of_ble_eq_true rfl⟩) rfl rfl rfl hE hP hDD rfl hS [8, 9, 10, 5, 6, 7] rfl rfl rfl rfl hl.1 (Nat.le_of_ble_eq_true rfl) ⟨Nat.zero_le _, Nat.zero_le _⟩ rfl dX0_giveBack_5 rfl (fun H locs hP hS => ?_)
  refine lv_aload_n hx hb dX0_giveBack_8 rfl (lv_at hl 2 rfl) ?_
  refine lv_aload_n hx hb dX0_giveBack_9 rfl (lv_at hl 0 rfl) ?_
  refine wi_get (v := .ref a_v_seen) hx hb hts iX0 hown hE hP 0 rfl rfl 1 (by decide) q1 rfl dX0_giveBack_10 ?_
  obtain ⟨o3, hc4, h⟩ := bnd_some h
  refine cV_v (rest := []) (w2 := (wd_X0_giveBack cy a_v a_v_seen a_v_seen_hours a_v_seen_oclocks a_v_seen_rooms a_v_shop a_v_shop_facts a_v_shop_places a_u1 a_u1_facts a_u1_places a_u2 a_u2_hours a_u2_oclocks a_u2_rooms v_there v_seen_used v_seen_hours v_seen_oclocks v_seen_rooms v_shop_boxes v_shop_startsAt v_shop_facts v_shop_places o1.1 o1.2.1 o1.2.2.1 o1.2.2.2 o3.1 o3.2.1 o3.2.2.1 o3.2.2.2)) ⟨hx, hb, hml, hown, hts⟩ (c_X6_copyFrom l D cy sa a_u2 a_u2_hours a_u2_oclocks a_u2_rooms a_v_seen a_v_seen_hours a_v_seen_oclocks a_v_seen_rooms u2_used u2_hours u2_oclocks u2_rooms v_seen_used v_seen_hours v_seen_oclocks v_seen_rooms o3 hc4) (cwV 1 hts gX0_giveBack_X6_copyFrom rfl rfl rfl (by decide +kernel) ⟨Nat.le_of_ble_eq_true rfl, Nat.le_of_ble_eq_true rfl⟩) rfl rfl rfl hE hP hDD rfl hS [11, 12, 13, 14, 1, 2, 3, 4] rfl rfl rfl rfl hl.1 (Nat.le_of_ble_eq_true rfl) ⟨Nat.zero_le _, Nat.zero_le _⟩ rfl dX0_giveBack_13 rfl (fun H locs hP hS => ?_)
  obtain rfl := Option.some.inj h
  exact KR _ _ _ _ hP hS dX0_giveBack_16
abbrev wd_X4_has (cy : Nat → ClassId) : va_W := []
set_option maxHeartbeats 4000000 in
set_option maxRecDepth 100000 in
theorem c_X4_has (l : Launch) (D : va_G) (cy : Nat → ClassId) (sa : Nat → Nat) (x0 : Int) (o : Int) (h : f_Sheets_has x0 = some o) : CtI l yX4_has wsX4_has ({ frames := 1, cells := 0, slots := 0, locals := 22 }) D cy sa [.int (zI x0)] (wd_X4_has cy ) (wd_X4_has cy ) o := by
  refine ct_Z (cc := cX4_has) (maxL := 1) (plainFor_of_name (by decide)) rfl (Nat.le_of_ble_eq_true rfl) ?_
  intro p e s m below meth c A args QQ hx hb hml hown hts hE hDD hP KR ls hl
  have hl : lv_has ls 1 [(0, .int (zI x0))] := hl
  have hDD : DD A [] := hDD
  have hS : va_S A s.heap s.heap [] := va_S.rf
  have q0 := hts (.initialized RX9) (List.mem_of_getElem? (i := 2) rfl)
  have q1 := hts (.static yX9_within) (List.mem_of_getElem? (i := 1) rfl)
  refine lv_iload_n hx hb dX4_has_0 rfl (lv_at hl 0 rfl) ?_
  refine wi_ic hx hb dX4_has_1 ?_
  refine wi_ic hx hb dX4_has_2 ?_
  obtain ⟨o1, hc2, h⟩ := bnd_some h
  refine cN_i (rest := []) (w2 := (wd_X4_has cy )) ⟨hx, hb, hml, hown, hts⟩ (c_X9_within l D cy sa x0 0 3 o1 hc2) ⟨va_cnB 3 hts gX4_has_X9_within_n21 rfl rfl rfl (hE.2.1.1 ("HatHours$Sheets", 21, ⟨"HatHours", "within", "(III)Z"⟩, "HatHours") (List.mem_of_getElem? (i := 18) rfl)) q0 (by decide +kernel) ⟨Nat.le_of_ble_eq_true rfl, Nat.le_of_ble_eq_true rfl⟩, q1, trivial⟩ hE hP hDD rfl hS [] rfl rfl rfl rfl hl.1 (Nat.le_of_ble_eq_true rfl) ⟨Nat.zero_le _, Nat.zero_le _⟩ rfl dX4_has_3 rfl (fun H locs hP hS => ?_)
  obtain ⟨hk3, h⟩ := chk_some h
  obtain rfl := Option.some.inj h
  exact KR _ _ _ _ (z01 hk3) hP hS dX4_has_6
abbrev wd_X4_isLane (cy : Nat → ClassId) : va_W := []
set_option maxHeartbeats 4000000 in
set_option maxRecDepth 100000 in
theorem c_X4_isLane (l : Launch) (D : va_G) (cy : Nat → ClassId) (sa : Nat → Nat) (x0 : Int) (o : Int) (h : f_Sheets_isLane x0 = some o) : CtI l yX4_isLane wsX4_isLane ({ frames := 1, cells := 0, slots := 0, locals := 22 }) D cy sa [.int (zI x0)] (wd_X4_isLane cy ) (wd_X4_isLane cy ) o := by
  refine ct_Z (cc := cX4_isLane) (maxL := 1) (plainFor_of_name (by decide)) rfl (Nat.le_of_ble_eq_true rfl) ?_
  intro p e s m below meth c A args QQ hx hb hml hown hts hE hDD hP KR ls hl
  have hl : lv_has ls 1 [(0, .int (zI x0))] := hl
  have hDD : DD A [] := hDD
  have hS : va_S A s.heap s.heap [] := va_S.rf
  have q0 := hts (.initialized RX9) (List.mem_of_getElem? (i := 2) rfl)
  have q1 := hts (.static yX9_within) (List.mem_of_getElem? (i := 1) rfl)
  refine lv_iload_n hx hb dX4_isLane_0 rfl (lv_at hl 0 rfl) ?_
  refine wi_ic hx hb dX4_isLane_1 ?_
  refine wi_ic hx hb dX4_isLane_2 ?_
  obtain ⟨o1, hc2, h⟩ := bnd_some h
  refine cN_i (rest := []) (w2 := (wd_X4_isLane cy )) ⟨hx, hb, hml, hown, hts⟩ (c_X9_within l D cy sa x0 0 2 o1 hc2) ⟨va_cnB 3 hts gX4_isLane_X9_within_n21 rfl rfl rfl (hE.2.1.1 ("HatHours$Sheets", 21, ⟨"HatHours", "within", "(III)Z"⟩, "HatHours") (List.mem_of_getElem? (i := 18) rfl)) q0 (by decide +kernel) ⟨Nat.le_of_ble_eq_true rfl, Nat.le_of_ble_eq_true rfl⟩, q1, trivial⟩ hE hP hDD rfl hS [] rfl rfl rfl rfl hl.1 (Nat.le_of_ble_eq_true rfl) ⟨Nat.zero_le _, Nat.zero_le _⟩ rfl dX4_isLane_3 rfl (fun H locs hP hS => ?_)
  obtain ⟨hk3, h⟩ := chk_some h
  obtain rfl := Option.some.inj h
  exact KR _ _ _ _ (z01 hk3) hP hS dX4_isLane_6
abbrev wd_X4_renew (cy : Nat → ClassId) (a_v : Nat) (a_v_cells : Nat) (a_v_lanes : Nat) (a_v_sizes : Nat) (v_cells : Nat → Int) (v_lanes : Nat → Int) (v_sizes : Nat → Int) : va_W := [(a_v, .inr (4, [.ref a_v_cells, .ref a_v_lanes, .ref a_v_sizes])), (a_v_cells, .inl (cy 0, 160, .inl (fun j => zI (v_cells j)))), (a_v_lanes, .inl (cy 0, 4, .inl (fun j => zI (v_lanes j)))), (a_v_sizes, .inl (cy 0, 4, .inl (fun j => zI (v_sizes j))))]
set_option maxHeartbeats 4000000 in
set_option maxRecDepth 100000 in
theorem c_X4_renew (l : Launch) (D : va_G) (cy : Nat → ClassId) (sa : Nat → Nat) (a_v : Nat) (a_v_cells : Nat) (a_v_lanes : Nat) (a_v_sizes : Nat) (v_cells : Nat → Int) (v_lanes : Nat → Int) (v_sizes : Nat → Int) (x1 : Int) (x2 : Int) (x3 : Int) (o : (Nat → Int) × (Nat → Int) × (Nat → Int)) (h : f_Sheets_renew v_cells v_lanes v_sizes x1 x2 x3 = some o) : CtV l yX4_renew wsX4_renew ({ frames := 2, cells := 0, slots := 0, locals := 42 }) D cy sa [.ref a_v, .int (zI x1), .int (zI x2), .int (zI x3)] (wd_X4_renew cy a_v a_v_cells a_v_lanes a_v_sizes v_cells v_lanes v_sizes) (wd_X4_renew cy a_v a_v_cells a_v_lanes a_v_sizes o.1 o.2.1 o.2.2)  := by
  refine ct_V (cc := cX4_renew) (maxL := 5) (plainFor_of_name (by decide)) rfl (Nat.le_of_ble_eq_true rfl) ?_
  intro p e s m below meth c A args QQ hx hb hml hown hts hE hDD hP KR ls hl
  have hl : lv_has ls 5 [(0, .ref a_v), (1, .int (zI x1)), (2, .int (zI x2)), (3, .int (zI x3))] := hl
  have hDD : DD A [a_v, a_v_cells, a_v_lanes, a_v_sizes] := hDD
  have hS : va_S A s.heap s.heap [] := va_S.rf
  have q0 := hts (.initialized RX9) (List.mem_of_getElem? (i := 9) rfl)
  have q1 := hts (.static yX9_within) (List.mem_of_getElem? (i := 8) rfl)
  have q2 := hts (.fieldLink RX4 11 "HatHours$Sheets" "cells" "[I") (List.mem_of_getElem? (i := 1) rfl)
  have q3 := hts (.fieldLink RX4 15 "HatHours$Sheets" "lanes" "[I") (List.mem_of_getElem? (i := 2) rfl)
  have q4 := hts (.fieldLink RX4 18 "HatHours$Sheets" "sizes" "[I") (List.mem_of_getElem? (i := 3) rfl)
  have iX4 : ∀ w ∈ u_ws RX4 TX4 3, w ∈ wsX4_renew := in_slice 11 3 rfl
  have L20 : ∀ (fuel : Nat) (v_cells : Nat → Int) (v_lanes : Nat → Int) (v_sizes : Nat → Int) (x1 : Int) (x2 : Int) (x3 : Int) (x4 : Int) (H : Heap) (locs : List Loc) (ls : Array Slot) (ex : (Nat → Int)), va_P D vwCl (wd_X4_renew cy a_v a_v_cells a_v_lanes a_v_sizes v_cells v_lanes v_sizes) H → va_S A s.heap H locs → lv_has ls 5 [(0, .ref a_v), (1, .int (zI x1)), (2, .int (zI x2)), (3, .int (zI x3)), (4, .int (zI x4))] → f_Sheets_renew_L20 fuel v_cells x1 x3 x4 = some ex → (∀ (H : Heap) (locs : List Loc) (ls : Array Slot), va_P D vwCl (wd_X4_renew cy a_v a_v_cells a_v_lanes a_v_sizes ex v_lanes v_sizes) H → va_S A s.heap H locs → lv_has ls 5 [(0, .ref a_v), (1, .int (zI x1)), (2, .int (zI x2)), (3, .int (zI x3))] → W p l e { frames := 2, cells := 0, slots := 0, locals := 42 } s m args below meth c H locs 0 0 QQ (F0 m 45 ls [])) → W p l e { frames := 2, cells := 0, slots := 0, locals := 42 } s m args below meth c H locs 0 0 QQ (F0 m 20 ls []) := by
    intro fuel
    induction fuel with
    | zero => intro _ _ _ _ _ _ _ H locs ls ex hP hS hl h K; cases h
    | succ fuel ih =>
      intro v_cells v_lanes v_sizes x1 x2 x3 x4 H locs ls ex hP hS hl h K
      refine lv_iload hx hb dX4_renew_20 (lv_at hl 4 rfl) ?_
      refine lv_iload_n hx hb dX4_renew_22 rfl (lv_at hl 3 rfl) ?_
      obtain ⟨hr11, h⟩ := chk_some h
      obtain ⟨hr12, h⟩ := chk_some h
      refine wi_ic_ge (tgt := 45) hx hb dX4_renew_23 (by decide) hr11 hr12 (fun c14 => ?_) (fun c14 => ?_)
      · have h := ite_t c14 h
        obtain rfl := Option.some.inj h
        exact K _ _ _ hP hS (lv_sub hl [0, 1, 2, 3] rfl)
      · have h := ite_f c14 h
        refine lv_aload_n hx hb dX4_renew_26 rfl (lv_at hl 0 rfl) ?_
        refine wi_get (v := .ref a_v_cells) hx hb hts iX4 hown hE hP 0 rfl rfl 0 (by decide) q2 rfl dX4_renew_27 ?_
        refine lv_iload_n hx hb dX4_renew_30 rfl (lv_at hl 1 rfl) ?_
        refine wi_bi hx hb dX4_renew_31 (by decide) ?_
        refine wi_imul hx hb dX4_renew_33 ?_
        refine lv_iload hx hb dX4_renew_34 (lv_at hl 4 rfl) ?_
        refine wi_iadd hx hb dX4_renew_36 ?_
        refine wi_ic hx hb dX4_renew_37 ?_
        obtain ⟨hk15, h⟩ := chk_some h
        refine wi_iast (w2 := (wd_X4_renew cy a_v a_v_cells a_v_lanes a_v_sizes (upZ v_cells ((x1 * 40) + x4).toNat 0) v_lanes v_sizes)) hx hb hE hP hDD rfl hS 1 rfl (by decide) hk15 dX4_renew_38 rfl (fun H locs hP hS => ?_)
        refine wi_iinc (k := 4) (lv' := [(4, .int (zI (x4 + 1))), (0, .ref a_v), (1, .int (zI x1)), (2, .int (zI x2)), (3, .int (zI x3))]) hx hb dX4_renew_39 hl rfl (by decide) rfl (fun ls hl => ?_)
        refine lv_goto (tgt := 20) hx hb dX4_renew_42 (by decide) ?_
        exact ih (upZ v_cells ((x1 * 40) + x4).toNat 0) v_lanes v_sizes x1 x2 x3 (x4 + 1) _ _ _ _ hP hS (lv_sub hl [1, 2, 3, 4, 0] rfl) h K
  refine lv_iload_n hx hb dX4_renew_0 rfl (lv_at hl 1 rfl) ?_
  obtain ⟨o1, hc2, h⟩ := bnd_some h
  refine cS_i (rest := []) (w2 := (wd_X4_renew cy a_v a_v_cells a_v_lanes a_v_sizes v_cells v_lanes v_sizes)) ⟨hx, hb, hml, hown, hts⟩ (c_X4_has l D cy sa x1 o1 hc2) (va_cwS 1 hts gX4_renew_X4_has rfl rfl rfl (by decide +kernel) ⟨Nat.le_of_ble_eq_true rfl, Nat.le_of_ble_eq_true rfl⟩) hE hP hDD rfl hS [] rfl rfl rfl rfl hl.1 (Nat.le_of_ble_eq_true rfl) ⟨Nat.zero_le _, Nat.zero_le _⟩ rfl dX4_renew_1 rfl (fun H locs hP hS => ?_)
  obtain ⟨hr3, h⟩ := chk_some h
  refine wi_if_eq (tgt := 59) hx hb dX4_renew_4 (by decide) hr3 (fun c5 => ?_) (fun c5 => ?_)
  · have h := ite_t c5 h
    obtain rfl := Option.some.inj h
    exact KR _ _ _ _ hP hS dX4_renew_59
  · have h := ite_f c5 h
    refine lv_iload_n hx hb dX4_renew_7 rfl (lv_at hl 3 rfl) ?_
    refine wi_ic hx hb dX4_renew_8 ?_
    refine wi_bi hx hb dX4_renew_9 (by decide) ?_
    obtain ⟨o6, hc7, h⟩ := bnd_some h
    refine cN_i (rest := []) (w2 := (wd_X4_renew cy a_v a_v_cells a_v_lanes a_v_sizes v_cells v_lanes v_sizes)) ⟨hx, hb, hml, hown, hts⟩ (c_X9_within l D cy sa x3 0 40 o6 hc7) ⟨va_cnB 3 hts gX4_renew_X9_within_n21 rfl rfl rfl (hE.2.1.1 ("HatHours$Sheets", 21, ⟨"HatHours", "within", "(III)Z"⟩, "HatHours") (List.mem_of_getElem? (i := 18) rfl)) q0 (by decide +kernel) ⟨Nat.le_of_ble_eq_true rfl, Nat.le_of_ble_eq_true rfl⟩, q1, trivial⟩ hE hP hDD rfl hS [] rfl rfl rfl rfl hl.1 (Nat.le_of_ble_eq_true rfl) ⟨Nat.zero_le _, Nat.zero_le _⟩ rfl dX4_renew_11 rfl (fun H locs hP hS => ?_)
    obtain ⟨hr8, h⟩ := chk_some h
    refine wi_if_eq (tgt := 59) hx hb dX4_renew_14 (by decide) hr8 (fun c10 => ?_) (fun c10 => ?_)
    · have h := ite_t c10 h
      obtain rfl := Option.some.inj h
      exact KR _ _ _ _ hP hS dX4_renew_59
    · have h := ite_f c10 h
      refine wi_ic hx hb dX4_renew_17 ?_
      refine lv_istore (lv' := [(4, .int (zI 0)), (0, .ref a_v), (1, .int (zI x1)), (2, .int (zI x2)), (3, .int (zI x3))]) hx hb dX4_renew_18 hl (by decide) rfl (fun ls hl => ?_)
      obtain ⟨o16, hx17, h⟩ := bnd_some h
      refine L20 5000 v_cells v_lanes v_sizes x1 x2 x3 0 _ _ _ _ hP hS (lv_sub hl [1, 2, 3, 4, 0] rfl) hx17 ?_
      clear hx17
      intro H locs ls hP hS hl
      refine lv_aload_n hx hb dX4_renew_45 rfl (lv_at hl 0 rfl) ?_
      refine wi_get (v := .ref a_v_lanes) hx hb hts iX4 hown hE hP 0 rfl rfl 1 (by decide) q3 rfl dX4_renew_46 ?_
      refine lv_iload_n hx hb dX4_renew_49 rfl (lv_at hl 1 rfl) ?_
      refine lv_iload_n hx hb dX4_renew_50 rfl (lv_at hl 2 rfl) ?_
      obtain ⟨hk18, h⟩ := chk_some h
      refine wi_iast (w2 := (wd_X4_renew cy a_v a_v_cells a_v_lanes a_v_sizes o16 (upZ v_lanes (x1).toNat x2) v_sizes)) hx hb hE hP hDD rfl hS 2 rfl (by decide) hk18 dX4_renew_51 rfl (fun H locs hP hS => ?_)
      refine lv_aload_n hx hb dX4_renew_52 rfl (lv_at hl 0 rfl) ?_
      refine wi_get (v := .ref a_v_sizes) hx hb hts iX4 hown hE hP 0 rfl rfl 2 (by decide) q4 rfl dX4_renew_53 ?_
      refine lv_iload_n hx hb dX4_renew_56 rfl (lv_at hl 1 rfl) ?_
      refine lv_iload_n hx hb dX4_renew_57 rfl (lv_at hl 3 rfl) ?_
      refine wi_iast (w2 := (wd_X4_renew cy a_v a_v_cells a_v_lanes a_v_sizes o16 (upZ v_lanes (x1).toNat x2) (upZ v_sizes (x1).toNat x3))) hx hb hE hP hDD rfl hS 3 rfl (by decide) hk18 dX4_renew_58 rfl (fun H locs hP hS => ?_)
      obtain rfl := Option.some.inj h
      exact KR _ _ _ _ hP hS dX4_renew_59
abbrev wd_X4_laneOf (cy : Nat → ClassId) (a_v : Nat) (a_v_lanes : Nat) (a_v_cells : Nat) (a_v_sizes : Nat) (v_lanes : Nat → Int) : va_W := [(a_v, .inr (4, [.ref a_v_cells, .ref a_v_lanes, .ref a_v_sizes])), (a_v_lanes, .inl (cy 0, 4, .inl (fun j => zI (v_lanes j))))]
set_option maxHeartbeats 4000000 in
set_option maxRecDepth 100000 in
theorem c_X4_laneOf (l : Launch) (D : va_G) (cy : Nat → ClassId) (sa : Nat → Nat) (a_v : Nat) (a_v_lanes : Nat) (a_v_cells : Nat) (a_v_sizes : Nat) (v_lanes : Nat → Int) (x1 : Int) (o : Int) (h : f_Sheets_laneOf v_lanes x1 = some o) : CtI l yX4_laneOf wsX4_laneOf ({ frames := 2, cells := 0, slots := 0, locals := 42 }) D cy sa [.ref a_v, .int (zI x1)] (wd_X4_laneOf cy a_v a_v_lanes a_v_cells a_v_sizes v_lanes) (wd_X4_laneOf cy a_v a_v_lanes a_v_cells a_v_sizes v_lanes) o := by
  refine ct_I (cc := cX4_laneOf) (maxL := 2) (plainFor_of_name (by decide)) rfl (Nat.le_of_ble_eq_true rfl) ?_
  intro p e s m below meth c A args QQ hx hb hml hown hts hE hDD hP KR ls hl
  have hl : lv_has ls 2 [(0, .ref a_v), (1, .int (zI x1))] := hl
  have hDD : DD A [a_v, a_v_lanes] := hDD
  have hS : va_S A s.heap s.heap [] := va_S.rf
  have q0 := hts (.fieldLink RX4 15 "HatHours$Sheets" "lanes" "[I") (List.mem_of_getElem? (i := 1) rfl)
  have iX4 : ∀ w ∈ u_ws RX4 TX4 3, w ∈ wsX4_laneOf := in_slice 9 3 rfl
  refine lv_iload_n hx hb dX4_laneOf_0 rfl (lv_at hl 1 rfl) ?_
  obtain ⟨o1, hc2, h⟩ := bnd_some h
  refine cS_i (rest := []) (w2 := (wd_X4_laneOf cy a_v a_v_lanes a_v_cells a_v_sizes v_lanes)) ⟨hx, hb, hml, hown, hts⟩ (c_X4_has l D cy sa x1 o1 hc2) (va_cwS 1 hts gX4_laneOf_X4_has rfl rfl rfl (by decide +kernel) ⟨Nat.le_of_ble_eq_true rfl, Nat.le_of_ble_eq_true rfl⟩) hE hP hDD rfl hS [] rfl rfl rfl rfl hl.1 (Nat.le_of_ble_eq_true rfl) ⟨Nat.zero_le _, Nat.zero_le _⟩ rfl dX4_laneOf_1 rfl (fun H locs hP hS => ?_)
  obtain ⟨hr3, h⟩ := chk_some h
  refine wi_if_eq (tgt := 16) hx hb dX4_laneOf_4 (by decide) hr3 (fun c5 => ?_) (fun c5 => ?_)
  · have h := ite_t c5 h
    refine wi_ic hx hb dX4_laneOf_16 ?_
    obtain rfl := Option.some.inj h
    exact KR _ _ _ _ hP hS dX4_laneOf_17
  · have h := ite_f c5 h
    refine lv_aload_n hx hb dX4_laneOf_7 rfl (lv_at hl 0 rfl) ?_
    refine wi_get (v := .ref a_v_lanes) hx hb hts iX4 hown hE hP 0 rfl rfl 1 (by decide) q0 rfl dX4_laneOf_8 ?_
    refine lv_iload_n hx hb dX4_laneOf_11 rfl (lv_at hl 1 rfl) ?_
    obtain ⟨hk6, h⟩ := chk_some h
    refine wi_iald hx hb hE hP 1 rfl (by decide) hk6 dX4_laneOf_12 ?_
    refine lv_goto (tgt := 17) hx hb dX4_laneOf_13 (by decide) ?_
    obtain rfl := Option.some.inj h
    exact KR _ _ _ _ hP hS dX4_laneOf_17
