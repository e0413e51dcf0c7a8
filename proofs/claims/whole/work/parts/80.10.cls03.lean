abbrev wd_X3_bestExchange (cy : Nat → ClassId) (a_v : Nat) (a_v_draft : Nat) (a_v_draft_facts : Nat) (a_v_draft_places : Nat) (a_v_least : Nat) (a_u1 : Nat) (a_u1_facts : Nat) (a_u1_places : Nat) (a_v_bestPlaces : Nat) (a_v_startsLeft : Nat) (v_draft_boxes : Int) (v_draft_startsAt : Int) (v_draft_facts : Nat → Int) (v_draft_places : Nat → Int) (v_least_at : Int) (v_least_value : Int) (u1_boxes : Int) (u1_startsAt : Int) (u1_facts : Nat → Int) (u1_places : Nat → Int) : va_W := [(a_v, .inr (3, [.ref a_v_draft, .ref a_v_least, .ref a_v_bestPlaces, .ref a_v_startsLeft])), (a_v_draft, .inr (5, [.ref a_v_draft_facts, .ref a_v_draft_places, .int (zI v_draft_boxes), .int (zI v_draft_startsAt)])), (a_v_draft_facts, .inl (cy 0, 30, .inl (fun j => zI (v_draft_facts j)))), (a_v_draft_places, .inl (cy 0, 5, .inl (fun j => zI (v_draft_places j)))), (a_v_least, .inr (1, [.int (zI v_least_at), .int (zI v_least_value)])), (a_u1, .inr (5, [.ref a_u1_facts, .ref a_u1_places, .int (zI u1_boxes), .int (zI u1_startsAt)])), (a_u1_facts, .inl (cy 0, 30, .inl (fun j => zI (u1_facts j)))), (a_u1_places, .inl (cy 0, 5, .inl (fun j => zI (u1_places j))))]
set_option maxHeartbeats 4000000 in
set_option maxRecDepth 100000 in
theorem c_X3_bestExchange (l : Launch) (D : va_G) (cy : Nat → ClassId) (sa : Nat → Nat) (a_v : Nat) (a_v_draft : Nat) (a_v_draft_facts : Nat) (a_v_draft_places : Nat) (a_v_least : Nat) (a_u1 : Nat) (a_u1_facts : Nat) (a_u1_places : Nat) (a_v_bestPlaces : Nat) (a_v_startsLeft : Nat) (v_draft_boxes : Int) (v_draft_startsAt : Int) (v_draft_facts : Nat → Int) (v_draft_places : Nat → Int) (v_least_at : Int) (v_least_value : Int) (u1_boxes : Int) (u1_startsAt : Int) (u1_facts : Nat → Int) (u1_places : Nat → Int) (o : Int × Int × (Nat → Int) × (Nat → Int) × Int × Int) (h : f_Search_bestExchange v_draft_boxes v_draft_startsAt v_draft_facts v_draft_places v_least_at v_least_value u1_boxes u1_startsAt u1_facts u1_places = some o) : CtV l yX3_bestExchange wsX3_bestExchange ({ frames := 3, cells := 0, slots := 0, locals := 81 }) D cy sa [.ref a_v, .ref a_u1] (wd_X3_bestExchange cy a_v a_v_draft a_v_draft_facts a_v_draft_places a_v_least a_u1 a_u1_facts a_u1_places a_v_bestPlaces a_v_startsLeft v_draft_boxes v_draft_startsAt v_draft_facts v_draft_places v_least_at v_least_value u1_boxes u1_startsAt u1_facts u1_places) (wd_X3_bestExchange cy a_v a_v_draft a_v_draft_facts a_v_draft_places a_v_least a_u1 a_u1_facts a_u1_places a_v_bestPlaces a_v_startsLeft o.1 o.2.1 o.2.2.1 o.2.2.2.1 o.2.2.2.2.1 o.2.2.2.2.2 u1_boxes u1_startsAt u1_facts u1_places)  := by
  refine ct_V (cc := cX3_bestExchange) (maxL := 4) (plainFor_of_name (by decide)) rfl (Nat.le_of_ble_eq_true rfl) ?_
  intro p e s m below meth c A args QQ hx hb hml hown hts hE hDD hP KR ls hl
  have hl : lv_has ls 4 [(0, .ref a_v), (1, .ref a_u1)] := hl
  have hDD : DD A [a_v, a_v_draft, a_v_draft_facts, a_v_draft_places, a_v_least, a_u1, a_u1_facts, a_u1_places] := hDD
  have hS : va_S A s.heap s.heap [] := va_S.rf
  have q0 := hts (.fieldLink RX3 12 "HatHours$Search" "draft" "LHatHours$Shop;") (List.mem_of_getElem? (i := 1) rfl)
  have q1 := hts (.fieldLink RX3 21 "HatHours$Search" "least" "LHatHours$Least;") (List.mem_of_getElem? (i := 2) rfl)
  have iX3 : ∀ w ∈ u_ws RX3 TX3 4, w ∈ wsX3_bestExchange := in_slice 59 4 rfl
  have L36 : ∀ (fuel : Nat) (v_draft_boxes : Int) (v_draft_startsAt : Int) (v_draft_facts : Nat → Int) (v_draft_places : Nat → Int) (v_least_at : Int) (v_least_value : Int) (x2 : Int) (x3 : Int) (H : Heap) (locs : List Loc) (ls : Array Slot) (ex : (Nat → Int) × Int × Int), va_P D vwCl (wd_X3_bestExchange cy a_v a_v_draft a_v_draft_facts a_v_draft_places a_v_least a_u1 a_u1_facts a_u1_places a_v_bestPlaces a_v_startsLeft v_draft_boxes v_draft_startsAt v_draft_facts v_draft_places v_least_at v_least_value u1_boxes u1_startsAt u1_facts u1_places) H → va_S A s.heap H locs → lv_has ls 4 [(0, .ref a_v), (2, .int (zI x2)), (3, .int (zI x3))] → f_Search_bestExchange_L36 fuel v_draft_boxes v_draft_startsAt v_draft_facts v_draft_places v_least_at v_least_value x2 x3 = some ex → (∀ (H : Heap) (locs : List Loc) (ls : Array Slot), va_P D vwCl (wd_X3_bestExchange cy a_v a_v_draft a_v_draft_facts a_v_draft_places a_v_least a_u1 a_u1_facts a_u1_places a_v_bestPlaces a_v_startsLeft v_draft_boxes v_draft_startsAt v_draft_facts ex.1 ex.2.1 ex.2.2 u1_boxes u1_startsAt u1_facts u1_places) H → va_S A s.heap H locs → lv_has ls 4 [(0, .ref a_v), (2, .int (zI x2))] → W p l e { frames := 3, cells := 0, slots := 0, locals := 81 } s m args below meth c H locs 0 0 QQ (F0 m 92 ls [])) → W p l e { frames := 3, cells := 0, slots := 0, locals := 81 } s m args below meth c H locs 0 0 QQ (F0 m 36 ls []) := by
    intro fuel
    induction fuel with
    | zero => intro _ _ _ _ _ _ _ _ H locs ls ex hP hS hl h K; cases h
    | succ fuel ih =>
      intro v_draft_boxes v_draft_startsAt v_draft_facts v_draft_places v_least_at v_least_value x2 x3 H locs ls ex hP hS hl h K
      refine lv_iload_n hx hb dX3_bestExchange_36 rfl (lv_at hl 2 rfl) ?_
      refine lv_aload_n hx hb dX3_bestExchange_37 rfl (lv_at hl 0 rfl) ?_
      refine wi_get (v := .ref a_v_draft) hx hb hts iX3 hown hE hP 0 rfl rfl 0 (by decide) q0 rfl dX3_bestExchange_38 ?_
      obtain ⟨o13, hc14, h⟩ := bnd_some h
      refine cV_i (rest := [.int (zI x3)]) (w2 := (wd_X3_bestExchange cy a_v a_v_draft a_v_draft_facts a_v_draft_places a_v_least a_u1 a_u1_facts a_u1_places a_v_bestPlaces a_v_startsLeft v_draft_boxes v_draft_startsAt v_draft_facts v_draft_places v_least_at v_least_value u1_boxes u1_startsAt u1_facts u1_places)) ⟨hx, hb, hml, hown, hts⟩ (c_X5_size l D cy sa a_v_draft a_v_draft_facts a_v_draft_places v_draft_boxes v_draft_startsAt o13 hc14) (cwV 0 hts gX3_bestExchange_X5_size rfl rfl rfl (by decide +kernel) ⟨Nat.le_of_ble_eq_true rfl, Nat.le_of_ble_eq_true rfl⟩) rfl rfl rfl hE hP hDD rfl hS [1] rfl rfl rfl rfl hl.1 (Nat.le_of_ble_eq_true rfl) ⟨Nat.zero_le _, Nat.zero_le _⟩ rfl dX3_bestExchange_41 rfl (fun H locs hP hS => ?_)
      obtain ⟨hr15, h⟩ := chk_some h
      obtain ⟨hr16, h⟩ := chk_some h
      refine wi_ic_ge (tgt := 92) hx hb dX3_bestExchange_44 (by decide) hr15 hr16 (fun c18 => ?_) (fun c18 => ?_)
      · have h := ite_t c18 h
        obtain rfl := Option.some.inj h
        exact K _ _ _ hP hS (lv_sub hl [0, 1] rfl)
      · have h := ite_f c18 h
        refine lv_aload_n hx hb dX3_bestExchange_47 rfl (lv_at hl 0 rfl) ?_
        refine wi_get (v := .ref a_v_draft) hx hb hts iX3 hown hE hP 0 rfl rfl 0 (by decide) q0 rfl dX3_bestExchange_48 ?_
        refine lv_iload_n hx hb dX3_bestExchange_51 rfl (lv_at hl 1 rfl) ?_
        refine lv_iload_n hx hb dX3_bestExchange_52 rfl (lv_at hl 2 rfl) ?_
        obtain ⟨o19, hc20, h⟩ := bnd_some h
        refine cV_v (rest := []) (w2 := (wd_X3_bestExchange cy a_v a_v_draft a_v_draft_facts a_v_draft_places a_v_least a_u1 a_u1_facts a_u1_places a_v_bestPlaces a_v_startsLeft v_draft_boxes v_draft_startsAt v_draft_facts o19 v_least_at v_least_value u1_boxes u1_startsAt u1_facts u1_places)) ⟨hx, hb, hml, hown, hts⟩ (c_X5_exchange l D cy sa a_v_draft a_v_draft_places a_v_draft_facts v_draft_boxes v_draft_startsAt v_draft_places x2 x3 o19 hc20) (cwV 2 hts gX3_bestExchange_X5_exchange rfl rfl rfl (by decide +kernel) ⟨Nat.le_of_ble_eq_true rfl, Nat.le_of_ble_eq_true rfl⟩) rfl rfl rfl hE hP hDD rfl hS [1, 3] rfl rfl rfl rfl hl.1 (Nat.le_of_ble_eq_true rfl) ⟨Nat.zero_le _, Nat.zero_le _⟩ rfl dX3_bestExchange_53 rfl (fun H locs hP hS => ?_)
        refine lv_aload_n hx hb dX3_bestExchange_56 rfl (lv_at hl 0 rfl) ?_
        refine wi_get (v := .ref a_v_least) hx hb hts iX3 hown hE hP 0 rfl rfl 1 (by decide) q1 rfl dX3_bestExchange_57 ?_
        refine wi_bi hx hb dX3_bestExchange_60 (by decide) ?_
        refine lv_iload_n hx hb dX3_bestExchange_62 rfl (lv_at hl 1 rfl) ?_
        refine wi_imul hx hb dX3_bestExchange_63 ?_
        refine lv_iload_n hx hb dX3_bestExchange_64 rfl (lv_at hl 2 rfl) ?_
        refine wi_iadd hx hb dX3_bestExchange_65 ?_
        refine lv_aload_n hx hb dX3_bestExchange_66 rfl (lv_at hl 0 rfl) ?_
        refine wi_get (v := .ref a_v_draft) hx hb hts iX3 hown hE hP 0 rfl rfl 0 (by decide) q0 rfl dX3_bestExchange_67 ?_
        obtain ⟨o21, hc22, h⟩ := bnd_some h
        refine cV_i (rest := [.int (zI ((10 * x2) + x3)), .ref a_v_least]) (w2 := (wd_X3_bestExchange cy a_v a_v_draft a_v_draft_facts a_v_draft_places a_v_least a_u1 a_u1_facts a_u1_places a_v_bestPlaces a_v_startsLeft v_draft_boxes v_draft_startsAt v_draft_facts o19 v_least_at v_least_value u1_boxes u1_startsAt u1_facts u1_places)) ⟨hx, hb, hml, hown, hts⟩ (c_X5_wrongOfAll l D cy sa a_v_draft a_v_draft_facts a_v_draft_places v_draft_boxes v_draft_startsAt v_draft_facts o19 o21 hc22) (cwV 0 hts gX3_bestExchange_X5_wrongOfAll rfl rfl rfl (by decide +kernel) ⟨Nat.le_of_ble_eq_true rfl, Nat.le_of_ble_eq_true rfl⟩) rfl rfl rfl hE hP hDD rfl hS [1, 2, 3] rfl rfl rfl rfl hl.1 (Nat.le_of_ble_eq_true rfl) ⟨Nat.zero_le _, Nat.zero_le _⟩ rfl dX3_bestExchange_70 rfl (fun H locs hP hS => ?_)
        obtain ⟨o23, hc24, h⟩ := bnd_some h
        refine cV_i (rest := []) (w2 := (wd_X3_bestExchange cy a_v a_v_draft a_v_draft_facts a_v_draft_places a_v_least a_u1 a_u1_facts a_u1_places a_v_bestPlaces a_v_startsLeft v_draft_boxes v_draft_startsAt v_draft_facts o19 o23.2.1 o23.2.2 u1_boxes u1_startsAt u1_facts u1_places)) ⟨hx, hb, hml, hown, hts⟩ (c_X1_offer l D cy sa a_v_least v_least_at v_least_value ((10 * x2) + x3) o21 o23 hc24) (cwV 2 hts gX3_bestExchange_X1_offer rfl rfl rfl (by decide +kernel) ⟨Nat.le_of_ble_eq_true rfl, Nat.le_of_ble_eq_true rfl⟩) rfl rfl rfl hE hP hDD rfl hS [4] rfl rfl rfl rfl hl.1 (Nat.le_of_ble_eq_true rfl) ⟨Nat.zero_le _, Nat.zero_le _⟩ rfl dX3_bestExchange_73 rfl (fun H locs hP hS => ?_)
        refine lv_pop hx hb dX3_bestExchange_76 rfl ?_
        refine lv_aload_n hx hb dX3_bestExchange_77 rfl (lv_at hl 0 rfl) ?_
        refine wi_get (v := .ref a_v_draft) hx hb hts iX3 hown hE hP 0 rfl rfl 0 (by decide) q0 rfl dX3_bestExchange_78 ?_
        refine lv_iload_n hx hb dX3_bestExchange_81 rfl (lv_at hl 1 rfl) ?_
        refine lv_iload_n hx hb dX3_bestExchange_82 rfl (lv_at hl 2 rfl) ?_
        obtain ⟨o25, hc26, h⟩ := bnd_some h
        refine cV_v (rest := []) (w2 := (wd_X3_bestExchange cy a_v a_v_draft a_v_draft_facts a_v_draft_places a_v_least a_u1 a_u1_facts a_u1_places a_v_bestPlaces a_v_startsLeft v_draft_boxes v_draft_startsAt v_draft_facts o25 o23.2.1 o23.2.2 u1_boxes u1_startsAt u1_facts u1_places)) ⟨hx, hb, hml, hown, hts⟩ (c_X5_exchange l D cy sa a_v_draft a_v_draft_places a_v_draft_facts v_draft_boxes v_draft_startsAt o19 x2 x3 o25 hc26) (cwV 2 hts gX3_bestExchange_X5_exchange rfl rfl rfl (by decide +kernel) ⟨Nat.le_of_ble_eq_true rfl, Nat.le_of_ble_eq_true rfl⟩) rfl rfl rfl hE hP hDD rfl hS [1, 3] rfl rfl rfl rfl hl.1 (Nat.le_of_ble_eq_true rfl) ⟨Nat.zero_le _, Nat.zero_le _⟩ rfl dX3_bestExchange_83 rfl (fun H locs hP hS => ?_)
        refine wi_iinc (k := 2) (lv' := [(3, .int (zI (x3 + 1))), (0, .ref a_v), (2, .int (zI x2))]) hx hb dX3_bestExchange_86 hl rfl (by decide) rfl (fun ls hl => ?_)
        refine lv_goto (tgt := 36) hx hb dX3_bestExchange_89 (by decide) ?_
        exact ih v_draft_boxes v_draft_startsAt v_draft_facts o25 o23.2.1 o23.2.2 x2 (x3 + 1) _ _ _ _ hP hS (lv_sub hl [1, 2, 0] rfl) h K
  have L21 : ∀ (fuel : Nat) (v_draft_boxes : Int) (v_draft_startsAt : Int) (v_draft_facts : Nat → Int) (v_draft_places : Nat → Int) (v_least_at : Int) (v_least_value : Int) (x2 : Int) (H : Heap) (locs : List Loc) (ls : Array Slot) (ex : (Nat → Int) × Int × Int), va_P D vwCl (wd_X3_bestExchange cy a_v a_v_draft a_v_draft_facts a_v_draft_places a_v_least a_u1 a_u1_facts a_u1_places a_v_bestPlaces a_v_startsLeft v_draft_boxes v_draft_startsAt v_draft_facts v_draft_places v_least_at v_least_value u1_boxes u1_startsAt u1_facts u1_places) H → va_S A s.heap H locs → lv_has ls 4 [(0, .ref a_v), (2, .int (zI x2))] → f_Search_bestExchange_L21 fuel v_draft_boxes v_draft_startsAt v_draft_facts v_draft_places v_least_at v_least_value x2 = some ex → (∀ (H : Heap) (locs : List Loc) (ls : Array Slot), va_P D vwCl (wd_X3_bestExchange cy a_v a_v_draft a_v_draft_facts a_v_draft_places a_v_least a_u1 a_u1_facts a_u1_places a_v_bestPlaces a_v_startsLeft v_draft_boxes v_draft_startsAt v_draft_facts ex.1 ex.2.1 ex.2.2 u1_boxes u1_startsAt u1_facts u1_places) H → va_S A s.heap H locs → lv_has ls 4 [] → W p l e { frames := 3, cells := 0, slots := 0, locals := 81 } s m args below meth c H locs 0 0 QQ (F0 m 98 ls [])) → W p l e { frames := 3, cells := 0, slots := 0, locals := 81 } s m args below meth c H locs 0 0 QQ (F0 m 21 ls []) := by
    intro fuel
    induction fuel with
    | zero => intro _ _ _ _ _ _ _ H locs ls ex hP hS hl h K; cases h
    | succ fuel ih =>
      intro v_draft_boxes v_draft_startsAt v_draft_facts v_draft_places v_least_at v_least_value x2 H locs ls ex hP hS hl h K
      refine lv_iload_n hx hb dX3_bestExchange_21 rfl (lv_at hl 1 rfl) ?_
      refine lv_aload_n hx hb dX3_bestExchange_22 rfl (lv_at hl 0 rfl) ?_
      refine wi_get (v := .ref a_v_draft) hx hb hts iX3 hown hE hP 0 rfl rfl 0 (by decide) q0 rfl dX3_bestExchange_23 ?_
      obtain ⟨o7, hc8, h⟩ := bnd_some h
      refine cV_i (rest := [.int (zI x2)]) (w2 := (wd_X3_bestExchange cy a_v a_v_draft a_v_draft_facts a_v_draft_places a_v_least a_u1 a_u1_facts a_u1_places a_v_bestPlaces a_v_startsLeft v_draft_boxes v_draft_startsAt v_draft_facts v_draft_places v_least_at v_least_value u1_boxes u1_startsAt u1_facts u1_places)) ⟨hx, hb, hml, hown, hts⟩ (c_X5_size l D cy sa a_v_draft a_v_draft_facts a_v_draft_places v_draft_boxes v_draft_startsAt o7 hc8) (cwV 0 hts gX3_bestExchange_X5_size rfl rfl rfl (by decide +kernel) ⟨Nat.le_of_ble_eq_true rfl, Nat.le_of_ble_eq_true rfl⟩) rfl rfl rfl hE hP hDD rfl hS [1] rfl rfl rfl rfl hl.1 (Nat.le_of_ble_eq_true rfl) ⟨Nat.zero_le _, Nat.zero_le _⟩ rfl dX3_bestExchange_26 rfl (fun H locs hP hS => ?_)
      obtain ⟨hr9, h⟩ := chk_some h
      obtain ⟨hr10, h⟩ := chk_some h
      refine wi_ic_ge (tgt := 98) hx hb dX3_bestExchange_29 (by decide) hr9 hr10 (fun c12 => ?_) (fun c12 => ?_)
      · have h := ite_t c12 h
        obtain rfl := Option.some.inj h
        exact K _ _ _ hP hS (lv_sub hl [] rfl)
      · have h := ite_f c12 h
        refine lv_iload_n hx hb dX3_bestExchange_32 rfl (lv_at hl 1 rfl) ?_
        refine wi_ic hx hb dX3_bestExchange_33 ?_
        refine wi_iadd hx hb dX3_bestExchange_34 ?_
        refine lv_istore_n (lv' := [(3, .int (zI (x2 + 1))), (0, .ref a_v), (2, .int (zI x2))]) hx hb dX3_bestExchange_35 rfl hl (by decide) rfl (fun ls hl => ?_)
        obtain ⟨o27, hx28, h⟩ := bnd_some h
        refine L36 5000 v_draft_boxes v_draft_startsAt v_draft_facts v_draft_places v_least_at v_least_value x2 (x2 + 1) _ _ _ _ hP hS (lv_sub hl [1, 2, 0] rfl) hx28 ?_
        clear hx28
        intro H locs ls hP hS hl
        refine wi_iinc (k := 1) (lv' := [(2, .int (zI (x2 + 1))), (0, .ref a_v)]) hx hb dX3_bestExchange_92 hl rfl (by decide) rfl (fun ls hl => ?_)
        refine lv_goto (tgt := 21) hx hb dX3_bestExchange_95 (by decide) ?_
        exact ih v_draft_boxes v_draft_startsAt v_draft_facts o27.1 o27.2.1 o27.2.2 (x2 + 1) _ _ _ _ hP hS (lv_sub hl [1, 0] rfl) h K
  refine lv_aload_n hx hb dX3_bestExchange_0 rfl (lv_at hl 0 rfl) ?_
  refine wi_get (v := .ref a_v_draft) hx hb hts iX3 hown hE hP 0 rfl rfl 0 (by decide) q0 rfl dX3_bestExchange_1 ?_
  refine lv_aload_n hx hb dX3_bestExchange_4 rfl (lv_at hl 1 rfl) ?_
  obtain ⟨o1, hc2, h⟩ := bnd_some h
  refine cV_v (rest := []) (w2 := (wd_X3_bestExchange cy a_v a_v_draft a_v_draft_facts a_v_draft_places a_v_least a_u1 a_u1_facts a_u1_places a_v_bestPlaces a_v_startsLeft o1.1 o1.2.1 o1.2.2.1 o1.2.2.2 v_least_at v_least_value u1_boxes u1_startsAt u1_facts u1_places)) ⟨hx, hb, hml, hown, hts⟩ (c_X5_copyFrom l D cy sa a_v_draft a_v_draft_facts a_v_draft_places a_u1 a_u1_facts a_u1_places v_draft_boxes v_draft_startsAt v_draft_facts v_draft_places u1_boxes u1_startsAt u1_facts u1_places o1 hc2) (cwV 1 hts gX3_bestExchange_X5_copyFrom rfl rfl rfl (by decide +kernel) ⟨Nat.le_of_ble_eq_true rfl, Nat.le_of_ble_eq_true rfl⟩) rfl rfl rfl hE hP hDD rfl hS [1, 2, 3, 5, 6, 7] rfl rfl rfl rfl hl.1 (Nat.le_of_ble_eq_true rfl) ⟨Nat.zero_le _, Nat.zero_le _⟩ rfl dX3_bestExchange_5 rfl (fun H locs hP hS => ?_)
  refine lv_aload_n hx hb dX3_bestExchange_8 rfl (lv_at hl 0 rfl) ?_
  refine wi_get (v := .ref a_v_least) hx hb hts iX3 hown hE hP 0 rfl rfl 1 (by decide) q1 rfl dX3_bestExchange_9 ?_
  refine lv_aload_n hx hb dX3_bestExchange_12 rfl (lv_at hl 1 rfl) ?_
  obtain ⟨o3, hc4, h⟩ := bnd_some h
  refine cV_i (rest := [.ref a_v_least]) (w2 := (wd_X3_bestExchange cy a_v a_v_draft a_v_draft_facts a_v_draft_places a_v_least a_u1 a_u1_facts a_u1_places a_v_bestPlaces a_v_startsLeft o1.1 o1.2.1 o1.2.2.1 o1.2.2.2 v_least_at v_least_value u1_boxes u1_startsAt u1_facts u1_places)) ⟨hx, hb, hml, hown, hts⟩ (c_X5_wrongOfAll l D cy sa a_u1 a_u1_facts a_u1_places u1_boxes u1_startsAt u1_facts u1_places o3 hc4) (cwV 0 hts gX3_bestExchange_X5_wrongOfAll rfl rfl rfl (by decide +kernel) ⟨Nat.le_of_ble_eq_true rfl, Nat.le_of_ble_eq_true rfl⟩) rfl rfl rfl hE hP hDD rfl hS [5, 6, 7] rfl rfl rfl rfl hl.1 (Nat.le_of_ble_eq_true rfl) ⟨Nat.zero_le _, Nat.zero_le _⟩ rfl dX3_bestExchange_13 rfl (fun H locs hP hS => ?_)
  obtain ⟨o5, hc6, h⟩ := bnd_some h
  refine cV_v (rest := []) (w2 := (wd_X3_bestExchange cy a_v a_v_draft a_v_draft_facts a_v_draft_places a_v_least a_u1 a_u1_facts a_u1_places a_v_bestPlaces a_v_startsLeft o1.1 o1.2.1 o1.2.2.1 o1.2.2.2 o5.1 o5.2 u1_boxes u1_startsAt u1_facts u1_places)) ⟨hx, hb, hml, hown, hts⟩ (c_X1_seekBelow l D cy sa a_v_least v_least_at v_least_value o3 o5 hc6) (cwV 1 hts gX3_bestExchange_X1_seekBelow rfl rfl rfl (by decide +kernel) ⟨Nat.le_of_ble_eq_true rfl, Nat.le_of_ble_eq_true rfl⟩) rfl rfl rfl hE hP hDD rfl hS [4] rfl rfl rfl rfl hl.1 (Nat.le_of_ble_eq_true rfl) ⟨Nat.zero_le _, Nat.zero_le _⟩ rfl dX3_bestExchange_16 rfl (fun H locs hP hS => ?_)
  refine wi_ic hx hb dX3_bestExchange_19 ?_
  refine lv_istore_n (lv' := [(2, .int (zI 0)), (0, .ref a_v), (1, .ref a_u1)]) hx hb dX3_bestExchange_20 rfl hl (by decide) rfl (fun ls hl => ?_)
  obtain ⟨o29, hx30, h⟩ := bnd_some h
  refine L21 5000 o1.1 o1.2.1 o1.2.2.1 o1.2.2.2 o5.1 o5.2 0 _ _ _ _ hP hS (lv_sub hl [1, 0] rfl) hx30 ?_
  clear hx30
  intro H locs ls hP hS hl
  obtain rfl := Option.some.inj h
  exact KR _ _ _ _ hP hS dX3_bestExchange_98
abbrev wd_X3_leastLonger (cy : Nat → ClassId) (a_v : Nat) (a_v_draft : Nat) (a_v_draft_facts : Nat) (a_v_draft_places : Nat) (a_u1 : Nat) (a_u1_facts : Nat) (a_u1_places : Nat) (a_v_least : Nat) (a_v_bestPlaces : Nat) (a_v_startsLeft : Nat) (v_draft_boxes : Int) (v_draft_startsAt : Int) (v_draft_facts : Nat → Int) (v_draft_places : Nat → Int) (u1_boxes : Int) (u1_startsAt : Int) (u1_facts : Nat → Int) (u1_places : Nat → Int) : va_W := [(a_v, .inr (3, [.ref a_v_draft, .ref a_v_least, .ref a_v_bestPlaces, .ref a_v_startsLeft])), (a_v_draft, .inr (5, [.ref a_v_draft_facts, .ref a_v_draft_places, .int (zI v_draft_boxes), .int (zI v_draft_startsAt)])), (a_v_draft_facts, .inl (cy 0, 30, .inl (fun j => zI (v_draft_facts j)))), (a_v_draft_places, .inl (cy 0, 5, .inl (fun j => zI (v_draft_places j)))), (a_u1, .inr (5, [.ref a_u1_facts, .ref a_u1_places, .int (zI u1_boxes), .int (zI u1_startsAt)])), (a_u1_facts, .inl (cy 0, 30, .inl (fun j => zI (u1_facts j)))), (a_u1_places, .inl (cy 0, 5, .inl (fun j => zI (u1_places j))))]
set_option maxHeartbeats 4000000 in
set_option maxRecDepth 100000 in
theorem c_X3_leastLonger (l : Launch) (D : va_G) (cy : Nat → ClassId) (sa : Nat → Nat) (a_v : Nat) (a_v_draft : Nat) (a_v_draft_facts : Nat) (a_v_draft_places : Nat) (a_u1 : Nat) (a_u1_facts : Nat) (a_u1_places : Nat) (a_v_least : Nat) (a_v_bestPlaces : Nat) (a_v_startsLeft : Nat) (v_draft_boxes : Int) (v_draft_startsAt : Int) (v_draft_facts : Nat → Int) (v_draft_places : Nat → Int) (u1_boxes : Int) (u1_startsAt : Int) (u1_facts : Nat → Int) (u1_places : Nat → Int) (x2 : Int) (o : Int × Int × Int × (Nat → Int) × (Nat → Int)) (h : f_Search_leastLonger v_draft_boxes v_draft_startsAt v_draft_facts v_draft_places u1_boxes u1_startsAt u1_facts u1_places x2 = some o) : CtI l yX3_leastLonger wsX3_leastLonger ({ frames := 2, cells := 0, slots := 0, locals := 81 }) D cy sa [.ref a_v, .ref a_u1, .int (zI x2)] (wd_X3_leastLonger cy a_v a_v_draft a_v_draft_facts a_v_draft_places a_u1 a_u1_facts a_u1_places a_v_least a_v_bestPlaces a_v_startsLeft v_draft_boxes v_draft_startsAt v_draft_facts v_draft_places u1_boxes u1_startsAt u1_facts u1_places) (wd_X3_leastLonger cy a_v a_v_draft a_v_draft_facts a_v_draft_places a_u1 a_u1_facts a_u1_places a_v_least a_v_bestPlaces a_v_startsLeft o.2.1 o.2.2.1 o.2.2.2.1 o.2.2.2.2 u1_boxes u1_startsAt u1_facts u1_places) o.1 := by
  refine ct_I (cc := cX3_leastLonger) (maxL := 6) (plainFor_of_name (by decide)) rfl (Nat.le_of_ble_eq_true rfl) ?_
  intro p e s m below meth c A args QQ hx hb hml hown hts hE hDD hP KR ls hl
  have hl : lv_has ls 6 [(0, .ref a_v), (1, .ref a_u1), (2, .int (zI x2))] := hl
  have hDD : DD A [a_v, a_v_draft, a_v_draft_facts, a_v_draft_places, a_u1, a_u1_facts, a_u1_places] := hDD
  have hS : va_S A s.heap s.heap [] := va_S.rf
  have q0 := hts (.fieldLink RX3 12 "HatHours$Search" "draft" "LHatHours$Shop;") (List.mem_of_getElem? (i := 1) rfl)
  have iX3 : ∀ w ∈ u_ws RX3 TX3 4, w ∈ wsX3_leastLonger := in_slice 28 4 rfl
  have L26 : ∀ (fuel : Nat) (v_draft_boxes : Int) (v_draft_startsAt : Int) (v_draft_facts : Nat → Int) (v_draft_places : Nat → Int) (x2 : Int) (x3 : Int) (x4 : Int) (x5 : Int) (H : Heap) (locs : List Loc) (ls : Array Slot), va_P D vwCl (wd_X3_leastLonger cy a_v a_v_draft a_v_draft_facts a_v_draft_places a_u1 a_u1_facts a_u1_places a_v_least a_v_bestPlaces a_v_startsLeft v_draft_boxes v_draft_startsAt v_draft_facts v_draft_places u1_boxes u1_startsAt u1_facts u1_places) H → va_S A s.heap H locs → lv_has ls 6 [(0, .ref a_v), (2, .int (zI x2)), (3, .int (zI x3)), (4, .int (zI x4)), (5, .int (zI x5))] → f_Search_leastLonger_L26 fuel v_draft_boxes v_draft_startsAt v_draft_facts v_draft_places u1_boxes u1_startsAt u1_facts u1_places x2 x3 x4 x5 = some o → W p l e { frames := 2, cells := 0, slots := 0, locals := 81 } s m args below meth c H locs 0 0 QQ (F0 m 26 ls []) := by
    intro fuel
    induction fuel with
    | zero => intro _ _ _ _ _ _ _ _ H locs ls hP hS hl h; cases h
    | succ fuel ih =>
      intro v_draft_boxes v_draft_startsAt v_draft_facts v_draft_places x2 x3 x4 x5 H locs ls hP hS hl h
      refine lv_iload hx hb dX3_leastLonger_26 (lv_at hl 4 rfl) ?_
      refine wi_bi hx hb dX3_leastLonger_28 (by decide) ?_
      obtain ⟨hr7, h⟩ := chk_some h
      refine wi_ic_gt (tgt := 77) hx hb dX3_leastLonger_30 (by decide) hr7 (by decide) (fun c9 => ?_) (fun c9 => ?_)
      · have h := ite_t c9 h
        refine wi_bi hx hb dX3_leastLonger_77 (by decide) ?_
        obtain rfl := Option.some.inj h
        exact KR _ _ _ _ hP hS dX3_leastLonger_79
      · have h := ite_f c9 h
        refine lv_iload_n hx hb dX3_leastLonger_33 rfl (lv_at hl 2 rfl) ?_
        refine lv_iload hx hb dX3_leastLonger_34 (lv_at hl 4 rfl) ?_
        refine wi_iadd hx hb dX3_leastLonger_36 ?_
        refine wi_bi hx hb dX3_leastLonger_37 (by decide) ?_
        obtain ⟨hr10, h⟩ := chk_some h
        refine wi_ic_gt (tgt := 77) hx hb dX3_leastLonger_39 (by decide) hr10 (by decide) (fun c12 => ?_) (fun c12 => ?_)
        · have h := ite_t c12 h
          refine wi_bi hx hb dX3_leastLonger_77 (by decide) ?_
          obtain rfl := Option.some.inj h
          exact KR _ _ _ _ hP hS dX3_leastLonger_79
        · have h := ite_f c12 h
          refine lv_aload_n hx hb dX3_leastLonger_42 rfl (lv_at hl 0 rfl) ?_
          refine wi_get (v := .ref a_v_draft) hx hb hts iX3 hown hE hP 0 rfl rfl 0 (by decide) q0 rfl dX3_leastLonger_43 ?_
          refine lv_iload_n hx hb dX3_leastLonger_46 rfl (lv_at hl 1 rfl) ?_
          refine wi_ic hx hb dX3_leastLonger_47 ?_
          refine lv_iload_n hx hb dX3_leastLonger_48 rfl (lv_at hl 2 rfl) ?_
          refine lv_iload hx hb dX3_leastLonger_49 (lv_at hl 4 rfl) ?_
          refine wi_iadd hx hb dX3_leastLonger_51 ?_
          obtain ⟨o13, hc14, h⟩ := bnd_some h
          refine cV_v (rest := []) (w2 := (wd_X3_leastLonger cy a_v a_v_draft a_v_draft_facts a_v_draft_places a_u1 a_u1_facts a_u1_places a_v_least a_v_bestPlaces a_v_startsLeft v_draft_boxes v_draft_startsAt o13 v_draft_places u1_boxes u1_startsAt u1_facts u1_places)) ⟨hx, hb, hml, hown, hts⟩ (c_X5_setFact l D cy sa a_v_draft a_v_draft_facts a_v_draft_places v_draft_boxes v_draft_startsAt v_draft_facts x2 1 (x3 + x5) o13 hc14) (cwV 3 hts gX3_leastLonger_X5_setFact rfl rfl rfl (by decide +kernel) ⟨Nat.le_of_ble_eq_true rfl, Nat.le_of_ble_eq_true rfl⟩) rfl rfl rfl hE hP hDD rfl hS [1, 2] rfl rfl rfl rfl hl.1 (Nat.le_of_ble_eq_true rfl) ⟨Nat.zero_le _, Nat.zero_le _⟩ rfl dX3_leastLonger_52 rfl (fun H locs hP hS => ?_)
          refine lv_aload_n hx hb dX3_leastLonger_55 rfl (lv_at hl 0 rfl) ?_
          refine wi_get (v := .ref a_v_draft) hx hb hts iX3 hown hE hP 0 rfl rfl 0 (by decide) q0 rfl dX3_leastLonger_56 ?_
          refine lv_iload_n hx hb dX3_leastLonger_59 rfl (lv_at hl 1 rfl) ?_
          obtain ⟨o15, hc16, h⟩ := bnd_some h
          refine cV_i (rest := []) (w2 := (wd_X3_leastLonger cy a_v a_v_draft a_v_draft_facts a_v_draft_places a_u1 a_u1_facts a_u1_places a_v_least a_v_bestPlaces a_v_startsLeft v_draft_boxes v_draft_startsAt o13 v_draft_places u1_boxes u1_startsAt u1_facts u1_places)) ⟨hx, hb, hml, hown, hts⟩ (c_X5_ownHour l D cy sa a_v_draft a_v_draft_facts a_v_draft_places v_draft_boxes v_draft_startsAt o13 v_draft_places x2 o15 hc16) (cwV 1 hts gX3_leastLonger_X5_ownHour rfl rfl rfl (by decide +kernel) ⟨Nat.le_of_ble_eq_true rfl, Nat.le_of_ble_eq_true rfl⟩) rfl rfl rfl hE hP hDD rfl hS [1, 2, 3] rfl rfl rfl rfl hl.1 (Nat.le_of_ble_eq_true rfl) ⟨Nat.zero_le _, Nat.zero_le _⟩ rfl dX3_leastLonger_60 rfl (fun H locs hP hS => ?_)
          refine lv_iload hx hb dX3_leastLonger_63 (lv_at hl 3 rfl) ?_
          obtain ⟨hr17, h⟩ := chk_some h
          obtain ⟨hr18, h⟩ := chk_some h
          refine wi_ic_ne (tgt := 71) hx hb dX3_leastLonger_65 (by decide) hr17 hr18 (fun c20 => ?_) (fun c20 => ?_)
          · have h := ite_f c20 h
            refine wi_iinc (k := 4) (lv' := [(5, .int (zI (x5 + 1))), (0, .ref a_v), (2, .int (zI x2)), (3, .int (zI x3)), (4, .int (zI x4))]) hx hb dX3_leastLonger_71 hl rfl (by decide) rfl (fun ls hl => ?_)
            refine lv_goto (tgt := 26) hx hb dX3_leastLonger_74 (by decide) ?_
            exact ih v_draft_boxes v_draft_startsAt o13 v_draft_places x2 x3 x4 (x5 + 1) _ _ _ hP hS (lv_sub hl [1, 2, 3, 4, 0] rfl) h
          · have h := ite_t c20 h
            refine lv_iload hx hb dX3_leastLonger_68 (lv_at hl 4 rfl) ?_
            obtain rfl := Option.some.inj h
            exact KR _ _ _ _ hP hS dX3_leastLonger_70
  refine lv_aload_n hx hb dX3_leastLonger_0 rfl (lv_at hl 0 rfl) ?_
  refine wi_get (v := .ref a_v_draft) hx hb hts iX3 hown hE hP 0 rfl rfl 0 (by decide) q0 rfl dX3_leastLonger_1 ?_
  refine lv_aload_n hx hb dX3_leastLonger_4 rfl (lv_at hl 1 rfl) ?_
  obtain ⟨o1, hc2, h⟩ := bnd_some h
  refine cV_v (rest := []) (w2 := (wd_X3_leastLonger cy a_v a_v_draft a_v_draft_facts a_v_draft_places a_u1 a_u1_facts a_u1_places a_v_least a_v_bestPlaces a_v_startsLeft o1.1 o1.2.1 o1.2.2.1 o1.2.2.2 u1_boxes u1_startsAt u1_facts u1_places)) ⟨hx, hb, hml, hown, hts⟩ (c_X5_copyFrom l D cy sa a_v_draft a_v_draft_facts a_v_draft_places a_u1 a_u1_facts a_u1_places v_draft_boxes v_draft_startsAt v_draft_facts v_draft_places u1_boxes u1_startsAt u1_facts u1_places o1 hc2) (cwV 1 hts gX3_leastLonger_X5_copyFrom rfl rfl rfl (by decide +kernel) ⟨Nat.le_of_ble_eq_true rfl, Nat.le_of_ble_eq_true rfl⟩) rfl rfl rfl hE hP hDD rfl hS [1, 2, 3, 4, 5, 6] rfl rfl rfl rfl hl.1 (Nat.le_of_ble_eq_true rfl) ⟨Nat.zero_le _, Nat.zero_le _⟩ rfl dX3_leastLonger_5 rfl (fun H locs hP hS => ?_)
  refine lv_aload_n hx hb dX3_leastLonger_8 rfl (lv_at hl 1 rfl) ?_
  refine lv_iload_n hx hb dX3_leastLonger_9 rfl (lv_at hl 2 rfl) ?_
  refine wi_ic hx hb dX3_leastLonger_10 ?_
  obtain ⟨o3, hc4, h⟩ := bnd_some h
  refine cV_i (rest := []) (w2 := (wd_X3_leastLonger cy a_v a_v_draft a_v_draft_facts a_v_draft_places a_u1 a_u1_facts a_u1_places a_v_least a_v_bestPlaces a_v_startsLeft o1.1 o1.2.1 o1.2.2.1 o1.2.2.2 u1_boxes u1_startsAt u1_facts u1_places)) ⟨hx, hb, hml, hown, hts⟩ (c_X5_fact l D cy sa a_u1 a_u1_facts a_u1_places u1_boxes u1_startsAt u1_facts x2 1 o3 hc4) (cwV 2 hts gX3_leastLonger_X5_fact rfl rfl rfl (by decide +kernel) ⟨Nat.le_of_ble_eq_true rfl, Nat.le_of_ble_eq_true rfl⟩) rfl rfl rfl hE hP hDD rfl hS [4, 5] rfl rfl rfl rfl hl.1 (Nat.le_of_ble_eq_true rfl) ⟨Nat.zero_le _, Nat.zero_le _⟩ rfl dX3_leastLonger_11 rfl (fun H locs hP hS => ?_)
  refine lv_istore_n (lv' := [(3, .int (zI o3)), (0, .ref a_v), (1, .ref a_u1), (2, .int (zI x2))]) hx hb dX3_leastLonger_14 rfl hl (by decide) rfl (fun ls hl => ?_)
  refine lv_aload_n hx hb dX3_leastLonger_15 rfl (lv_at hl 2 rfl) ?_
  refine lv_iload_n hx hb dX3_leastLonger_16 rfl (lv_at hl 3 rfl) ?_
  refine wi_ic hx hb dX3_leastLonger_17 ?_
  obtain ⟨o5, hc6, h⟩ := bnd_some h
  refine cV_i (rest := []) (w2 := (wd_X3_leastLonger cy a_v a_v_draft a_v_draft_facts a_v_draft_places a_u1 a_u1_facts a_u1_places a_v_least a_v_bestPlaces a_v_startsLeft o1.1 o1.2.1 o1.2.2.1 o1.2.2.2 u1_boxes u1_startsAt u1_facts u1_places)) ⟨hx, hb, hml, hown, hts⟩ (c_X5_fact l D cy sa a_u1 a_u1_facts a_u1_places u1_boxes u1_startsAt u1_facts x2 2 o5 hc6) (cwV 2 hts gX3_leastLonger_X5_fact rfl rfl rfl (by decide +kernel) ⟨Nat.le_of_ble_eq_true rfl, Nat.le_of_ble_eq_true rfl⟩) rfl rfl rfl hE hP hDD rfl hS [4, 5] rfl rfl rfl rfl hl.1 (Nat.le_of_ble_eq_true rfl) ⟨Nat.zero_le _, Nat.zero_le _⟩ rfl dX3_leastLonger_18 rfl (fun H locs hP hS => ?_)
  refine lv_istore (lv' := [(4, .int (zI o5)), (3, .int (zI o3)), (0, .ref a_v), (1, .ref a_u1), (2, .int (zI x2))]) hx hb dX3_leastLonger_21 hl (by decide) rfl (fun ls hl => ?_)
  refine wi_ic hx hb dX3_leastLonger_23 ?_
  refine lv_istore (lv' := [(5, .int (zI 0)), (4, .int (zI o5)), (3, .int (zI o3)), (0, .ref a_v), (1, .ref a_u1), (2, .int (zI x2))]) hx hb dX3_leastLonger_24 hl (by decide) rfl (fun ls hl => ?_)
  exact L26 5000 o1.1 o1.2.1 o1.2.2.1 o1.2.2.2 x2 o3 o5 0 _ _ _ hP hS (lv_sub hl [3, 5, 2, 1, 0] rfl) h
abbrev wd_X3_firstOpening (cy : Nat → ClassId) (a_v : Nat) (a_v_draft : Nat) (a_v_draft_facts : Nat) (a_v_draft_places : Nat) (a_u1 : Nat) (a_u1_facts : Nat) (a_u1_places : Nat) (a_v_least : Nat) (a_v_bestPlaces : Nat) (a_v_startsLeft : Nat) (v_draft_boxes : Int) (v_draft_startsAt : Int) (v_draft_facts : Nat → Int) (v_draft_places : Nat → Int) (u1_boxes : Int) (u1_startsAt : Int) (u1_facts : Nat → Int) (u1_places : Nat → Int) : va_W := [(a_v, .inr (3, [.ref a_v_draft, .ref a_v_least, .ref a_v_bestPlaces, .ref a_v_startsLeft])), (a_v_draft, .inr (5, [.ref a_v_draft_facts, .ref a_v_draft_places, .int (zI v_draft_boxes), .int (zI v_draft_startsAt)])), (a_v_draft_facts, .inl (cy 0, 30, .inl (fun j => zI (v_draft_facts j)))), (a_v_draft_places, .inl (cy 0, 5, .inl (fun j => zI (v_draft_places j)))), (a_u1, .inr (5, [.ref a_u1_facts, .ref a_u1_places, .int (zI u1_boxes), .int (zI u1_startsAt)])), (a_u1_facts, .inl (cy 0, 30, .inl (fun j => zI (u1_facts j)))), (a_u1_places, .inl (cy 0, 5, .inl (fun j => zI (u1_places j))))]
set_option maxHeartbeats 4000000 in
set_option maxRecDepth 100000 in
theorem c_X3_firstOpening (l : Launch) (D : va_G) (cy : Nat → ClassId) (sa : Nat → Nat) (a_v : Nat) (a_v_draft : Nat) (a_v_draft_facts : Nat) (a_v_draft_places : Nat) (a_u1 : Nat) (a_u1_facts : Nat) (a_u1_places : Nat) (a_v_least : Nat) (a_v_bestPlaces : Nat) (a_v_startsLeft : Nat) (v_draft_boxes : Int) (v_draft_startsAt : Int) (v_draft_facts : Nat → Int) (v_draft_places : Nat → Int) (u1_boxes : Int) (u1_startsAt : Int) (u1_facts : Nat → Int) (u1_places : Nat → Int) (x2 : Int) (x3 : Int) (x4 : Int) (o : Int × Int × Int × (Nat → Int) × (Nat → Int)) (h : f_Search_firstOpening v_draft_boxes v_draft_startsAt v_draft_facts v_draft_places u1_boxes u1_startsAt u1_facts u1_places x2 x3 x4 = some o) : CtI l yX3_firstOpening wsX3_firstOpening ({ frames := 4, cells := 0, slots := 0, locals := 91 }) D cy sa [.ref a_v, .ref a_u1, .int (zI x2), .int (zI x3), .int (zI x4)] (wd_X3_firstOpening cy a_v a_v_draft a_v_draft_facts a_v_draft_places a_u1 a_u1_facts a_u1_places a_v_least a_v_bestPlaces a_v_startsLeft v_draft_boxes v_draft_startsAt v_draft_facts v_draft_places u1_boxes u1_startsAt u1_facts u1_places) (wd_X3_firstOpening cy a_v a_v_draft a_v_draft_facts a_v_draft_places a_u1 a_u1_facts a_u1_places a_v_least a_v_bestPlaces a_v_startsLeft o.2.1 o.2.2.1 o.2.2.2.1 o.2.2.2.2 u1_boxes u1_startsAt u1_facts u1_places) o.1 := by
  refine ct_I (cc := cX3_firstOpening) (maxL := 7) (plainFor_of_name (by decide)) rfl (Nat.le_of_ble_eq_true rfl) ?_
  intro p e s m below meth c A args QQ hx hb hml hown hts hE hDD hP KR ls hl
  have hl : lv_has ls 7 [(0, .ref a_v), (1, .ref a_u1), (2, .int (zI x2)), (3, .int (zI x3)), (4, .int (zI x4))] := hl
  have hDD : DD A [a_v, a_v_draft, a_v_draft_facts, a_v_draft_places, a_u1, a_u1_facts, a_u1_places] := hDD
  have hS : va_S A s.heap s.heap [] := va_S.rf
  have q0 := hts (.fieldLink RX3 12 "HatHours$Search" "draft" "LHatHours$Shop;") (List.mem_of_getElem? (i := 1) rfl)
  have iX3 : ∀ w ∈ u_ws RX3 TX3 4, w ∈ wsX3_firstOpening := in_slice 48 4 rfl
  have L19 : ∀ (fuel : Nat) (v_draft_boxes : Int) (v_draft_startsAt : Int) (v_draft_facts : Nat → Int) (v_draft_places : Nat → Int) (x2 : Int) (x3 : Int) (x4 : Int) (x5 : Int) (x6 : Int) (H : Heap) (locs : List Loc) (ls : Array Slot), va_P D vwCl (wd_X3_firstOpening cy a_v a_v_draft a_v_draft_facts a_v_draft_places a_u1 a_u1_facts a_u1_places a_v_least a_v_bestPlaces a_v_startsLeft v_draft_boxes v_draft_startsAt v_draft_facts v_draft_places u1_boxes u1_startsAt u1_facts u1_places) H → va_S A s.heap H locs → lv_has ls 7 [(0, .ref a_v), (2, .int (zI x2)), (3, .int (zI x3)), (4, .int (zI x4)), (5, .int (zI x5)), (6, .int (zI x6))] → f_Search_firstOpening_L19 fuel v_draft_boxes v_draft_startsAt v_draft_facts v_draft_places u1_boxes u1_startsAt u1_facts u1_places x2 x3 x4 x5 x6 = some o → W p l e { frames := 4, cells := 0, slots := 0, locals := 91 } s m args below meth c H locs 0 0 QQ (F0 m 19 ls []) := by
    intro fuel
    induction fuel with
    | zero => intro _ _ _ _ _ _ _ _ _ H locs ls hP hS hl h; cases h
    | succ fuel ih =>
      intro v_draft_boxes v_draft_startsAt v_draft_facts v_draft_places x2 x3 x4 x5 x6 H locs ls hP hS hl h
      refine lv_iload hx hb dX3_firstOpening_19 (lv_at hl 5 rfl) ?_
      refine wi_bi hx hb dX3_firstOpening_21 (by decide) ?_
      obtain ⟨hr5, h⟩ := chk_some h
      refine wi_ic_ge (tgt := 61) hx hb dX3_firstOpening_23 (by decide) hr5 (by decide) (fun c7 => ?_) (fun c7 => ?_)
      · have h := ite_t c7 h
        refine wi_bi hx hb dX3_firstOpening_61 (by decide) ?_
        obtain rfl := Option.some.inj h
        exact KR _ _ _ _ hP hS dX3_firstOpening_63
      · have h := ite_f c7 h
        refine lv_aload_n hx hb dX3_firstOpening_26 rfl (lv_at hl 0 rfl) ?_
        refine wi_get (v := .ref a_v_draft) hx hb hts iX3 hown hE hP 0 rfl rfl 0 (by decide) q0 rfl dX3_firstOpening_27 ?_
        refine lv_iload_n hx hb dX3_firstOpening_30 rfl (lv_at hl 1 rfl) ?_
        refine wi_ic hx hb dX3_firstOpening_31 ?_
        refine lv_iload hx hb dX3_firstOpening_32 (lv_at hl 5 rfl) ?_
        obtain ⟨o8, hc9, h⟩ := bnd_some h
        refine cV_v (rest := []) (w2 := (wd_X3_firstOpening cy a_v a_v_draft a_v_draft_facts a_v_draft_places a_u1 a_u1_facts a_u1_places a_v_least a_v_bestPlaces a_v_startsLeft v_draft_boxes v_draft_startsAt o8 v_draft_places u1_boxes u1_startsAt u1_facts u1_places)) ⟨hx, hb, hml, hown, hts⟩ (c_X5_setFact l D cy sa a_v_draft a_v_draft_facts a_v_draft_places v_draft_boxes v_draft_startsAt v_draft_facts x2 4 x6 o8 hc9) (cwV 3 hts gX3_firstOpening_X5_setFact rfl rfl rfl (by decide +kernel) ⟨Nat.le_of_ble_eq_true rfl, Nat.le_of_ble_eq_true rfl⟩) rfl rfl rfl hE hP hDD rfl hS [1, 2] rfl rfl rfl rfl hl.1 (Nat.le_of_ble_eq_true rfl) ⟨Nat.zero_le _, Nat.zero_le _⟩ rfl dX3_firstOpening_34 rfl (fun H locs hP hS => ?_)
        refine lv_aload_n hx hb dX3_firstOpening_37 rfl (lv_at hl 0 rfl) ?_
        refine wi_get (v := .ref a_v_draft) hx hb hts iX3 hown hE hP 0 rfl rfl 0 (by decide) q0 rfl dX3_firstOpening_38 ?_
        refine lv_iload hx hb dX3_firstOpening_41 (lv_at hl 4 rfl) ?_
        refine lv_iload_n hx hb dX3_firstOpening_43 rfl (lv_at hl 2 rfl) ?_
        obtain ⟨o10, hc11, h⟩ := bnd_some h
        refine cV_i (rest := []) (w2 := (wd_X3_firstOpening cy a_v a_v_draft a_v_draft_facts a_v_draft_places a_u1 a_u1_facts a_u1_places a_v_least a_v_bestPlaces a_v_startsLeft v_draft_boxes v_draft_startsAt o8 v_draft_places u1_boxes u1_startsAt u1_facts u1_places)) ⟨hx, hb, hml, hown, hts⟩ (c_X5_oclock l D cy sa a_v_draft a_v_draft_facts a_v_draft_places v_draft_boxes v_draft_startsAt o8 v_draft_places x5 x3 o10 hc11) (cwV 2 hts gX3_firstOpening_X5_oclock rfl rfl rfl (by decide +kernel) ⟨Nat.le_of_ble_eq_true rfl, Nat.le_of_ble_eq_true rfl⟩) rfl rfl rfl hE hP hDD rfl hS [1, 2, 3] rfl rfl rfl rfl hl.1 (Nat.le_of_ble_eq_true rfl) ⟨Nat.zero_le _, Nat.zero_le _⟩ rfl dX3_firstOpening_44 rfl (fun H locs hP hS => ?_)
        refine lv_iload hx hb dX3_firstOpening_47 (lv_at hl 3 rfl) ?_
        obtain ⟨hr12, h⟩ := chk_some h
        obtain ⟨hr13, h⟩ := chk_some h
        refine wi_ic_ne (tgt := 55) hx hb dX3_firstOpening_49 (by decide) hr12 hr13 (fun c15 => ?_) (fun c15 => ?_)
        · have h := ite_f c15 h
          refine wi_iinc (k := 5) (lv' := [(6, .int (zI (x6 + 1))), (0, .ref a_v), (2, .int (zI x2)), (3, .int (zI x3)), (4, .int (zI x4)), (5, .int (zI x5))]) hx hb dX3_firstOpening_55 hl rfl (by decide) rfl (fun ls hl => ?_)
          refine lv_goto (tgt := 19) hx hb dX3_firstOpening_58 (by decide) ?_
          exact ih v_draft_boxes v_draft_startsAt o8 v_draft_places x2 x3 x4 x5 (x6 + 1) _ _ _ hP hS (lv_sub hl [1, 2, 3, 4, 5, 0] rfl) h
        · have h := ite_t c15 h
          refine lv_iload hx hb dX3_firstOpening_52 (lv_at hl 5 rfl) ?_
          obtain rfl := Option.some.inj h
          exact KR _ _ _ _ hP hS dX3_firstOpening_54
  refine lv_aload_n hx hb dX3_firstOpening_0 rfl (lv_at hl 0 rfl) ?_
  refine wi_get (v := .ref a_v_draft) hx hb hts iX3 hown hE hP 0 rfl rfl 0 (by decide) q0 rfl dX3_firstOpening_1 ?_
  refine lv_aload_n hx hb dX3_firstOpening_4 rfl (lv_at hl 1 rfl) ?_
  obtain ⟨o1, hc2, h⟩ := bnd_some h
  refine cV_v (rest := []) (w2 := (wd_X3_firstOpening cy a_v a_v_draft a_v_draft_facts a_v_draft_places a_u1 a_u1_facts a_u1_places a_v_least a_v_bestPlaces a_v_startsLeft o1.1 o1.2.1 o1.2.2.1 o1.2.2.2 u1_boxes u1_startsAt u1_facts u1_places)) ⟨hx, hb, hml, hown, hts⟩ (c_X5_copyFrom l D cy sa a_v_draft a_v_draft_facts a_v_draft_places a_u1 a_u1_facts a_u1_places v_draft_boxes v_draft_startsAt v_draft_facts v_draft_places u1_boxes u1_startsAt u1_facts u1_places o1 hc2) (cwV 1 hts gX3_firstOpening_X5_copyFrom rfl rfl rfl (by decide +kernel) ⟨Nat.le_of_ble_eq_true rfl, Nat.le_of_ble_eq_true rfl⟩) rfl rfl rfl hE hP hDD rfl hS [1, 2, 3, 4, 5, 6] rfl rfl rfl rfl hl.1 (Nat.le_of_ble_eq_true rfl) ⟨Nat.zero_le _, Nat.zero_le _⟩ rfl dX3_firstOpening_5 rfl (fun H locs hP hS => ?_)
  refine lv_aload_n hx hb dX3_firstOpening_8 rfl (lv_at hl 1 rfl) ?_
  refine lv_iload_n hx hb dX3_firstOpening_9 rfl (lv_at hl 2 rfl) ?_
  refine wi_ic hx hb dX3_firstOpening_10 ?_
  obtain ⟨o3, hc4, h⟩ := bnd_some h
  refine cV_i (rest := []) (w2 := (wd_X3_firstOpening cy a_v a_v_draft a_v_draft_facts a_v_draft_places a_u1 a_u1_facts a_u1_places a_v_least a_v_bestPlaces a_v_startsLeft o1.1 o1.2.1 o1.2.2.1 o1.2.2.2 u1_boxes u1_startsAt u1_facts u1_places)) ⟨hx, hb, hml, hown, hts⟩ (c_X5_fact l D cy sa a_u1 a_u1_facts a_u1_places u1_boxes u1_startsAt u1_facts x2 5 o3 hc4) (cwV 2 hts gX3_firstOpening_X5_fact rfl rfl rfl (by decide +kernel) ⟨Nat.le_of_ble_eq_true rfl, Nat.le_of_ble_eq_true rfl⟩) rfl rfl rfl hE hP hDD rfl hS [4, 5] rfl rfl rfl rfl hl.1 (Nat.le_of_ble_eq_true rfl) ⟨Nat.zero_le _, Nat.zero_le _⟩ rfl dX3_firstOpening_11 rfl (fun H locs hP hS => ?_)
  refine lv_istore (lv' := [(5, .int (zI o3)), (0, .ref a_v), (1, .ref a_u1), (2, .int (zI x2)), (3, .int (zI x3)), (4, .int (zI x4))]) hx hb dX3_firstOpening_14 hl (by decide) rfl (fun ls hl => ?_)
  refine wi_ic hx hb dX3_firstOpening_16 ?_
  refine lv_istore (lv' := [(6, .int (zI 0)), (5, .int (zI o3)), (0, .ref a_v), (1, .ref a_u1), (2, .int (zI x2)), (3, .int (zI x3)), (4, .int (zI x4))]) hx hb dX3_firstOpening_17 hl (by decide) rfl (fun ls hl => ?_)
  exact L19 5000 o1.1 o1.2.1 o1.2.2.1 o1.2.2.2 x2 x3 x4 o3 0 _ _ _ hP hS (lv_sub hl [2, 4, 5, 6, 1, 0] rfl) h
abbrev wd_X3_fewestYawns (cy : Nat → ClassId) (a_v : Nat) (a_v_draft : Nat) (a_v_draft_facts : Nat) (a_v_draft_places : Nat) (a_v_least : Nat) (a_u1 : Nat) (a_u1_facts : Nat) (a_u1_places : Nat) (a_v_bestPlaces : Nat) (a_v_startsLeft : Nat) (v_draft_boxes : Int) (v_draft_startsAt : Int) (v_draft_facts : Nat → Int) (v_draft_places : Nat → Int) (v_least_at : Int) (v_least_value : Int) (u1_boxes : Int) (u1_startsAt : Int) (u1_facts : Nat → Int) (u1_places : Nat → Int) : va_W := [(a_v, .inr (3, [.ref a_v_draft, .ref a_v_least, .ref a_v_bestPlaces, .ref a_v_startsLeft])), (a_v_draft, .inr (5, [.ref a_v_draft_facts, .ref a_v_draft_places, .int (zI v_draft_boxes), .int (zI v_draft_startsAt)])), (a_v_draft_facts, .inl (cy 0, 30, .inl (fun j => zI (v_draft_facts j)))), (a_v_draft_places, .inl (cy 0, 5, .inl (fun j => zI (v_draft_places j)))), (a_v_least, .inr (1, [.int (zI v_least_at), .int (zI v_least_value)])), (a_u1, .inr (5, [.ref a_u1_facts, .ref a_u1_places, .int (zI u1_boxes), .int (zI u1_startsAt)])), (a_u1_facts, .inl (cy 0, 30, .inl (fun j => zI (u1_facts j)))), (a_u1_places, .inl (cy 0, 5, .inl (fun j => zI (u1_places j))))]
set_option maxHeartbeats 4000000 in
set_option maxRecDepth 100000 in
theorem c_X3_fewestYawns (l : Launch) (D : va_G) (cy : Nat → ClassId) (sa : Nat → Nat) (a_v : Nat) (a_v_draft : Nat) (a_v_draft_facts : Nat) (a_v_draft_places : Nat) (a_v_least : Nat) (a_u1 : Nat) (a_u1_facts : Nat) (a_u1_places : Nat) (a_v_bestPlaces : Nat) (a_v_startsLeft : Nat) (v_draft_boxes : Int) (v_draft_startsAt : Int) (v_draft_facts : Nat → Int) (v_draft_places : Nat → Int) (v_least_at : Int) (v_least_value : Int) (u1_boxes : Int) (u1_startsAt : Int) (u1_facts : Nat → Int) (u1_places : Nat → Int) (x2 : Int) (x3 : Int) (o : Int × Int × (Nat → Int) × (Nat → Int) × Int × Int) (h : f_Search_fewestYawns v_draft_boxes v_draft_startsAt v_draft_facts v_draft_places v_least_at v_least_value u1_boxes u1_startsAt u1_facts u1_places x2 x3 = some o) : CtV l yX3_fewestYawns wsX3_fewestYawns ({ frames := 4, cells := 0, slots := 0, locals := 100 }) D cy sa [.ref a_v, .ref a_u1, .int (zI x2), .int (zI x3)] (wd_X3_fewestYawns cy a_v a_v_draft a_v_draft_facts a_v_draft_places a_v_least a_u1 a_u1_facts a_u1_places a_v_bestPlaces a_v_startsLeft v_draft_boxes v_draft_startsAt v_draft_facts v_draft_places v_least_at v_least_value u1_boxes u1_startsAt u1_facts u1_places) (wd_X3_fewestYawns cy a_v a_v_draft a_v_draft_facts a_v_draft_places a_v_least a_u1 a_u1_facts a_u1_places a_v_bestPlaces a_v_startsLeft o.1 o.2.1 o.2.2.1 o.2.2.2.1 o.2.2.2.2.1 o.2.2.2.2.2 u1_boxes u1_startsAt u1_facts u1_places)  := by
  refine ct_V (cc := cX3_fewestYawns) (maxL := 5) (plainFor_of_name (by decide)) rfl (Nat.le_of_ble_eq_true rfl) ?_
  intro p e s m below meth c A args QQ hx hb hml hown hts hE hDD hP KR ls hl
  have hl : lv_has ls 5 [(0, .ref a_v), (1, .ref a_u1), (2, .int (zI x2)), (3, .int (zI x3))] := hl
  have hDD : DD A [a_v, a_v_draft, a_v_draft_facts, a_v_draft_places, a_v_least, a_u1, a_u1_facts, a_u1_places] := hDD
  have hS : va_S A s.heap s.heap [] := va_S.rf
  have q0 := hts (.fieldLink RX3 12 "HatHours$Search" "draft" "LHatHours$Shop;") (List.mem_of_getElem? (i := 1) rfl)
  have q1 := hts (.fieldLink RX3 21 "HatHours$Search" "least" "LHatHours$Least;") (List.mem_of_getElem? (i := 2) rfl)
  have q2 := hts (.constant RX3 46 (1000000)) (List.mem_of_getElem? (i := 3) rfl)
  have iX3 : ∀ w ∈ u_ws RX3 TX3 4, w ∈ wsX3_fewestYawns := in_slice 77 4 rfl
  have L23 : ∀ (fuel : Nat) (v_draft_boxes : Int) (v_draft_startsAt : Int) (v_draft_facts : Nat → Int) (v_draft_places : Nat → Int) (v_least_at : Int) (v_least_value : Int) (x2 : Int) (x3 : Int) (x4 : Int) (H : Heap) (locs : List Loc) (ls : Array Slot) (ex : (Nat → Int) × Int × Int), va_P D vwCl (wd_X3_fewestYawns cy a_v a_v_draft a_v_draft_facts a_v_draft_places a_v_least a_u1 a_u1_facts a_u1_places a_v_bestPlaces a_v_startsLeft v_draft_boxes v_draft_startsAt v_draft_facts v_draft_places v_least_at v_least_value u1_boxes u1_startsAt u1_facts u1_places) H → va_S A s.heap H locs → lv_has ls 5 [(0, .ref a_v), (2, .int (zI x2)), (3, .int (zI x3)), (4, .int (zI x4))] → f_Search_fewestYawns_L23 fuel v_draft_boxes v_draft_startsAt v_draft_facts v_draft_places v_least_at v_least_value x2 x3 x4 = some ex → (∀ (H : Heap) (locs : List Loc) (ls : Array Slot), va_P D vwCl (wd_X3_fewestYawns cy a_v a_v_draft a_v_draft_facts a_v_draft_places a_v_least a_u1 a_u1_facts a_u1_places a_v_bestPlaces a_v_startsLeft v_draft_boxes v_draft_startsAt ex.1 v_draft_places ex.2.1 ex.2.2 u1_boxes u1_startsAt u1_facts u1_places) H → va_S A s.heap H locs → lv_has ls 5 [] → W p l e { frames := 4, cells := 0, slots := 0, locals := 100 } s m args below meth c H locs 0 0 QQ (F0 m 66 ls [])) → W p l e { frames := 4, cells := 0, slots := 0, locals := 100 } s m args below meth c H locs 0 0 QQ (F0 m 23 ls []) := by
    intro fuel
    induction fuel with
    | zero => intro _ _ _ _ _ _ _ _ _ H locs ls ex hP hS hl h K; cases h
    | succ fuel ih =>
      intro v_draft_boxes v_draft_startsAt v_draft_facts v_draft_places v_least_at v_least_value x2 x3 x4 H locs ls ex hP hS hl h K
      refine lv_iload hx hb dX3_fewestYawns_23 (lv_at hl 3 rfl) ?_
      refine lv_iload_n hx hb dX3_fewestYawns_25 rfl (lv_at hl 2 rfl) ?_
      obtain ⟨o7, hc8, h⟩ := bnd_some h
      refine cS_i (rest := [.int (zI x4)]) (w2 := (wd_X3_fewestYawns cy a_v a_v_draft a_v_draft_facts a_v_draft_places a_v_least a_u1 a_u1_facts a_u1_places a_v_bestPlaces a_v_startsLeft v_draft_boxes v_draft_startsAt v_draft_facts v_draft_places v_least_at v_least_value u1_boxes u1_startsAt u1_facts u1_places)) ⟨hx, hb, hml, hown, hts⟩ (c_X5_most l D cy sa x3 o7 hc8) (va_cwS 1 hts gX3_fewestYawns_X5_most rfl rfl rfl (by decide +kernel) ⟨Nat.le_of_ble_eq_true rfl, Nat.le_of_ble_eq_true rfl⟩) hE hP hDD rfl hS [] rfl rfl rfl rfl hl.1 (Nat.le_of_ble_eq_true rfl) ⟨Nat.zero_le _, Nat.zero_le _⟩ rfl dX3_fewestYawns_26 rfl (fun H locs hP hS => ?_)
      obtain ⟨hr9, h⟩ := chk_some h
      obtain ⟨hr10, h⟩ := chk_some h
      refine wi_ic_gt (tgt := 66) hx hb dX3_fewestYawns_29 (by decide) hr9 hr10 (fun c12 => ?_) (fun c12 => ?_)
      · have h := ite_t c12 h
        obtain rfl := Option.some.inj h
        exact K _ _ _ hP hS (lv_sub hl [] rfl)
      · have h := ite_f c12 h
        refine lv_aload_n hx hb dX3_fewestYawns_32 rfl (lv_at hl 0 rfl) ?_
        refine wi_get (v := .ref a_v_draft) hx hb hts iX3 hown hE hP 0 rfl rfl 0 (by decide) q0 rfl dX3_fewestYawns_33 ?_
        refine lv_iload_n hx hb dX3_fewestYawns_36 rfl (lv_at hl 1 rfl) ?_
        refine lv_iload_n hx hb dX3_fewestYawns_37 rfl (lv_at hl 2 rfl) ?_
        refine lv_iload hx hb dX3_fewestYawns_38 (lv_at hl 3 rfl) ?_
        obtain ⟨o13, hc14, h⟩ := bnd_some h
        refine cV_v (rest := []) (w2 := (wd_X3_fewestYawns cy a_v a_v_draft a_v_draft_facts a_v_draft_places a_v_least a_u1 a_u1_facts a_u1_places a_v_bestPlaces a_v_startsLeft v_draft_boxes v_draft_startsAt o13 v_draft_places v_least_at v_least_value u1_boxes u1_startsAt u1_facts u1_places)) ⟨hx, hb, hml, hown, hts⟩ (c_X5_setFact l D cy sa a_v_draft a_v_draft_facts a_v_draft_places v_draft_boxes v_draft_startsAt v_draft_facts x2 x3 x4 o13 hc14) (cwV 3 hts gX3_fewestYawns_X5_setFact rfl rfl rfl (by decide +kernel) ⟨Nat.le_of_ble_eq_true rfl, Nat.le_of_ble_eq_true rfl⟩) rfl rfl rfl hE hP hDD rfl hS [1, 2] rfl rfl rfl rfl hl.1 (Nat.le_of_ble_eq_true rfl) ⟨Nat.zero_le _, Nat.zero_le _⟩ rfl dX3_fewestYawns_40 rfl (fun H locs hP hS => ?_)
        refine lv_aload_n hx hb dX3_fewestYawns_43 rfl (lv_at hl 0 rfl) ?_
        refine wi_get (v := .ref a_v_least) hx hb hts iX3 hown hE hP 0 rfl rfl 1 (by decide) q1 rfl dX3_fewestYawns_44 ?_
        refine lv_iload hx hb dX3_fewestYawns_47 (lv_at hl 3 rfl) ?_
        refine lv_aload_n hx hb dX3_fewestYawns_49 rfl (lv_at hl 0 rfl) ?_
        refine wi_get (v := .ref a_v_draft) hx hb hts iX3 hown hE hP 0 rfl rfl 0 (by decide) q0 rfl dX3_fewestYawns_50 ?_
        obtain ⟨o15, hc16, h⟩ := bnd_some h
        refine cV_i (rest := [.int (zI x4), .ref a_v_least]) (w2 := (wd_X3_fewestYawns cy a_v a_v_draft a_v_draft_facts a_v_draft_places a_v_least a_u1 a_u1_facts a_u1_places a_v_bestPlaces a_v_startsLeft v_draft_boxes v_draft_startsAt o13 v_draft_places v_least_at v_least_value u1_boxes u1_startsAt u1_facts u1_places)) ⟨hx, hb, hml, hown, hts⟩ (c_X5_yawnsOfAll l D cy sa a_v_draft a_v_draft_facts a_v_draft_places v_draft_boxes v_draft_startsAt o13 v_draft_places o15 hc16) (cwV 0 hts gX3_fewestYawns_X5_yawnsOfAll rfl rfl rfl (by decide +kernel) ⟨Nat.le_of_ble_eq_true rfl, Nat.le_of_ble_eq_true rfl⟩) rfl rfl rfl hE hP hDD rfl hS [1, 2, 3] rfl rfl rfl rfl hl.1 (Nat.le_of_ble_eq_true rfl) ⟨Nat.zero_le _, Nat.zero_le _⟩ rfl dX3_fewestYawns_53 rfl (fun H locs hP hS => ?_)
        obtain ⟨o17, hc18, h⟩ := bnd_some h
        refine cV_i (rest := []) (w2 := (wd_X3_fewestYawns cy a_v a_v_draft a_v_draft_facts a_v_draft_places a_v_least a_u1 a_u1_facts a_u1_places a_v_bestPlaces a_v_startsLeft v_draft_boxes v_draft_startsAt o13 v_draft_places o17.2.1 o17.2.2 u1_boxes u1_startsAt u1_facts u1_places)) ⟨hx, hb, hml, hown, hts⟩ (c_X1_offer l D cy sa a_v_least v_least_at v_least_value x4 o15 o17 hc18) (cwV 2 hts gX3_fewestYawns_X1_offer rfl rfl rfl (by decide +kernel) ⟨Nat.le_of_ble_eq_true rfl, Nat.le_of_ble_eq_true rfl⟩) rfl rfl rfl hE hP hDD rfl hS [4] rfl rfl rfl rfl hl.1 (Nat.le_of_ble_eq_true rfl) ⟨Nat.zero_le _, Nat.zero_le _⟩ rfl dX3_fewestYawns_56 rfl (fun H locs hP hS => ?_)
        refine lv_pop hx hb dX3_fewestYawns_59 rfl ?_
        refine wi_iinc (k := 3) (lv' := [(4, .int (zI (x4 + 1))), (0, .ref a_v), (2, .int (zI x2)), (3, .int (zI x3))]) hx hb dX3_fewestYawns_60 hl rfl (by decide) rfl (fun ls hl => ?_)
        refine lv_goto (tgt := 23) hx hb dX3_fewestYawns_63 (by decide) ?_
        exact ih v_draft_boxes v_draft_startsAt o13 v_draft_places o17.2.1 o17.2.2 x2 x3 (x4 + 1) _ _ _ _ hP hS (lv_sub hl [1, 2, 3, 0] rfl) h K
  refine lv_aload_n hx hb dX3_fewestYawns_0 rfl (lv_at hl 0 rfl) ?_
  refine wi_get (v := .ref a_v_draft) hx hb hts iX3 hown hE hP 0 rfl rfl 0 (by decide) q0 rfl dX3_fewestYawns_1 ?_
  refine lv_aload_n hx hb dX3_fewestYawns_4 rfl (lv_at hl 1 rfl) ?_
  obtain ⟨o1, hc2, h⟩ := bnd_some h
  refine cV_v (rest := []) (w2 := (wd_X3_fewestYawns cy a_v a_v_draft a_v_draft_facts a_v_draft_places a_v_least a_u1 a_u1_facts a_u1_places a_v_bestPlaces a_v_startsLeft o1.1 o1.2.1 o1.2.2.1 o1.2.2.2 v_least_at v_least_value u1_boxes u1_startsAt u1_facts u1_places)) ⟨hx, hb, hml, hown, hts⟩ (c_X5_copyFrom l D cy sa a_v_draft a_v_draft_facts a_v_draft_places a_u1 a_u1_facts a_u1_places v_draft_boxes v_draft_startsAt v_draft_facts v_draft_places u1_boxes u1_startsAt u1_facts u1_places o1 hc2) (cwV 1 hts gX3_fewestYawns_X5_copyFrom rfl rfl rfl (by decide +kernel) ⟨Nat.le_of_ble_eq_true rfl, Nat.le_of_ble_eq_true rfl⟩) rfl rfl rfl hE hP hDD rfl hS [1, 2, 3, 5, 6, 7] rfl rfl rfl rfl hl.1 (Nat.le_of_ble_eq_true rfl) ⟨Nat.zero_le _, Nat.zero_le _⟩ rfl dX3_fewestYawns_5 rfl (fun H locs hP hS => ?_)
  refine lv_aload_n hx hb dX3_fewestYawns_8 rfl (lv_at hl 0 rfl) ?_
  refine wi_get (v := .ref a_v_least) hx hb hts iX3 hown hE hP 0 rfl rfl 1 (by decide) q1 rfl dX3_fewestYawns_9 ?_
  refine wi_ldc (n := 1000000) hx hb hown q2 dX3_fewestYawns_12 rfl ?_
  obtain ⟨o3, hc4, h⟩ := bnd_some h
  refine cV_v (rest := []) (w2 := (wd_X3_fewestYawns cy a_v a_v_draft a_v_draft_facts a_v_draft_places a_v_least a_u1 a_u1_facts a_u1_places a_v_bestPlaces a_v_startsLeft o1.1 o1.2.1 o1.2.2.1 o1.2.2.2 o3.1 o3.2 u1_boxes u1_startsAt u1_facts u1_places)) ⟨hx, hb, hml, hown, hts⟩ (c_X1_seekBelow l D cy sa a_v_least v_least_at v_least_value 1000000 o3 hc4) (cwV 1 hts gX3_fewestYawns_X1_seekBelow rfl rfl rfl (by decide +kernel) ⟨Nat.le_of_ble_eq_true rfl, Nat.le_of_ble_eq_true rfl⟩) rfl rfl rfl hE hP hDD rfl hS [4] rfl rfl rfl rfl hl.1 (Nat.le_of_ble_eq_true rfl) ⟨Nat.zero_le _, Nat.zero_le _⟩ rfl dX3_fewestYawns_14 rfl (fun H locs hP hS => ?_)
  refine lv_iload_n hx hb dX3_fewestYawns_17 rfl (lv_at hl 3 rfl) ?_
  obtain ⟨o5, hc6, h⟩ := bnd_some h
  refine cS_i (rest := []) (w2 := (wd_X3_fewestYawns cy a_v a_v_draft a_v_draft_facts a_v_draft_places a_v_least a_u1 a_u1_facts a_u1_places a_v_bestPlaces a_v_startsLeft o1.1 o1.2.1 o1.2.2.1 o1.2.2.2 o3.1 o3.2 u1_boxes u1_startsAt u1_facts u1_places)) ⟨hx, hb, hml, hown, hts⟩ (c_X5_least l D cy sa x3 o5 hc6) (va_cwS 1 hts gX3_fewestYawns_X5_least rfl rfl rfl (by decide +kernel) ⟨Nat.le_of_ble_eq_true rfl, Nat.le_of_ble_eq_true rfl⟩) hE hP hDD rfl hS [] rfl rfl rfl rfl hl.1 (Nat.le_of_ble_eq_true rfl) ⟨Nat.zero_le _, Nat.zero_le _⟩ rfl dX3_fewestYawns_18 rfl (fun H locs hP hS => ?_)
  refine lv_istore (lv' := [(4, .int (zI o5)), (0, .ref a_v), (1, .ref a_u1), (2, .int (zI x2)), (3, .int (zI x3))]) hx hb dX3_fewestYawns_21 hl (by decide) rfl (fun ls hl => ?_)
  obtain ⟨o19, hx20, h⟩ := bnd_some h
  refine L23 5000 o1.1 o1.2.1 o1.2.2.1 o1.2.2.2 o3.1 o3.2 x2 x3 o5 _ _ _ _ hP hS (lv_sub hl [1, 3, 4, 0] rfl) hx20 ?_
  clear hx20
  intro H locs ls hP hS hl
  obtain rfl := Option.some.inj h
  exact KR _ _ _ _ hP hS dX3_fewestYawns_66
abbrev wd_X2_beginAnew (cy : Nat → ClassId) (a_v : Nat) (a_v_ways : Nat) (v_upper : Int) (v_lower : Int) (v_ways : Nat → Int) : va_W := [(a_v, .inr (2, [.ref a_v_ways, .long (zL v_upper), .long (zL v_lower)])), (a_v_ways, .inl (cy 2, 6, .inr (.inl (fun j => zL (v_ways j)))))]
set_option maxHeartbeats 4000000 in
set_option maxRecDepth 100000 in
theorem c_X2_beginAnew (l : Launch) (D : va_G) (cy : Nat → ClassId) (sa : Nat → Nat) (a_v : Nat) (a_v_ways : Nat) (v_upper : Int) (v_lower : Int) (v_ways : Nat → Int) (o : Int × Int × (Nat → Int)) (h : f_Odds_beginAnew v_upper v_lower v_ways = some o) : CtV l yX2_beginAnew wsX2_beginAnew ({ frames := 0, cells := 0, slots := 0, locals := 0 }) D cy sa [.ref a_v] (wd_X2_beginAnew cy a_v a_v_ways v_upper v_lower v_ways) (wd_X2_beginAnew cy a_v a_v_ways o.1 o.2.1 o.2.2)  := by
  refine ct_V (cc := cX2_beginAnew) (maxL := 2) (plainFor_of_name (by decide)) rfl (Nat.le_of_ble_eq_true rfl) ?_
  intro p e s m below meth c A args QQ hx hb hml hown hts hE hDD hP KR ls hl
  have hl : lv_has ls 2 [(0, .ref a_v)] := hl
  have hDD : DD A [a_v, a_v_ways] := hDD
  have hS : va_S A s.heap s.heap [] := va_S.rf
  have q0 := hts (.fieldLink RX2 11 "HatHours$Odds" "ways" "[J") (List.mem_of_getElem? (i := 1) rfl)
  have q1 := hts (.fieldLink RX2 17 "HatHours$Odds" "upper" "J") (List.mem_of_getElem? (i := 2) rfl)
  have q2 := hts (.fieldLink RX2 21 "HatHours$Odds" "lower" "J") (List.mem_of_getElem? (i := 3) rfl)
  have iX2 : ∀ w ∈ u_ws RX2 TX2 3, w ∈ wsX2_beginAnew := in_slice 4 3 rfl
  have L2 : ∀ (fuel : Nat) (v_upper : Int) (v_lower : Int) (v_ways : Nat → Int) (x1 : Int) (H : Heap) (locs : List Loc) (ls : Array Slot) (ex : (Nat → Int)), va_P D vwCl (wd_X2_beginAnew cy a_v a_v_ways v_upper v_lower v_ways) H → va_S A s.heap H locs → lv_has ls 2 [(0, .ref a_v), (1, .int (zI x1))] → f_Odds_beginAnew_L2 fuel v_ways x1 = some ex → (∀ (H : Heap) (locs : List Loc) (ls : Array Slot), va_P D vwCl (wd_X2_beginAnew cy a_v a_v_ways v_upper v_lower ex) H → va_S A s.heap H locs → lv_has ls 2 [(0, .ref a_v)] → W p l e { frames := 0, cells := 0, slots := 0, locals := 0 } s m args below meth c H locs 0 0 QQ (F0 m 24 ls [])) → W p l e { frames := 0, cells := 0, slots := 0, locals := 0 } s m args below meth c H locs 0 0 QQ (F0 m 2 ls []) := by
    intro fuel
    induction fuel with
    | zero => intro _ _ _ _ H locs ls ex hP hS hl h K; cases h
    | succ fuel ih =>
      intro v_upper v_lower v_ways x1 H locs ls ex hP hS hl h K
      refine lv_iload_n hx hb dX2_beginAnew_2 rfl (lv_at hl 1 rfl) ?_
      refine lv_aload_n hx hb dX2_beginAnew_3 rfl (lv_at hl 0 rfl) ?_
      refine wi_get (v := .ref a_v_ways) hx hb hts iX2 hown hE hP 0 rfl rfl 0 (by decide) q0 rfl dX2_beginAnew_4 ?_
      refine wi_alen (n := 6) hx hb hE hP 1 2 rfl rfl rfl dX2_beginAnew_7 ?_
      obtain ⟨hr1, h⟩ := chk_some h
      refine wi_ic_ge (tgt := 24) hx hb dX2_beginAnew_8 (by decide) hr1 (by decide) (fun c3 => ?_) (fun c3 => ?_)
      · have h := ite_t c3 h
        obtain rfl := Option.some.inj h
        exact K _ _ _ hP hS (lv_sub hl [0] rfl)
      · have h := ite_f c3 h
        refine lv_aload_n hx hb dX2_beginAnew_11 rfl (lv_at hl 0 rfl) ?_
        refine wi_get (v := .ref a_v_ways) hx hb hts iX2 hown hE hP 0 rfl rfl 0 (by decide) q0 rfl dX2_beginAnew_12 ?_
        refine lv_iload_n hx hb dX2_beginAnew_15 rfl (lv_at hl 1 rfl) ?_
        refine wi_lc (v := 0) hx hb dX2_beginAnew_16 rfl ?_
        obtain ⟨hk4, h⟩ := chk_some h
        refine wi_last (w2 := (wd_X2_beginAnew cy a_v a_v_ways v_upper v_lower (upZ v_ways (x1).toNat 0))) hx hb hE hP hDD rfl hS 1 rfl (by decide) hk4 dX2_beginAnew_17 rfl (fun H locs hP hS => ?_)
        refine wi_iinc (k := 1) (lv' := [(1, .int (zI (x1 + 1))), (0, .ref a_v)]) hx hb dX2_beginAnew_18 hl rfl (by decide) rfl (fun ls hl => ?_)
        refine lv_goto (tgt := 2) hx hb dX2_beginAnew_21 (by decide) ?_
        exact ih v_upper v_lower (upZ v_ways (x1).toNat 0) (x1 + 1) _ _ _ _ hP hS (lv_sub hl [1, 0] rfl) h K
  refine wi_ic hx hb dX2_beginAnew_0 ?_
  refine lv_istore_n (lv' := [(1, .int (zI 1)), (0, .ref a_v)]) hx hb dX2_beginAnew_1 rfl hl (by decide) rfl (fun ls hl => ?_)
  obtain ⟨o5, hx6, h⟩ := bnd_some h
  refine L2 5000 v_upper v_lower v_ways 1 _ _ _ _ hP hS (lv_sub hl [1, 0] rfl) hx6 ?_
  clear hx6
  intro H locs ls hP hS hl
  refine lv_aload_n hx hb dX2_beginAnew_24 rfl (lv_at hl 0 rfl) ?_
  refine wi_get (v := .ref a_v_ways) hx hb hts iX2 hown hE hP 0 rfl rfl 0 (by decide) q0 rfl dX2_beginAnew_25 ?_
  refine wi_ic hx hb dX2_beginAnew_28 ?_
  refine wi_lc (v := 1) hx hb dX2_beginAnew_29 rfl ?_
  refine wi_last (w2 := (wd_X2_beginAnew cy a_v a_v_ways v_upper v_lower (upZ o5 0 1))) hx hb hE hP hDD rfl hS 1 rfl (by decide) (by decide) dX2_beginAnew_30 rfl (fun H locs hP hS => ?_)
  refine lv_aload_n hx hb dX2_beginAnew_31 rfl (lv_at hl 0 rfl) ?_
  refine wi_lc (v := 0) hx hb dX2_beginAnew_32 rfl ?_
  refine wi_put (ty := .long) (v := .long (zL 0)) (w2 := (wd_X2_beginAnew cy a_v a_v_ways 0 v_lower (upZ o5 0 1))) hx hb hts iX2 tyX2 tyX2_ok nmX2 hown hE hP hDD rfl hS 0 rfl rfl 1 (by decide) q1 rfl (by decide +kernel) rfl rfl (Nat.le_of_ble_eq_true rfl) dX2_beginAnew_33 rfl (fun H locs hP hS => ?_)
  refine lv_aload_n hx hb dX2_beginAnew_36 rfl (lv_at hl 0 rfl) ?_
  refine wi_lc (v := 1) hx hb dX2_beginAnew_37 rfl ?_
  refine wi_put (ty := .long) (v := .long (zL 1)) (w2 := (wd_X2_beginAnew cy a_v a_v_ways 0 1 (upZ o5 0 1))) hx hb hts iX2 tyX2 tyX2_ok nmX2 hown hE hP hDD rfl hS 0 rfl rfl 2 (by decide) q2 rfl (by decide +kernel) rfl rfl (Nat.le_of_ble_eq_true rfl) dX2_beginAnew_38 rfl (fun H locs hP hS => ?_)
  obtain rfl := Option.some.inj h
  exact KR _ _ _ _ hP hS dX2_beginAnew_41
abbrev wd_X2_passBox (cy : Nat → ClassId) (a_v : Nat) (a_v_ways : Nat) (v_upper : Int) (v_lower : Int) (v_ways : Nat → Int) : va_W := [(a_v, .inr (2, [.ref a_v_ways, .long (zL v_upper), .long (zL v_lower)])), (a_v_ways, .inl (cy 2, 6, .inr (.inl (fun j => zL (v_ways j)))))]
set_option maxHeartbeats 4000000 in
set_option maxRecDepth 100000 in
theorem c_X2_passBox (l : Launch) (D : va_G) (cy : Nat → ClassId) (sa : Nat → Nat) (a_v : Nat) (a_v_ways : Nat) (v_upper : Int) (v_lower : Int) (v_ways : Nat → Int) (x1 : Int) (o : Int × Int × (Nat → Int)) (h : f_Odds_passBox v_upper v_lower v_ways x1 = some o) : CtV l yX2_passBox wsX2_passBox ({ frames := 0, cells := 0, slots := 0, locals := 0 }) D cy sa [.ref a_v, .int (zI x1)] (wd_X2_passBox cy a_v a_v_ways v_upper v_lower v_ways) (wd_X2_passBox cy a_v a_v_ways o.1 o.2.1 o.2.2)  := by
  refine ct_V (cc := cX2_passBox) (maxL := 3) (plainFor_of_name (by decide)) rfl (Nat.le_of_ble_eq_true rfl) ?_
  intro p e s m below meth c A args QQ hx hb hml hown hts hE hDD hP KR ls hl
  have hl : lv_has ls 3 [(0, .ref a_v), (1, .int (zI x1))] := hl
  have hDD : DD A [a_v, a_v_ways] := hDD
  have hS : va_S A s.heap s.heap [] := va_S.rf
  have q0 := hts (.fieldLink RX2 11 "HatHours$Odds" "ways" "[J") (List.mem_of_getElem? (i := 1) rfl)
  have q1 := hts (.fieldLink RX2 17 "HatHours$Odds" "upper" "J") (List.mem_of_getElem? (i := 2) rfl)
  have q2 := hts (.constantLong RX2 55 (10)) (List.mem_of_getElem? (i := 3) rfl)
  have q3 := hts (.fieldLink RX2 21 "HatHours$Odds" "lower" "J") (List.mem_of_getElem? (i := 4) rfl)
  have iX2 : ∀ w ∈ u_ws RX2 TX2 3, w ∈ wsX2_passBox := in_slice 5 3 rfl
  have L8 : ∀ (fuel : Nat) (v_upper : Int) (v_lower : Int) (v_ways : Nat → Int) (x1 : Int) (x2 : Int) (H : Heap) (locs : List Loc) (ls : Array Slot) (ex : (Nat → Int)), va_P D vwCl (wd_X2_passBox cy a_v a_v_ways v_upper v_lower v_ways) H → va_S A s.heap H locs → lv_has ls 3 [(0, .ref a_v), (1, .int (zI x1)), (2, .int (zI x2))] → f_Odds_passBox_L8 fuel v_ways x1 x2 = some ex → (∀ (H : Heap) (locs : List Loc) (ls : Array Slot), va_P D vwCl (wd_X2_passBox cy a_v a_v_ways v_upper v_lower ex) H → va_S A s.heap H locs → lv_has ls 3 [(0, .ref a_v), (1, .int (zI x1))] → W p l e { frames := 0, cells := 0, slots := 0, locals := 0 } s m args below meth c H locs 0 0 QQ (F0 m 48 ls [])) → W p l e { frames := 0, cells := 0, slots := 0, locals := 0 } s m args below meth c H locs 0 0 QQ (F0 m 8 ls []) := by
    intro fuel
    induction fuel with
    | zero => intro _ _ _ _ _ H locs ls ex hP hS hl h K; cases h
    | succ fuel ih =>
      intro v_upper v_lower v_ways x1 x2 H locs ls ex hP hS hl h K
      refine lv_iload_n hx hb dX2_passBox_8 rfl (lv_at hl 2 rfl) ?_
      obtain ⟨hr1, h⟩ := chk_some h
      refine wi_if_le (tgt := 48) hx hb dX2_passBox_9 (by decide) hr1 (fun c3 => ?_) (fun c3 => ?_)
      · have h := ite_t c3 h
        obtain rfl := Option.some.inj h
        exact K _ _ _ hP hS (lv_sub hl [0, 1] rfl)
      · have h := ite_f c3 h
        refine lv_aload_n hx hb dX2_passBox_12 rfl (lv_at hl 0 rfl) ?_
        refine wi_get (v := .ref a_v_ways) hx hb hts iX2 hown hE hP 0 rfl rfl 0 (by decide) q0 rfl dX2_passBox_13 ?_
        refine lv_iload_n hx hb dX2_passBox_16 rfl (lv_at hl 2 rfl) ?_
        refine lv_aload_n hx hb dX2_passBox_17 rfl (lv_at hl 0 rfl) ?_
        refine wi_get (v := .ref a_v_ways) hx hb hts iX2 hown hE hP 0 rfl rfl 0 (by decide) q0 rfl dX2_passBox_18 ?_
        refine lv_iload_n hx hb dX2_passBox_21 rfl (lv_at hl 2 rfl) ?_
        obtain ⟨hk4, h⟩ := chk_some h
        refine wi_lald hx hb hE hP 1 rfl (by decide) hk4 dX2_passBox_22 ?_
        refine wi_bi hx hb dX2_passBox_23 (by decide) ?_
        refine lv_iload_n hx hb dX2_passBox_25 rfl (lv_at hl 1 rfl) ?_
        refine wi_isub hx hb dX2_passBox_26 ?_
        obtain ⟨hr5, h⟩ := chk_some h
        refine wi_i2l hx hb dX2_passBox_27 hr5 ?_
        refine wi_lmul hx hb dX2_passBox_28 ?_
        refine lv_aload_n hx hb dX2_passBox_29 rfl (lv_at hl 0 rfl) ?_
        refine wi_get (v := .ref a_v_ways) hx hb hts iX2 hown hE hP 0 rfl rfl 0 (by decide) q0 rfl dX2_passBox_30 ?_
        refine lv_iload_n hx hb dX2_passBox_33 rfl (lv_at hl 2 rfl) ?_
        refine wi_ic hx hb dX2_passBox_34 ?_
        refine wi_isub hx hb dX2_passBox_35 ?_
        obtain ⟨hk6, h⟩ := chk_some h
        refine wi_lald hx hb hE hP 1 rfl (by decide) hk6 dX2_passBox_36 ?_
        refine lv_iload_n hx hb dX2_passBox_37 rfl (lv_at hl 1 rfl) ?_
        obtain ⟨hr7, h⟩ := chk_some h
        refine wi_i2l hx hb dX2_passBox_38 hr7 ?_
        refine wi_lmul hx hb dX2_passBox_39 ?_
        refine wi_ladd hx hb dX2_passBox_40 ?_
        refine wi_last (w2 := (wd_X2_passBox cy a_v a_v_ways v_upper v_lower (upZ v_ways (x2).toNat (((v_ways (x2).toNat) * (10 - x1)) + ((v_ways (x2 - 1).toNat) * x1))))) hx hb hE hP hDD rfl hS 1 rfl (by decide) hk4 dX2_passBox_41 rfl (fun H locs hP hS => ?_)
        refine wi_iinc (k := 2) (lv' := [(2, .int (zI (x2 + (-1)))), (0, .ref a_v), (1, .int (zI x1))]) hx hb dX2_passBox_42 hl rfl (by decide) rfl (fun ls hl => ?_)
        refine lv_goto (tgt := 8) hx hb dX2_passBox_45 (by decide) ?_
        exact ih v_upper v_lower (upZ v_ways (x2).toNat (((v_ways (x2).toNat) * (10 - x1)) + ((v_ways (x2 - 1).toNat) * x1))) x1 (x2 + (-1)) _ _ _ _ hP hS (lv_sub hl [1, 2, 0] rfl) h K
  refine lv_aload_n hx hb dX2_passBox_0 rfl (lv_at hl 0 rfl) ?_
  refine wi_get (v := .ref a_v_ways) hx hb hts iX2 hown hE hP 0 rfl rfl 0 (by decide) q0 rfl dX2_passBox_1 ?_
  refine wi_alen (n := 6) hx hb hE hP 1 2 rfl rfl rfl dX2_passBox_4 ?_
  refine wi_ic hx hb dX2_passBox_5 ?_
  refine wi_isub hx hb dX2_passBox_6 ?_
  refine lv_istore_n (lv' := [(2, .int (zI (6 - 1))), (0, .ref a_v), (1, .int (zI x1))]) hx hb dX2_passBox_7 rfl hl (by decide) rfl (fun ls hl => ?_)
  obtain ⟨o8, hx9, h⟩ := bnd_some h
  refine L8 5000 v_upper v_lower v_ways x1 (6 - 1) _ _ _ _ hP hS (lv_sub hl [1, 2, 0] rfl) hx9 ?_
  clear hx9
  intro H locs ls hP hS hl
  refine lv_aload_n hx hb dX2_passBox_48 rfl (lv_at hl 0 rfl) ?_
  refine wi_get (v := .ref a_v_ways) hx hb hts iX2 hown hE hP 0 rfl rfl 0 (by decide) q0 rfl dX2_passBox_49 ?_
  refine wi_ic hx hb dX2_passBox_52 ?_
  refine lv_dup2_11 hx hb dX2_passBox_53 rfl rfl ?_
  refine wi_lald hx hb hE hP 1 rfl (by decide) (by decide) dX2_passBox_54 ?_
  refine wi_bi hx hb dX2_passBox_55 (by decide) ?_
  refine lv_iload_n hx hb dX2_passBox_57 rfl (lv_at hl 1 rfl) ?_
  refine wi_isub hx hb dX2_passBox_58 ?_
  obtain ⟨hr10, h⟩ := chk_some h
  refine wi_i2l hx hb dX2_passBox_59 hr10 ?_
  refine wi_lmul hx hb dX2_passBox_60 ?_
  refine wi_last (w2 := (wd_X2_passBox cy a_v a_v_ways v_upper v_lower (upZ o8 0 ((o8 0) * (10 - x1))))) hx hb hE hP hDD rfl hS 1 rfl (by decide) (by decide) dX2_passBox_61 rfl (fun H locs hP hS => ?_)
  refine lv_aload_n hx hb dX2_passBox_62 rfl (lv_at hl 0 rfl) ?_
  refine lv_dup hx hb dX2_passBox_63 rfl ?_
  refine wi_get (v := .long (zL v_upper)) hx hb hts iX2 hown hE hP 0 rfl rfl 1 (by decide) q1 rfl dX2_passBox_64 ?_
  refine wi_ldc2 (n := 10) hx hb hown q2 dX2_passBox_67 rfl ?_
  refine wi_lmul hx hb dX2_passBox_70 ?_
  refine wi_put (ty := .long) (v := .long (zL (v_upper * 10))) (w2 := (wd_X2_passBox cy a_v a_v_ways (v_upper * 10) v_lower (upZ o8 0 ((o8 0) * (10 - x1))))) hx hb hts iX2 tyX2 tyX2_ok nmX2 hown hE hP hDD rfl hS 0 rfl rfl 1 (by decide) q1 rfl (by decide +kernel) rfl rfl (Nat.le_of_ble_eq_true rfl) dX2_passBox_71 rfl (fun H locs hP hS => ?_)
  refine lv_aload_n hx hb dX2_passBox_74 rfl (lv_at hl 0 rfl) ?_
  refine lv_dup hx hb dX2_passBox_75 rfl ?_
  refine wi_get (v := .long (zL v_lower)) hx hb hts iX2 hown hE hP 0 rfl rfl 2 (by decide) q3 rfl dX2_passBox_76 ?_
  refine wi_ldc2 (n := 10) hx hb hown q2 dX2_passBox_79 rfl ?_
  refine wi_lmul hx hb dX2_passBox_82 ?_
  refine wi_put (ty := .long) (v := .long (zL (v_lower * 10))) (w2 := (wd_X2_passBox cy a_v a_v_ways (v_upper * 10) (v_lower * 10) (upZ o8 0 ((o8 0) * (10 - x1))))) hx hb hts iX2 tyX2 tyX2_ok nmX2 hown hE hP hDD rfl hS 0 rfl rfl 2 (by decide) q3 rfl (by decide +kernel) rfl rfl (Nat.le_of_ble_eq_true rfl) dX2_passBox_83 rfl (fun H locs hP hS => ?_)
  obtain rfl := Option.some.inj h
  exact KR _ _ _ _ hP hS dX2_passBox_86
abbrev wd_X2_reduce (cy : Nat → ClassId) (a_v : Nat) (a_v_ways : Nat) (v_upper : Int) (v_lower : Int) : va_W := [(a_v, .inr (2, [.ref a_v_ways, .long (zL v_upper), .long (zL v_lower)]))]
set_option maxHeartbeats 4000000 in
set_option maxRecDepth 100000 in
theorem c_X2_reduce (l : Launch) (D : va_G) (cy : Nat → ClassId) (sa : Nat → Nat) (a_v : Nat) (a_v_ways : Nat) (v_upper : Int) (v_lower : Int) (o : Int × Int) (h : f_Odds_reduce v_upper v_lower = some o) : CtV l yX2_reduce wsX2_reduce ({ frames := 0, cells := 0, slots := 0, locals := 0 }) D cy sa [.ref a_v] (wd_X2_reduce cy a_v a_v_ways v_upper v_lower) (wd_X2_reduce cy a_v a_v_ways o.1 o.2)  := by
  refine ct_V (cc := cX2_reduce) (maxL := 8) (plainFor_of_name (by decide)) rfl (Nat.le_of_ble_eq_true rfl) ?_
  intro p e s m below meth c A args QQ hx hb hml hown hts hE hDD hP KR ls hl
  have hl : lv_has ls 8 [(0, .ref a_v)] := hl
  have hDD : DD A [a_v] := hDD
  have hS : va_S A s.heap s.heap [] := va_S.rf
  have q0 := hts (.fieldLink RX2 21 "HatHours$Odds" "lower" "J") (List.mem_of_getElem? (i := 1) rfl)
  have q1 := hts (.fieldLink RX2 17 "HatHours$Odds" "upper" "J") (List.mem_of_getElem? (i := 2) rfl)
  have iX2 : ∀ w ∈ u_ws RX2 TX2 3, w ∈ wsX2_reduce := in_slice 3 3 rfl
  have L13 : ∀ (fuel : Nat) (v_upper : Int) (v_lower : Int) (x1 : Int) (x3 : Int) (x5 : Int) (H : Heap) (locs : List Loc) (ls : Array Slot) (ex : Int), va_P D vwCl (wd_X2_reduce cy a_v a_v_ways v_upper v_lower) H → va_S A s.heap H locs → lv_has ls 8 [(0, .ref a_v), (1, .long (zL x1)), (3, .long (zL x3)), (5, .int (zI x5))] → f_Odds_reduce_L13 fuel x1 x3 x5 = some ex → (∀ (H : Heap) (locs : List Loc) (ls : Array Slot), va_P D vwCl (wd_X2_reduce cy a_v a_v_ways v_upper v_lower) H → va_S A s.heap H locs → lv_has ls 8 [(0, .ref a_v), (1, .long (zL ex))] → W p l e { frames := 0, cells := 0, slots := 0, locals := 0 } s m args below meth c H locs 0 0 QQ (F0 m 42 ls [])) → W p l e { frames := 0, cells := 0, slots := 0, locals := 0 } s m args below meth c H locs 0 0 QQ (F0 m 13 ls []) := by
    intro fuel
    induction fuel with
    | zero => intro _ _ _ _ _ H locs ls ex hP hS hl h K; cases h
    | succ fuel ih =>
      intro v_upper v_lower x1 x3 x5 H locs ls ex hP hS hl h K
      refine lv_iload hx hb dX2_reduce_13 (lv_at hl 3 rfl) ?_
      refine wi_bi hx hb dX2_reduce_15 (by decide) ?_
      obtain ⟨hr1, h⟩ := chk_some h
      refine wi_ic_ge (tgt := 42) hx hb dX2_reduce_17 (by decide) hr1 (by decide) (fun c3 => ?_) (fun c3 => ?_)
      · have h := ite_t c3 h
        obtain rfl := Option.some.inj h
        exact K _ _ _ hP hS (lv_sub hl [0, 1] rfl)
      · have h := ite_f c3 h
        refine lv_lload_n hx hb dX2_reduce_20 rfl (lv_at hl 2 rfl) ?_
        refine wi_lc (v := 0) hx hb dX2_reduce_21 rfl ?_
        obtain ⟨hk4, h⟩ := chk_some h
        refine wi_lcmp hx hb dX2_reduce_22 hk4 (by decide) ?_
        refine wi_if_eq (tgt := 42) hx hb dX2_reduce_23 (by decide) (cmpZ_inR _ _) (fun c6 => ?_) (fun c6 => ?_)
        · have h := ite_t c6 h
          obtain rfl := Option.some.inj h
          exact K _ _ _ hP hS (lv_sub hl [0, 1] rfl)
        · have h := ite_f c6 h
          refine lv_lload_n hx hb dX2_reduce_26 rfl (lv_at hl 1 rfl) ?_
          refine lv_lload_n hx hb dX2_reduce_27 rfl (lv_at hl 2 rfl) ?_
          obtain ⟨hk7, h⟩ := chk_some h
          refine wi_lrem hx hb dX2_reduce_28 hk7 ?_
          refine lv_lstore (lv' := [(6, .long (zL (x1 % x3))), (0, .ref a_v), (1, .long (zL x1)), (3, .long (zL x3)), (5, .int (zI x5))]) hx hb dX2_reduce_29 hl (by decide) rfl (fun ls hl => ?_)
          refine lv_lload_n hx hb dX2_reduce_31 rfl (lv_at hl 3 rfl) ?_
          refine lv_lstore_n (lv' := [(1, .long (zL x3)), (6, .long (zL (x1 % x3))), (0, .ref a_v), (3, .long (zL x3)), (5, .int (zI x5))]) hx hb dX2_reduce_32 rfl hl (by decide) rfl (fun ls hl => ?_)
          refine lv_lload hx hb dX2_reduce_33 (lv_at hl 1 rfl) ?_
          refine lv_lstore_n (lv' := [(3, .long (zL (x1 % x3))), (1, .long (zL x3)), (6, .long (zL (x1 % x3))), (0, .ref a_v), (5, .int (zI x5))]) hx hb dX2_reduce_35 rfl hl (by decide) rfl (fun ls hl => ?_)
          refine wi_iinc (k := 4) (lv' := [(5, .int (zI (x5 + 1))), (3, .long (zL (x1 % x3))), (1, .long (zL x3)), (6, .long (zL (x1 % x3))), (0, .ref a_v)]) hx hb dX2_reduce_36 hl rfl (by decide) rfl (fun ls hl => ?_)
          refine lv_goto (tgt := 13) hx hb dX2_reduce_39 (by decide) ?_
          exact ih v_upper v_lower x3 (x1 % x3) (x5 + 1) _ _ _ _ hP hS (lv_sub hl [4, 2, 1, 0] rfl) h K
  refine lv_aload_n hx hb dX2_reduce_0 rfl (lv_at hl 0 rfl) ?_
  refine wi_get (v := .long (zL v_lower)) hx hb hts iX2 hown hE hP 0 rfl rfl 2 (by decide) q0 rfl dX2_reduce_1 ?_
  refine lv_lstore_n (lv' := [(1, .long (zL v_lower)), (0, .ref a_v)]) hx hb dX2_reduce_4 rfl hl (by decide) rfl (fun ls hl => ?_)
  refine lv_aload_n hx hb dX2_reduce_5 rfl (lv_at hl 1 rfl) ?_
  refine wi_get (v := .long (zL v_upper)) hx hb hts iX2 hown hE hP 0 rfl rfl 1 (by decide) q1 rfl dX2_reduce_6 ?_
  refine lv_lstore_n (lv' := [(3, .long (zL v_upper)), (1, .long (zL v_lower)), (0, .ref a_v)]) hx hb dX2_reduce_9 rfl hl (by decide) rfl (fun ls hl => ?_)
  refine wi_ic hx hb dX2_reduce_10 ?_
  refine lv_istore (lv' := [(5, .int (zI 0)), (3, .long (zL v_upper)), (1, .long (zL v_lower)), (0, .ref a_v)]) hx hb dX2_reduce_11 hl (by decide) rfl (fun ls hl => ?_)
  obtain ⟨o8, hx9, h⟩ := bnd_some h
  refine L13 5000 v_upper v_lower v_lower v_upper 0 _ _ _ _ hP hS (lv_sub hl [3, 2, 1, 0] rfl) hx9 ?_
  clear hx9
  intro H locs ls hP hS hl
  refine lv_lload_n hx hb dX2_reduce_42 rfl (lv_at hl 1 rfl) ?_
  refine wi_lc (v := 0) hx hb dX2_reduce_43 rfl ?_
  obtain ⟨hk10, h⟩ := chk_some h
  refine wi_lcmp hx hb dX2_reduce_44 hk10 (by decide) ?_
  refine wi_if_le (tgt := 68) hx hb dX2_reduce_45 (by decide) (cmpZ_inR _ _) (fun c12 => ?_) (fun c12 => ?_)
  · have h := ite_t c12 h
    obtain rfl := Option.some.inj h
    exact KR _ _ _ _ hP hS dX2_reduce_68
  · have h := ite_f c12 h
    refine lv_aload_n hx hb dX2_reduce_48 rfl (lv_at hl 0 rfl) ?_
    refine lv_dup hx hb dX2_reduce_49 rfl ?_
    refine wi_get (v := .long (zL v_upper)) hx hb hts iX2 hown hE hP 0 rfl rfl 1 (by decide) q1 rfl dX2_reduce_50 ?_
    refine lv_lload_n hx hb dX2_reduce_53 rfl (lv_at hl 1 rfl) ?_
    obtain ⟨hk13, h⟩ := chk_some h
    refine wi_ldiv hx hb dX2_reduce_54 hk13 ?_
    refine wi_put (ty := .long) (v := .long (zL (v_upper / o8))) (w2 := (wd_X2_reduce cy a_v a_v_ways (v_upper / o8) v_lower)) hx hb hts iX2 tyX2 tyX2_ok nmX2 hown hE hP hDD rfl hS 0 rfl rfl 1 (by decide) q1 rfl (by decide +kernel) rfl rfl (Nat.le_of_ble_eq_true rfl) dX2_reduce_55 rfl (fun H locs hP hS => ?_)
    refine lv_aload_n hx hb dX2_reduce_58 rfl (lv_at hl 0 rfl) ?_
    refine lv_dup hx hb dX2_reduce_59 rfl ?_
    refine wi_get (v := .long (zL v_lower)) hx hb hts iX2 hown hE hP 0 rfl rfl 2 (by decide) q0 rfl dX2_reduce_60 ?_
    refine lv_lload_n hx hb dX2_reduce_63 rfl (lv_at hl 1 rfl) ?_
    obtain ⟨hk14, h⟩ := chk_some h
    refine wi_ldiv hx hb dX2_reduce_64 hk14 ?_
    refine wi_put (ty := .long) (v := .long (zL (v_lower / o8))) (w2 := (wd_X2_reduce cy a_v a_v_ways (v_upper / o8) (v_lower / o8))) hx hb hts iX2 tyX2 tyX2_ok nmX2 hown hE hP hDD rfl hS 0 rfl rfl 2 (by decide) q0 rfl (by decide +kernel) rfl rfl (Nat.le_of_ble_eq_true rfl) dX2_reduce_65 rfl (fun H locs hP hS => ?_)
    obtain rfl := Option.some.inj h
    exact KR _ _ _ _ hP hS dX2_reduce_68
