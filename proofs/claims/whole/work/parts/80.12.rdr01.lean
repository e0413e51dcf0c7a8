abbrev wd_X8_takesOrderLine (cy : Nat → ClassId) (a_v : Nat) (a_v_ahead : Nat) (a_v_tape : Nat) (a_v_tape_bytes : Nat) (a_v_draft : Nat) (v_aheadUsed : Int) (v_orderTold : Int) (v_startTold : Int) (v_lines : Int) (v_foundFault : Int) (v_foundPlace : Int) (v_next : Int) (v_token : Int) (v_tokenPlace : Int) (v_number : Int) (v_ahead : Nat → Int) (v_tape_used : Int) (v_tape_bytes : Nat → Int) : va_W := [(a_v, .inr (8, [.ref a_v_tape, .ref a_v_draft, .ref a_v_ahead, .int (zI v_aheadUsed), .int (zI v_orderTold), .int (zI v_startTold), .int (zI v_lines), .int (zI v_foundFault), .int (zI v_foundPlace), .int (zI v_next), .int (zI v_token), .int (zI v_tokenPlace), .int (zI v_number)])), (a_v_ahead, .inl (cy 0, 5, .inl (fun j => zI (v_ahead j)))), (a_v_tape, .inr (7, [.ref a_v_tape_bytes, .int (zI v_tape_used)])), (a_v_tape_bytes, .inl (cy 1, 160, .inl (fun j => zI (v_tape_bytes j))))]
set_option maxHeartbeats 4000000 in
set_option maxRecDepth 100000 in
theorem c_X8_takesOrderLine (l : Launch) (D : va_G) (cy : Nat → ClassId) (sa : Nat → Nat) (a_v : Nat) (a_v_ahead : Nat) (a_v_tape : Nat) (a_v_tape_bytes : Nat) (a_v_draft : Nat) (v_aheadUsed : Int) (v_orderTold : Int) (v_startTold : Int) (v_lines : Int) (v_foundFault : Int) (v_foundPlace : Int) (v_next : Int) (v_token : Int) (v_tokenPlace : Int) (v_number : Int) (v_ahead : Nat → Int) (v_tape_used : Int) (v_tape_bytes : Nat → Int) (o : Int × Int × Int × Int × Int × Int × Int × Int × Int × (Nat → Int)) (h : f_TextReader_takesOrderLine v_aheadUsed v_orderTold v_foundFault v_foundPlace v_next v_token v_tokenPlace v_number v_ahead v_tape_used v_tape_bytes = some o) : CtI l yX8_takesOrderLine wsX8_takesOrderLine ({ frames := 3, cells := 0, slots := 0, locals := 62 }) D cy sa [.ref a_v] (wd_X8_takesOrderLine cy a_v a_v_ahead a_v_tape a_v_tape_bytes a_v_draft v_aheadUsed v_orderTold v_startTold v_lines v_foundFault v_foundPlace v_next v_token v_tokenPlace v_number v_ahead v_tape_used v_tape_bytes) (wd_X8_takesOrderLine cy a_v a_v_ahead a_v_tape a_v_tape_bytes a_v_draft o.2.1 o.2.2.1 v_startTold v_lines o.2.2.2.1 o.2.2.2.2.1 o.2.2.2.2.2.1 o.2.2.2.2.2.2.1 o.2.2.2.2.2.2.2.1 o.2.2.2.2.2.2.2.2.1 o.2.2.2.2.2.2.2.2.2 v_tape_used v_tape_bytes) o.1 := by
  refine ct_Z (cc := cX8_takesOrderLine) (maxL := 2) (plainFor_of_name (by decide)) rfl (Nat.le_of_ble_eq_true rfl) ?_
  intro p e s m below meth c A args QQ hx hb hml hown hts hE hDD hP KR ls hl
  have hl : lv_has ls 2 [(0, .ref a_v)] := hl
  have hDD : DD A [a_v, a_v_ahead, a_v_tape, a_v_tape_bytes] := hDD
  have hS : va_S A s.heap s.heap [] := va_S.rf
  have q0 := hts (.fieldLink RX8 26 "HatHours$TextReader" "orderTold" "Z") (List.mem_of_getElem? (i := 1) rfl)
  have q1 := hts (.fieldLink RX8 48 "HatHours$TextReader" "tokenPlace" "I") (List.mem_of_getElem? (i := 2) rfl)
  have q2 := hts (.fieldLink RX8 45 "HatHours$TextReader" "token" "I") (List.mem_of_getElem? (i := 3) rfl)
  have q3 := hts (.fieldLink RX8 51 "HatHours$TextReader" "number" "I") (List.mem_of_getElem? (i := 4) rfl)
  have q4 := hts (.fieldLink RX8 22 "HatHours$TextReader" "aheadUsed" "I") (List.mem_of_getElem? (i := 5) rfl)
  have q5 := hts (.fieldLink RX8 18 "HatHours$TextReader" "ahead" "[I") (List.mem_of_getElem? (i := 6) rfl)
  have iX8 : ∀ w ∈ u_ws RX8 TX8 13, w ∈ wsX8_takesOrderLine := in_slice 56 13 rfl
  have L24 : ∀ (fuel : Nat) (v_aheadUsed : Int) (v_orderTold : Int) (v_foundFault : Int) (v_foundPlace : Int) (v_next : Int) (v_token : Int) (v_tokenPlace : Int) (v_number : Int) (v_ahead : Nat → Int) (x1 : Int) (H : Heap) (locs : List Loc) (ls : Array Slot), va_P D vwCl (wd_X8_takesOrderLine cy a_v a_v_ahead a_v_tape a_v_tape_bytes a_v_draft v_aheadUsed v_orderTold v_startTold v_lines v_foundFault v_foundPlace v_next v_token v_tokenPlace v_number v_ahead v_tape_used v_tape_bytes) H → va_S A s.heap H locs → lv_has ls 2 [(0, .ref a_v), (1, .int (zI x1))] → f_TextReader_takesOrderLine_L24 fuel v_aheadUsed v_orderTold v_foundFault v_foundPlace v_next v_token v_tokenPlace v_number v_ahead v_tape_used v_tape_bytes x1 = some o → W p l e { frames := 3, cells := 0, slots := 0, locals := 62 } s m args below meth c H locs 0 0 QQ (F0 m 24 ls []) := by
    intro fuel
    induction fuel with
    | zero => intro _ _ _ _ _ _ _ _ _ _ H locs ls hP hS hl h; cases h
    | succ fuel ih =>
      intro v_aheadUsed v_orderTold v_foundFault v_foundPlace v_next v_token v_tokenPlace v_number v_ahead x1 H locs ls hP hS hl h
      refine lv_iload_n hx hb dX8_takesOrderLine_24 rfl (lv_at hl 1 rfl) ?_
      refine wi_ic hx hb dX8_takesOrderLine_25 ?_
      obtain ⟨hr4, h⟩ := chk_some h
      refine wi_ic_gt (tgt := 121) hx hb dX8_takesOrderLine_26 (by decide) hr4 (by decide) (fun c6 => ?_) (fun c6 => ?_)
      · have h := ite_t c6 h
        refine lv_aload_n hx hb dX8_takesOrderLine_121 rfl (lv_at hl 0 rfl) ?_
        refine wi_ic hx hb dX8_takesOrderLine_122 ?_
        refine lv_aload_n hx hb dX8_takesOrderLine_123 rfl (lv_at hl 0 rfl) ?_
        refine wi_get (v := .int (zI v_tokenPlace)) hx hb hts iX8 hown hE hP 0 rfl rfl 11 (by decide) q1 rfl dX8_takesOrderLine_124 ?_
        obtain ⟨o7, hc8, h⟩ := bnd_some h
        refine cV_i (rest := []) (w2 := (wd_X8_takesOrderLine cy a_v a_v_ahead a_v_tape a_v_tape_bytes a_v_draft v_aheadUsed v_orderTold v_startTold v_lines o7.2.1 o7.2.2 v_next v_token v_tokenPlace v_number v_ahead v_tape_used v_tape_bytes)) ⟨hx, hb, hml, hown, hts⟩ (c_X8_failed l D cy sa a_v a_v_tape a_v_draft a_v_ahead v_aheadUsed v_orderTold v_startTold v_lines v_foundFault v_foundPlace v_next v_token v_tokenPlace v_number 2 v_tokenPlace o7 hc8) (cwV 2 hts gX8_takesOrderLine_X8_failed rfl rfl rfl (by decide +kernel) ⟨Nat.le_of_ble_eq_true rfl, Nat.le_of_ble_eq_true rfl⟩) rfl rfl rfl hE hP hDD rfl hS [0] rfl rfl rfl rfl hl.1 (Nat.le_of_ble_eq_true rfl) ⟨Nat.zero_le _, Nat.zero_le _⟩ rfl dX8_takesOrderLine_127 rfl (fun H locs hP hS => ?_)
        obtain ⟨hk9, h⟩ := chk_some h
        obtain rfl := Option.some.inj h
        exact KR _ _ _ _ (z01 hk9) hP hS dX8_takesOrderLine_130
      · have h := ite_f c6 h
        refine lv_aload_n hx hb dX8_takesOrderLine_29 rfl (lv_at hl 0 rfl) ?_
        obtain ⟨o10, hc11, h⟩ := bnd_some h
        refine cV_i (rest := []) (w2 := (wd_X8_takesOrderLine cy a_v a_v_ahead a_v_tape a_v_tape_bytes a_v_draft v_aheadUsed v_orderTold v_startTold v_lines o10.2.1 o10.2.2.1 o10.2.2.2.1 o10.2.2.2.2.1 o10.2.2.2.2.2.1 o10.2.2.2.2.2.2 v_ahead v_tape_used v_tape_bytes)) ⟨hx, hb, hml, hown, hts⟩ (c_X8_takesToken l D cy sa a_v a_v_tape a_v_tape_bytes a_v_draft a_v_ahead v_aheadUsed v_orderTold v_startTold v_lines v_foundFault v_foundPlace v_next v_token v_tokenPlace v_number v_tape_used v_tape_bytes o10 hc11) (cwV 0 hts gX8_takesOrderLine_X8_takesToken rfl rfl rfl (by decide +kernel) ⟨Nat.le_of_ble_eq_true rfl, Nat.le_of_ble_eq_true rfl⟩) rfl rfl rfl hE hP hDD rfl hS [0, 2, 3] rfl rfl rfl rfl hl.1 (Nat.le_of_ble_eq_true rfl) ⟨Nat.zero_le _, Nat.zero_le _⟩ rfl dX8_takesOrderLine_30 rfl (fun H locs hP hS => ?_)
        obtain ⟨hr12, h⟩ := chk_some h
        refine wi_if_ne (tgt := 38) hx hb dX8_takesOrderLine_33 (by decide) hr12 (fun c14 => ?_) (fun c14 => ?_)
        · have h := ite_f c14 h
          refine lv_aload_n hx hb dX8_takesOrderLine_38 rfl (lv_at hl 0 rfl) ?_
          refine wi_get (v := .int (zI o10.2.2.2.2.1)) hx hb hts iX8 hown hE hP 0 rfl rfl 10 (by decide) q2 rfl dX8_takesOrderLine_39 ?_
          refine wi_ic hx hb dX8_takesOrderLine_42 ?_
          obtain ⟨hr15, h⟩ := chk_some h
          refine wi_ic_ne (tgt := 48) hx hb dX8_takesOrderLine_43 (by decide) hr15 (by decide) (fun c17 => ?_) (fun c17 => ?_)
          · have h := ite_f c17 h
            refine lv_aload_n hx hb dX8_takesOrderLine_48 rfl (lv_at hl 0 rfl) ?_
            refine wi_ic hx hb dX8_takesOrderLine_49 ?_
            refine wi_ic hx hb dX8_takesOrderLine_50 ?_
            obtain ⟨o18, hc19, h⟩ := bnd_some h
            refine cV_i (rest := []) (w2 := (wd_X8_takesOrderLine cy a_v a_v_ahead a_v_tape a_v_tape_bytes a_v_draft v_aheadUsed v_orderTold v_startTold v_lines o18.2.1 o18.2.2 o10.2.2.2.1 o10.2.2.2.2.1 o10.2.2.2.2.2.1 o10.2.2.2.2.2.2 v_ahead v_tape_used v_tape_bytes)) ⟨hx, hb, hml, hown, hts⟩ (c_X8_isNumberWithin l D cy sa a_v a_v_tape a_v_draft a_v_ahead v_aheadUsed v_orderTold v_startTold v_lines o10.2.1 o10.2.2.1 o10.2.2.2.1 o10.2.2.2.2.1 o10.2.2.2.2.2.1 o10.2.2.2.2.2.2 0 4 o18 hc19) (cwV 2 hts gX8_takesOrderLine_X8_isNumberWithin rfl rfl rfl (by decide +kernel) ⟨Nat.le_of_ble_eq_true rfl, Nat.le_of_ble_eq_true rfl⟩) rfl rfl rfl hE hP hDD rfl hS [0] rfl rfl rfl rfl hl.1 (Nat.le_of_ble_eq_true rfl) ⟨Nat.zero_le _, Nat.zero_le _⟩ rfl dX8_takesOrderLine_51 rfl (fun H locs hP hS => ?_)
            obtain ⟨hr20, h⟩ := chk_some h
            refine wi_if_ne (tgt := 59) hx hb dX8_takesOrderLine_54 (by decide) hr20 (fun c22 => ?_) (fun c22 => ?_)
            · have h := ite_f c22 h
              refine lv_aload_n hx hb dX8_takesOrderLine_59 rfl (lv_at hl 0 rfl) ?_
              refine lv_aload_n hx hb dX8_takesOrderLine_60 rfl (lv_at hl 0 rfl) ?_
              refine wi_get (v := .int (zI o10.2.2.2.2.2.2)) hx hb hts iX8 hown hE hP 0 rfl rfl 12 (by decide) q3 rfl dX8_takesOrderLine_61 ?_
              obtain ⟨o23, hc24, h⟩ := bnd_some h
              refine cV_i (rest := []) (w2 := (wd_X8_takesOrderLine cy a_v a_v_ahead a_v_tape a_v_tape_bytes a_v_draft v_aheadUsed v_orderTold v_startTold v_lines o18.2.1 o18.2.2 o10.2.2.2.1 o10.2.2.2.2.1 o10.2.2.2.2.2.1 o10.2.2.2.2.2.2 v_ahead v_tape_used v_tape_bytes)) ⟨hx, hb, hml, hown, hts⟩ (c_X8_isAhead l D cy sa a_v a_v_ahead a_v_tape a_v_draft v_aheadUsed v_orderTold v_startTold v_lines o18.2.1 o18.2.2 o10.2.2.2.1 o10.2.2.2.2.1 o10.2.2.2.2.2.1 o10.2.2.2.2.2.2 v_ahead o10.2.2.2.2.2.2 o23 hc24) (cwV 1 hts gX8_takesOrderLine_X8_isAhead rfl rfl rfl (by decide +kernel) ⟨Nat.le_of_ble_eq_true rfl, Nat.le_of_ble_eq_true rfl⟩) rfl rfl rfl hE hP hDD rfl hS [0, 1] rfl rfl rfl rfl hl.1 (Nat.le_of_ble_eq_true rfl) ⟨Nat.zero_le _, Nat.zero_le _⟩ rfl dX8_takesOrderLine_64 rfl (fun H locs hP hS => ?_)
              obtain ⟨hr25, h⟩ := chk_some h
              refine wi_if_ne (tgt := 82) hx hb dX8_takesOrderLine_67 (by decide) hr25 (fun c27 => ?_) (fun c27 => ?_)
              · have h := ite_f c27 h
                refine lv_aload_n hx hb dX8_takesOrderLine_82 rfl (lv_at hl 0 rfl) ?_
                refine wi_ic hx hb dX8_takesOrderLine_83 ?_
                refine lv_aload_n hx hb dX8_takesOrderLine_84 rfl (lv_at hl 0 rfl) ?_
                refine wi_get (v := .int (zI o10.2.2.2.2.2.1)) hx hb hts iX8 hown hE hP 0 rfl rfl 11 (by decide) q1 rfl dX8_takesOrderLine_85 ?_
                obtain ⟨o28, hc29, h⟩ := bnd_some h
                refine cV_i (rest := []) (w2 := (wd_X8_takesOrderLine cy a_v a_v_ahead a_v_tape a_v_tape_bytes a_v_draft v_aheadUsed v_orderTold v_startTold v_lines o28.2.1 o28.2.2 o10.2.2.2.1 o10.2.2.2.2.1 o10.2.2.2.2.2.1 o10.2.2.2.2.2.2 v_ahead v_tape_used v_tape_bytes)) ⟨hx, hb, hml, hown, hts⟩ (c_X8_failed l D cy sa a_v a_v_tape a_v_draft a_v_ahead v_aheadUsed v_orderTold v_startTold v_lines o18.2.1 o18.2.2 o10.2.2.2.1 o10.2.2.2.2.1 o10.2.2.2.2.2.1 o10.2.2.2.2.2.2 4 o10.2.2.2.2.2.1 o28 hc29) (cwV 2 hts gX8_takesOrderLine_X8_failed rfl rfl rfl (by decide +kernel) ⟨Nat.le_of_ble_eq_true rfl, Nat.le_of_ble_eq_true rfl⟩) rfl rfl rfl hE hP hDD rfl hS [0] rfl rfl rfl rfl hl.1 (Nat.le_of_ble_eq_true rfl) ⟨Nat.zero_le _, Nat.zero_le _⟩ rfl dX8_takesOrderLine_88 rfl (fun H locs hP hS => ?_)
                obtain ⟨hk30, h⟩ := chk_some h
                obtain rfl := Option.some.inj h
                exact KR _ _ _ _ (z01 hk30) hP hS dX8_takesOrderLine_91
              · have h := ite_t c27 h
                refine lv_aload_n hx hb dX8_takesOrderLine_70 rfl (lv_at hl 0 rfl) ?_
                refine wi_get (v := .int (zI v_aheadUsed)) hx hb hts iX8 hown hE hP 0 rfl rfl 3 (by decide) q4 rfl dX8_takesOrderLine_71 ?_
                refine lv_aload_n hx hb dX8_takesOrderLine_74 rfl (lv_at hl 0 rfl) ?_
                refine wi_get (v := .ref a_v_ahead) hx hb hts iX8 hown hE hP 0 rfl rfl 2 (by decide) q5 rfl dX8_takesOrderLine_75 ?_
                refine wi_alen (n := 5) hx hb hE hP 1 0 rfl rfl rfl dX8_takesOrderLine_78 ?_
                obtain ⟨hr31, h⟩ := chk_some h
                refine wi_ic_lt (tgt := 92) hx hb dX8_takesOrderLine_79 (by decide) hr31 (by decide) (fun c33 => ?_) (fun c33 => ?_)
                · have h := ite_t c33 h
                  refine lv_aload_n hx hb dX8_takesOrderLine_92 rfl (lv_at hl 0 rfl) ?_
                  refine wi_get (v := .ref a_v_ahead) hx hb hts iX8 hown hE hP 0 rfl rfl 2 (by decide) q5 rfl dX8_takesOrderLine_93 ?_
                  refine lv_aload_n hx hb dX8_takesOrderLine_96 rfl (lv_at hl 0 rfl) ?_
                  refine wi_get (v := .int (zI v_aheadUsed)) hx hb hts iX8 hown hE hP 0 rfl rfl 3 (by decide) q4 rfl dX8_takesOrderLine_97 ?_
                  refine lv_aload_n hx hb dX8_takesOrderLine_100 rfl (lv_at hl 0 rfl) ?_
                  refine wi_get (v := .int (zI o10.2.2.2.2.2.2)) hx hb hts iX8 hown hE hP 0 rfl rfl 12 (by decide) q3 rfl dX8_takesOrderLine_101 ?_
                  obtain ⟨hk34, h⟩ := chk_some h
                  refine wi_iast (w2 := (wd_X8_takesOrderLine cy a_v a_v_ahead a_v_tape a_v_tape_bytes a_v_draft v_aheadUsed v_orderTold v_startTold v_lines o18.2.1 o18.2.2 o10.2.2.2.1 o10.2.2.2.2.1 o10.2.2.2.2.2.1 o10.2.2.2.2.2.2 (upZ v_ahead (v_aheadUsed).toNat o10.2.2.2.2.2.2) v_tape_used v_tape_bytes)) hx hb hE hP hDD rfl hS 1 rfl (by decide) hk34 dX8_takesOrderLine_104 rfl (fun H locs hP hS => ?_)
                  refine lv_aload_n hx hb dX8_takesOrderLine_105 rfl (lv_at hl 0 rfl) ?_
                  refine lv_dup hx hb dX8_takesOrderLine_106 rfl ?_
                  refine wi_get (v := .int (zI v_aheadUsed)) hx hb hts iX8 hown hE hP 0 rfl rfl 3 (by decide) q4 rfl dX8_takesOrderLine_107 ?_
                  refine wi_ic hx hb dX8_takesOrderLine_110 ?_
                  refine wi_iadd hx hb dX8_takesOrderLine_111 ?_
                  refine wi_put (ty := .int) (v := .int (zI (v_aheadUsed + 1))) (w2 := (wd_X8_takesOrderLine cy a_v a_v_ahead a_v_tape a_v_tape_bytes a_v_draft (v_aheadUsed + 1) v_orderTold v_startTold v_lines o18.2.1 o18.2.2 o10.2.2.2.1 o10.2.2.2.2.1 o10.2.2.2.2.2.1 o10.2.2.2.2.2.2 (upZ v_ahead (v_aheadUsed).toNat o10.2.2.2.2.2.2) v_tape_used v_tape_bytes)) hx hb hts iX8 tyX8 tyX8_ok nmX8 hown hE hP hDD rfl hS 0 rfl rfl 3 (by decide) q4 rfl (by decide +kernel) rfl rfl (Nat.le_of_ble_eq_true rfl) dX8_takesOrderLine_112 rfl (fun H locs hP hS => ?_)
                  refine wi_iinc (k := 1) (lv' := [(1, .int (zI (x1 + 1))), (0, .ref a_v)]) hx hb dX8_takesOrderLine_115 hl rfl (by decide) rfl (fun ls hl => ?_)
                  refine lv_goto (tgt := 24) hx hb dX8_takesOrderLine_118 (by decide) ?_
                  exact ih (v_aheadUsed + 1) v_orderTold o18.2.1 o18.2.2 o10.2.2.2.1 o10.2.2.2.2.1 o10.2.2.2.2.2.1 o10.2.2.2.2.2.2 (upZ v_ahead (v_aheadUsed).toNat o10.2.2.2.2.2.2) (x1 + 1) _ _ _ hP hS (lv_sub hl [1, 0] rfl) h
                · have h := ite_f c33 h
                  refine lv_aload_n hx hb dX8_takesOrderLine_82 rfl (lv_at hl 0 rfl) ?_
                  refine wi_ic hx hb dX8_takesOrderLine_83 ?_
                  refine lv_aload_n hx hb dX8_takesOrderLine_84 rfl (lv_at hl 0 rfl) ?_
                  refine wi_get (v := .int (zI o10.2.2.2.2.2.1)) hx hb hts iX8 hown hE hP 0 rfl rfl 11 (by decide) q1 rfl dX8_takesOrderLine_85 ?_
                  obtain ⟨o35, hc36, h⟩ := bnd_some h
                  refine cV_i (rest := []) (w2 := (wd_X8_takesOrderLine cy a_v a_v_ahead a_v_tape a_v_tape_bytes a_v_draft v_aheadUsed v_orderTold v_startTold v_lines o35.2.1 o35.2.2 o10.2.2.2.1 o10.2.2.2.2.1 o10.2.2.2.2.2.1 o10.2.2.2.2.2.2 v_ahead v_tape_used v_tape_bytes)) ⟨hx, hb, hml, hown, hts⟩ (c_X8_failed l D cy sa a_v a_v_tape a_v_draft a_v_ahead v_aheadUsed v_orderTold v_startTold v_lines o18.2.1 o18.2.2 o10.2.2.2.1 o10.2.2.2.2.1 o10.2.2.2.2.2.1 o10.2.2.2.2.2.2 4 o10.2.2.2.2.2.1 o35 hc36) (cwV 2 hts gX8_takesOrderLine_X8_failed rfl rfl rfl (by decide +kernel) ⟨Nat.le_of_ble_eq_true rfl, Nat.le_of_ble_eq_true rfl⟩) rfl rfl rfl hE hP hDD rfl hS [0] rfl rfl rfl rfl hl.1 (Nat.le_of_ble_eq_true rfl) ⟨Nat.zero_le _, Nat.zero_le _⟩ rfl dX8_takesOrderLine_88 rfl (fun H locs hP hS => ?_)
                  obtain ⟨hk37, h⟩ := chk_some h
                  obtain rfl := Option.some.inj h
                  exact KR _ _ _ _ (z01 hk37) hP hS dX8_takesOrderLine_91
            · have h := ite_t c22 h
              refine wi_ic hx hb dX8_takesOrderLine_57 ?_
              obtain rfl := Option.some.inj h
              exact KR _ _ _ _ (z01 (Or.inl rfl)) hP hS dX8_takesOrderLine_58
          · have h := ite_t c17 h
            refine wi_ic hx hb dX8_takesOrderLine_46 ?_
            obtain rfl := Option.some.inj h
            exact KR _ _ _ _ (z01 (Or.inr rfl)) hP hS dX8_takesOrderLine_47
        · have h := ite_t c14 h
          refine wi_ic hx hb dX8_takesOrderLine_36 ?_
          obtain rfl := Option.some.inj h
          exact KR _ _ _ _ (z01 (Or.inl rfl)) hP hS dX8_takesOrderLine_37
  refine lv_aload_n hx hb dX8_takesOrderLine_0 rfl (lv_at hl 0 rfl) ?_
  refine wi_get (v := .int (zI v_orderTold)) hx hb hts iX8 hown hE hP 0 rfl rfl 4 (by decide) q0 rfl dX8_takesOrderLine_1 ?_
  obtain ⟨hr1, h⟩ := chk_some h
  refine wi_if_eq (tgt := 17) hx hb dX8_takesOrderLine_4 (by decide) hr1 (fun c3 => ?_) (fun c3 => ?_)
  · have h := ite_t c3 h
    refine lv_aload_n hx hb dX8_takesOrderLine_17 rfl (lv_at hl 0 rfl) ?_
    refine wi_ic hx hb dX8_takesOrderLine_18 ?_
    refine wi_put (ty := .boolean) (v := .int (zI 1)) (w2 := (wd_X8_takesOrderLine cy a_v a_v_ahead a_v_tape a_v_tape_bytes a_v_draft v_aheadUsed 1 v_startTold v_lines v_foundFault v_foundPlace v_next v_token v_tokenPlace v_number v_ahead v_tape_used v_tape_bytes)) hx hb hts iX8 tyX8 tyX8_ok nmX8 hown hE hP hDD rfl hS 0 rfl rfl 4 (by decide) q0 rfl (by decide +kernel) rfl rfl (Nat.le_of_ble_eq_true rfl) dX8_takesOrderLine_19 rfl (fun H locs hP hS => ?_)
    refine wi_ic hx hb dX8_takesOrderLine_22 ?_
    refine lv_istore_n (lv' := [(1, .int (zI 0)), (0, .ref a_v)]) hx hb dX8_takesOrderLine_23 rfl hl (by decide) rfl (fun ls hl => ?_)
    exact L24 5000 v_aheadUsed 1 v_foundFault v_foundPlace v_next v_token v_tokenPlace v_number v_ahead 0 _ _ _ hP hS (lv_sub hl [1, 0] rfl) h
  · have h := ite_f c3 h
    refine lv_aload_n hx hb dX8_takesOrderLine_7 rfl (lv_at hl 0 rfl) ?_
    refine wi_ic hx hb dX8_takesOrderLine_8 ?_
    refine lv_aload_n hx hb dX8_takesOrderLine_9 rfl (lv_at hl 0 rfl) ?_
    refine wi_get (v := .int (zI v_tokenPlace)) hx hb hts iX8 hown hE hP 0 rfl rfl 11 (by decide) q1 rfl dX8_takesOrderLine_10 ?_
    obtain ⟨o38, hc39, h⟩ := bnd_some h
    refine cV_i (rest := []) (w2 := (wd_X8_takesOrderLine cy a_v a_v_ahead a_v_tape a_v_tape_bytes a_v_draft v_aheadUsed v_orderTold v_startTold v_lines o38.2.1 o38.2.2 v_next v_token v_tokenPlace v_number v_ahead v_tape_used v_tape_bytes)) ⟨hx, hb, hml, hown, hts⟩ (c_X8_failed l D cy sa a_v a_v_tape a_v_draft a_v_ahead v_aheadUsed v_orderTold v_startTold v_lines v_foundFault v_foundPlace v_next v_token v_tokenPlace v_number 4 v_tokenPlace o38 hc39) (cwV 2 hts gX8_takesOrderLine_X8_failed rfl rfl rfl (by decide +kernel) ⟨Nat.le_of_ble_eq_true rfl, Nat.le_of_ble_eq_true rfl⟩) rfl rfl rfl hE hP hDD rfl hS [0] rfl rfl rfl rfl hl.1 (Nat.le_of_ble_eq_true rfl) ⟨Nat.zero_le _, Nat.zero_le _⟩ rfl dX8_takesOrderLine_13 rfl (fun H locs hP hS => ?_)
    obtain ⟨hk40, h⟩ := chk_some h
    obtain rfl := Option.some.inj h
    exact KR _ _ _ _ (z01 hk40) hP hS dX8_takesOrderLine_16
abbrev wd_X8_takesStartLine (cy : Nat → ClassId) (a_v : Nat) (a_v_draft : Nat) (a_v_tape : Nat) (a_v_tape_bytes : Nat) (a_v_ahead : Nat) (a_v_draft_facts : Nat) (a_v_draft_places : Nat) (v_aheadUsed : Int) (v_orderTold : Int) (v_startTold : Int) (v_lines : Int) (v_foundFault : Int) (v_foundPlace : Int) (v_next : Int) (v_token : Int) (v_tokenPlace : Int) (v_number : Int) (v_draft_boxes : Int) (v_draft_startsAt : Int) (v_tape_used : Int) (v_tape_bytes : Nat → Int) : va_W := [(a_v, .inr (8, [.ref a_v_tape, .ref a_v_draft, .ref a_v_ahead, .int (zI v_aheadUsed), .int (zI v_orderTold), .int (zI v_startTold), .int (zI v_lines), .int (zI v_foundFault), .int (zI v_foundPlace), .int (zI v_next), .int (zI v_token), .int (zI v_tokenPlace), .int (zI v_number)])), (a_v_draft, .inr (5, [.ref a_v_draft_facts, .ref a_v_draft_places, .int (zI v_draft_boxes), .int (zI v_draft_startsAt)])), (a_v_tape, .inr (7, [.ref a_v_tape_bytes, .int (zI v_tape_used)])), (a_v_tape_bytes, .inl (cy 1, 160, .inl (fun j => zI (v_tape_bytes j))))]
set_option maxHeartbeats 4000000 in
set_option maxRecDepth 100000 in
theorem c_X8_takesStartLine (l : Launch) (D : va_G) (cy : Nat → ClassId) (sa : Nat → Nat) (a_v : Nat) (a_v_draft : Nat) (a_v_tape : Nat) (a_v_tape_bytes : Nat) (a_v_ahead : Nat) (a_v_draft_facts : Nat) (a_v_draft_places : Nat) (v_aheadUsed : Int) (v_orderTold : Int) (v_startTold : Int) (v_lines : Int) (v_foundFault : Int) (v_foundPlace : Int) (v_next : Int) (v_token : Int) (v_tokenPlace : Int) (v_number : Int) (v_draft_boxes : Int) (v_draft_startsAt : Int) (v_tape_used : Int) (v_tape_bytes : Nat → Int) (o : Int × Int × Int × Int × Int × Int × Int × Int × Int) (h : f_TextReader_takesStartLine v_startTold v_foundFault v_foundPlace v_next v_token v_tokenPlace v_number v_draft_startsAt v_tape_used v_tape_bytes = some o) : CtI l yX8_takesStartLine wsX8_takesStartLine ({ frames := 3, cells := 0, slots := 0, locals := 62 }) D cy sa [.ref a_v] (wd_X8_takesStartLine cy a_v a_v_draft a_v_tape a_v_tape_bytes a_v_ahead a_v_draft_facts a_v_draft_places v_aheadUsed v_orderTold v_startTold v_lines v_foundFault v_foundPlace v_next v_token v_tokenPlace v_number v_draft_boxes v_draft_startsAt v_tape_used v_tape_bytes) (wd_X8_takesStartLine cy a_v a_v_draft a_v_tape a_v_tape_bytes a_v_ahead a_v_draft_facts a_v_draft_places v_aheadUsed v_orderTold o.2.1 v_lines o.2.2.1 o.2.2.2.1 o.2.2.2.2.1 o.2.2.2.2.2.1 o.2.2.2.2.2.2.1 o.2.2.2.2.2.2.2.1 v_draft_boxes o.2.2.2.2.2.2.2.2 v_tape_used v_tape_bytes) o.1 := by
  refine ct_Z (cc := cX8_takesStartLine) (maxL := 1) (plainFor_of_name (by decide)) rfl (Nat.le_of_ble_eq_true rfl) ?_
  intro p e s m below meth c A args QQ hx hb hml hown hts hE hDD hP KR ls hl
  have hl : lv_has ls 1 [(0, .ref a_v)] := hl
  have hDD : DD A [a_v, a_v_draft, a_v_tape, a_v_tape_bytes] := hDD
  have hS : va_S A s.heap s.heap [] := va_S.rf
  have q0 := hts (.fieldLink RX8 30 "HatHours$TextReader" "startTold" "Z") (List.mem_of_getElem? (i := 1) rfl)
  have q1 := hts (.fieldLink RX8 12 "HatHours$TextReader" "draft" "LHatHours$Shop;") (List.mem_of_getElem? (i := 3) rfl)
  have q2 := hts (.fieldLink RX8 51 "HatHours$TextReader" "number" "I") (List.mem_of_getElem? (i := 4) rfl)
  have q3 := hts (.fieldLink RX8 48 "HatHours$TextReader" "tokenPlace" "I") (List.mem_of_getElem? (i := 2) rfl)
  have iX8 : ∀ w ∈ u_ws RX8 TX8 13, w ∈ wsX8_takesStartLine := in_slice 57 13 rfl
  refine lv_aload_n hx hb dX8_takesStartLine_0 rfl (lv_at hl 0 rfl) ?_
  refine wi_get (v := .int (zI v_startTold)) hx hb hts iX8 hown hE hP 0 rfl rfl 5 (by decide) q0 rfl dX8_takesStartLine_1 ?_
  obtain ⟨hr1, h⟩ := chk_some h
  refine wi_if_eq (tgt := 17) hx hb dX8_takesStartLine_4 (by decide) hr1 (fun c3 => ?_) (fun c3 => ?_)
  · have h := ite_t c3 h
    refine lv_aload_n hx hb dX8_takesStartLine_17 rfl (lv_at hl 0 rfl) ?_
    refine wi_ic hx hb dX8_takesStartLine_18 ?_
    refine wi_put (ty := .boolean) (v := .int (zI 1)) (w2 := (wd_X8_takesStartLine cy a_v a_v_draft a_v_tape a_v_tape_bytes a_v_ahead a_v_draft_facts a_v_draft_places v_aheadUsed v_orderTold 1 v_lines v_foundFault v_foundPlace v_next v_token v_tokenPlace v_number v_draft_boxes v_draft_startsAt v_tape_used v_tape_bytes)) hx hb hts iX8 tyX8 tyX8_ok nmX8 hown hE hP hDD rfl hS 0 rfl rfl 5 (by decide) q0 rfl (by decide +kernel) rfl rfl (Nat.le_of_ble_eq_true rfl) dX8_takesStartLine_19 rfl (fun H locs hP hS => ?_)
    refine lv_aload_n hx hb dX8_takesStartLine_22 rfl (lv_at hl 0 rfl) ?_
    obtain ⟨o4, hc5, h⟩ := bnd_some h
    refine cV_i (rest := []) (w2 := (wd_X8_takesStartLine cy a_v a_v_draft a_v_tape a_v_tape_bytes a_v_ahead a_v_draft_facts a_v_draft_places v_aheadUsed v_orderTold 1 v_lines o4.2.1 o4.2.2.1 o4.2.2.2.1 o4.2.2.2.2.1 o4.2.2.2.2.2.1 o4.2.2.2.2.2.2 v_draft_boxes v_draft_startsAt v_tape_used v_tape_bytes)) ⟨hx, hb, hml, hown, hts⟩ (c_X8_takesToken l D cy sa a_v a_v_tape a_v_tape_bytes a_v_draft a_v_ahead v_aheadUsed v_orderTold 1 v_lines v_foundFault v_foundPlace v_next v_token v_tokenPlace v_number v_tape_used v_tape_bytes o4 hc5) (cwV 0 hts gX8_takesStartLine_X8_takesToken rfl rfl rfl (by decide +kernel) ⟨Nat.le_of_ble_eq_true rfl, Nat.le_of_ble_eq_true rfl⟩) rfl rfl rfl hE hP hDD rfl hS [0, 2, 3] rfl rfl rfl rfl hl.1 (Nat.le_of_ble_eq_true rfl) ⟨Nat.zero_le _, Nat.zero_le _⟩ rfl dX8_takesStartLine_23 rfl (fun H locs hP hS => ?_)
    obtain ⟨hr6, h⟩ := chk_some h
    refine wi_if_eq (tgt := 39) hx hb dX8_takesStartLine_26 (by decide) hr6 (fun c8 => ?_) (fun c8 => ?_)
    · have h := ite_t c8 h
      refine wi_ic hx hb dX8_takesStartLine_39 ?_
      obtain rfl := Option.some.inj h
      exact KR _ _ _ _ (z01 (Or.inl rfl)) hP hS dX8_takesStartLine_40
    · have h := ite_f c8 h
      refine lv_aload_n hx hb dX8_takesStartLine_29 rfl (lv_at hl 0 rfl) ?_
      refine wi_ic hx hb dX8_takesStartLine_30 ?_
      refine wi_bi hx hb dX8_takesStartLine_31 (by decide) ?_
      obtain ⟨o9, hc10, h⟩ := bnd_some h
      refine cV_i (rest := []) (w2 := (wd_X8_takesStartLine cy a_v a_v_draft a_v_tape a_v_tape_bytes a_v_ahead a_v_draft_facts a_v_draft_places v_aheadUsed v_orderTold 1 v_lines o9.2.1 o9.2.2 o4.2.2.2.1 o4.2.2.2.2.1 o4.2.2.2.2.2.1 o4.2.2.2.2.2.2 v_draft_boxes v_draft_startsAt v_tape_used v_tape_bytes)) ⟨hx, hb, hml, hown, hts⟩ (c_X8_isNumberWithin l D cy sa a_v a_v_tape a_v_draft a_v_ahead v_aheadUsed v_orderTold 1 v_lines o4.2.1 o4.2.2.1 o4.2.2.2.1 o4.2.2.2.2.1 o4.2.2.2.2.2.1 o4.2.2.2.2.2.2 0 23 o9 hc10) (cwV 2 hts gX8_takesStartLine_X8_isNumberWithin rfl rfl rfl (by decide +kernel) ⟨Nat.le_of_ble_eq_true rfl, Nat.le_of_ble_eq_true rfl⟩) rfl rfl rfl hE hP hDD rfl hS [0] rfl rfl rfl rfl hl.1 (Nat.le_of_ble_eq_true rfl) ⟨Nat.zero_le _, Nat.zero_le _⟩ rfl dX8_takesStartLine_33 rfl (fun H locs hP hS => ?_)
      obtain ⟨hr11, h⟩ := chk_some h
      refine wi_if_ne (tgt := 41) hx hb dX8_takesStartLine_36 (by decide) hr11 (fun c13 => ?_) (fun c13 => ?_)
      · have h := ite_f c13 h
        refine lv_aload_n hx hb dX8_takesStartLine_41 rfl (lv_at hl 0 rfl) ?_
        refine wi_get (v := .ref a_v_draft) hx hb hts iX8 hown hE hP 0 rfl rfl 1 (by decide) q1 rfl dX8_takesStartLine_42 ?_
        refine lv_aload_n hx hb dX8_takesStartLine_45 rfl (lv_at hl 0 rfl) ?_
        refine wi_get (v := .int (zI o4.2.2.2.2.2.2)) hx hb hts iX8 hown hE hP 0 rfl rfl 12 (by decide) q2 rfl dX8_takesStartLine_46 ?_
        obtain ⟨o14, hc15, h⟩ := bnd_some h
        refine cV_v (rest := []) (w2 := (wd_X8_takesStartLine cy a_v a_v_draft a_v_tape a_v_tape_bytes a_v_ahead a_v_draft_facts a_v_draft_places v_aheadUsed v_orderTold 1 v_lines o9.2.1 o9.2.2 o4.2.2.2.1 o4.2.2.2.2.1 o4.2.2.2.2.2.1 o4.2.2.2.2.2.2 v_draft_boxes o14 v_tape_used v_tape_bytes)) ⟨hx, hb, hml, hown, hts⟩ (c_X5_setStart l D cy sa a_v_draft a_v_draft_facts a_v_draft_places v_draft_boxes v_draft_startsAt o4.2.2.2.2.2.2 o14 hc15) (cwV 1 hts gX8_takesStartLine_X5_setStart rfl rfl rfl (by decide +kernel) ⟨Nat.le_of_ble_eq_true rfl, Nat.le_of_ble_eq_true rfl⟩) rfl rfl rfl hE hP hDD rfl hS [1] rfl rfl rfl rfl hl.1 (Nat.le_of_ble_eq_true rfl) ⟨Nat.zero_le _, Nat.zero_le _⟩ rfl dX8_takesStartLine_49 rfl (fun H locs hP hS => ?_)
        refine wi_ic hx hb dX8_takesStartLine_52 ?_
        obtain rfl := Option.some.inj h
        exact KR _ _ _ _ (z01 (Or.inr rfl)) hP hS dX8_takesStartLine_53
      · have h := ite_t c13 h
        refine wi_ic hx hb dX8_takesStartLine_39 ?_
        obtain rfl := Option.some.inj h
        exact KR _ _ _ _ (z01 (Or.inl rfl)) hP hS dX8_takesStartLine_40
  · have h := ite_f c3 h
    refine lv_aload_n hx hb dX8_takesStartLine_7 rfl (lv_at hl 0 rfl) ?_
    refine wi_ic hx hb dX8_takesStartLine_8 ?_
    refine lv_aload_n hx hb dX8_takesStartLine_9 rfl (lv_at hl 0 rfl) ?_
    refine wi_get (v := .int (zI v_tokenPlace)) hx hb hts iX8 hown hE hP 0 rfl rfl 11 (by decide) q3 rfl dX8_takesStartLine_10 ?_
    obtain ⟨o16, hc17, h⟩ := bnd_some h
    refine cV_i (rest := []) (w2 := (wd_X8_takesStartLine cy a_v a_v_draft a_v_tape a_v_tape_bytes a_v_ahead a_v_draft_facts a_v_draft_places v_aheadUsed v_orderTold v_startTold v_lines o16.2.1 o16.2.2 v_next v_token v_tokenPlace v_number v_draft_boxes v_draft_startsAt v_tape_used v_tape_bytes)) ⟨hx, hb, hml, hown, hts⟩ (c_X8_failed l D cy sa a_v a_v_tape a_v_draft a_v_ahead v_aheadUsed v_orderTold v_startTold v_lines v_foundFault v_foundPlace v_next v_token v_tokenPlace v_number 4 v_tokenPlace o16 hc17) (cwV 2 hts gX8_takesStartLine_X8_failed rfl rfl rfl (by decide +kernel) ⟨Nat.le_of_ble_eq_true rfl, Nat.le_of_ble_eq_true rfl⟩) rfl rfl rfl hE hP hDD rfl hS [0] rfl rfl rfl rfl hl.1 (Nat.le_of_ble_eq_true rfl) ⟨Nat.zero_le _, Nat.zero_le _⟩ rfl dX8_takesStartLine_13 rfl (fun H locs hP hS => ?_)
    obtain ⟨hk18, h⟩ := chk_some h
    obtain rfl := Option.some.inj h
    exact KR _ _ _ _ (z01 hk18) hP hS dX8_takesStartLine_16
abbrev wd_X8_takesStop (cy : Nat → ClassId) (a_v : Nat) (a_v_tape : Nat) (a_v_tape_bytes : Nat) (a_v_draft : Nat) (a_v_ahead : Nat) (v_aheadUsed : Int) (v_orderTold : Int) (v_startTold : Int) (v_lines : Int) (v_foundFault : Int) (v_foundPlace : Int) (v_next : Int) (v_token : Int) (v_tokenPlace : Int) (v_number : Int) (v_tape_used : Int) (v_tape_bytes : Nat → Int) : va_W := [(a_v, .inr (8, [.ref a_v_tape, .ref a_v_draft, .ref a_v_ahead, .int (zI v_aheadUsed), .int (zI v_orderTold), .int (zI v_startTold), .int (zI v_lines), .int (zI v_foundFault), .int (zI v_foundPlace), .int (zI v_next), .int (zI v_token), .int (zI v_tokenPlace), .int (zI v_number)])), (a_v_tape, .inr (7, [.ref a_v_tape_bytes, .int (zI v_tape_used)])), (a_v_tape_bytes, .inl (cy 1, 160, .inl (fun j => zI (v_tape_bytes j))))]
set_option maxHeartbeats 4000000 in
set_option maxRecDepth 100000 in
theorem c_X8_takesStop (l : Launch) (D : va_G) (cy : Nat → ClassId) (sa : Nat → Nat) (a_v : Nat) (a_v_tape : Nat) (a_v_tape_bytes : Nat) (a_v_draft : Nat) (a_v_ahead : Nat) (v_aheadUsed : Int) (v_orderTold : Int) (v_startTold : Int) (v_lines : Int) (v_foundFault : Int) (v_foundPlace : Int) (v_next : Int) (v_token : Int) (v_tokenPlace : Int) (v_number : Int) (v_tape_used : Int) (v_tape_bytes : Nat → Int) (o : Int × Int × Int × Int × Int × Int × Int) (h : f_TextReader_takesStop v_foundFault v_foundPlace v_next v_token v_tokenPlace v_number v_tape_used v_tape_bytes = some o) : CtI l yX8_takesStop wsX8_takesStop ({ frames := 3, cells := 0, slots := 0, locals := 62 }) D cy sa [.ref a_v] (wd_X8_takesStop cy a_v a_v_tape a_v_tape_bytes a_v_draft a_v_ahead v_aheadUsed v_orderTold v_startTold v_lines v_foundFault v_foundPlace v_next v_token v_tokenPlace v_number v_tape_used v_tape_bytes) (wd_X8_takesStop cy a_v a_v_tape a_v_tape_bytes a_v_draft a_v_ahead v_aheadUsed v_orderTold v_startTold v_lines o.2.1 o.2.2.1 o.2.2.2.1 o.2.2.2.2.1 o.2.2.2.2.2.1 o.2.2.2.2.2.2 v_tape_used v_tape_bytes) o.1 := by
  refine ct_Z (cc := cX8_takesStop) (maxL := 1) (plainFor_of_name (by decide)) rfl (Nat.le_of_ble_eq_true rfl) ?_
  intro p e s m below meth c A args QQ hx hb hml hown hts hE hDD hP KR ls hl
  have hl : lv_has ls 1 [(0, .ref a_v)] := hl
  have hDD : DD A [a_v, a_v_tape, a_v_tape_bytes] := hDD
  have hS : va_S A s.heap s.heap [] := va_S.rf
  have q0 := hts (.fieldLink RX8 45 "HatHours$TextReader" "token" "I") (List.mem_of_getElem? (i := 1) rfl)
  have q1 := hts (.fieldLink RX8 48 "HatHours$TextReader" "tokenPlace" "I") (List.mem_of_getElem? (i := 2) rfl)
  have iX8 : ∀ w ∈ u_ws RX8 TX8 13, w ∈ wsX8_takesStop := in_slice 42 13 rfl
  refine lv_aload_n hx hb dX8_takesStop_0 rfl (lv_at hl 0 rfl) ?_
  obtain ⟨o1, hc2, h⟩ := bnd_some h
  refine cV_i (rest := []) (w2 := (wd_X8_takesStop cy a_v a_v_tape a_v_tape_bytes a_v_draft a_v_ahead v_aheadUsed v_orderTold v_startTold v_lines o1.2.1 o1.2.2.1 o1.2.2.2.1 o1.2.2.2.2.1 o1.2.2.2.2.2.1 o1.2.2.2.2.2.2 v_tape_used v_tape_bytes)) ⟨hx, hb, hml, hown, hts⟩ (c_X8_takesToken l D cy sa a_v a_v_tape a_v_tape_bytes a_v_draft a_v_ahead v_aheadUsed v_orderTold v_startTold v_lines v_foundFault v_foundPlace v_next v_token v_tokenPlace v_number v_tape_used v_tape_bytes o1 hc2) (cwV 0 hts gX8_takesStop_X8_takesToken rfl rfl rfl (by decide +kernel) ⟨Nat.le_of_ble_eq_true rfl, Nat.le_of_ble_eq_true rfl⟩) rfl rfl rfl hE hP hDD rfl hS [0, 1, 2] rfl rfl rfl rfl hl.1 (Nat.le_of_ble_eq_true rfl) ⟨Nat.zero_le _, Nat.zero_le _⟩ rfl dX8_takesStop_1 rfl (fun H locs hP hS => ?_)
  obtain ⟨hr3, h⟩ := chk_some h
  refine wi_if_eq (tgt := 31) hx hb dX8_takesStop_4 (by decide) hr3 (fun c5 => ?_) (fun c5 => ?_)
  · have h := ite_t c5 h
    refine wi_ic hx hb dX8_takesStop_31 ?_
    obtain rfl := Option.some.inj h
    exact KR _ _ _ _ (z01 (Or.inl rfl)) hP hS dX8_takesStop_32
  · have h := ite_f c5 h
    refine lv_aload_n hx hb dX8_takesStop_7 rfl (lv_at hl 0 rfl) ?_
    refine wi_get (v := .int (zI o1.2.2.2.2.1)) hx hb hts iX8 hown hE hP 0 rfl rfl 10 (by decide) q0 rfl dX8_takesStop_8 ?_
    refine wi_ic hx hb dX8_takesStop_11 ?_
    obtain ⟨hr6, h⟩ := chk_some h
    refine wi_ic_eq (tgt := 27) hx hb dX8_takesStop_12 (by decide) hr6 (by decide) (fun c8 => ?_) (fun c8 => ?_)
    · have h := ite_t c8 h
      refine wi_ic hx hb dX8_takesStop_27 ?_
      refine lv_goto (tgt := 32) hx hb dX8_takesStop_28 (by decide) ?_
      obtain rfl := Option.some.inj h
      exact KR _ _ _ _ (z01 (Or.inr rfl)) hP hS dX8_takesStop_32
    · have h := ite_f c8 h
      refine lv_aload_n hx hb dX8_takesStop_15 rfl (lv_at hl 0 rfl) ?_
      refine wi_ic hx hb dX8_takesStop_16 ?_
      refine lv_aload_n hx hb dX8_takesStop_17 rfl (lv_at hl 0 rfl) ?_
      refine wi_get (v := .int (zI o1.2.2.2.2.2.1)) hx hb hts iX8 hown hE hP 0 rfl rfl 11 (by decide) q1 rfl dX8_takesStop_18 ?_
      obtain ⟨o9, hc10, h⟩ := bnd_some h
      refine cV_i (rest := []) (w2 := (wd_X8_takesStop cy a_v a_v_tape a_v_tape_bytes a_v_draft a_v_ahead v_aheadUsed v_orderTold v_startTold v_lines o9.2.1 o9.2.2 o1.2.2.2.1 o1.2.2.2.2.1 o1.2.2.2.2.2.1 o1.2.2.2.2.2.2 v_tape_used v_tape_bytes)) ⟨hx, hb, hml, hown, hts⟩ (c_X8_failed l D cy sa a_v a_v_tape a_v_draft a_v_ahead v_aheadUsed v_orderTold v_startTold v_lines o1.2.1 o1.2.2.1 o1.2.2.2.1 o1.2.2.2.2.1 o1.2.2.2.2.2.1 o1.2.2.2.2.2.2 2 o1.2.2.2.2.2.1 o9 hc10) (cwV 2 hts gX8_takesStop_X8_failed rfl rfl rfl (by decide +kernel) ⟨Nat.le_of_ble_eq_true rfl, Nat.le_of_ble_eq_true rfl⟩) rfl rfl rfl hE hP hDD rfl hS [0] rfl rfl rfl rfl hl.1 (Nat.le_of_ble_eq_true rfl) ⟨Nat.zero_le _, Nat.zero_le _⟩ rfl dX8_takesStop_21 rfl (fun H locs hP hS => ?_)
      obtain ⟨hr11, h⟩ := chk_some h
      refine wi_if_eq (tgt := 31) hx hb dX8_takesStop_24 (by decide) hr11 (fun c13 => ?_) (fun c13 => ?_)
      · have h := ite_t c13 h
        refine wi_ic hx hb dX8_takesStop_31 ?_
        obtain rfl := Option.some.inj h
        exact KR _ _ _ _ (z01 (Or.inl rfl)) hP hS dX8_takesStop_32
      · have h := ite_f c13 h
        refine wi_ic hx hb dX8_takesStop_27 ?_
        refine lv_goto (tgt := 32) hx hb dX8_takesStop_28 (by decide) ?_
        obtain rfl := Option.some.inj h
        exact KR _ _ _ _ (z01 (Or.inr rfl)) hP hS dX8_takesStop_32
abbrev wd_X8_takesBoxLine (cy : Nat → ClassId) (a_v : Nat) (a_v_draft : Nat) (a_v_draft_facts : Nat) (a_v_draft_places : Nat) (a_v_tape : Nat) (a_v_tape_bytes : Nat) (a_v_ahead : Nat) (v_aheadUsed : Int) (v_orderTold : Int) (v_startTold : Int) (v_lines : Int) (v_foundFault : Int) (v_foundPlace : Int) (v_next : Int) (v_token : Int) (v_tokenPlace : Int) (v_number : Int) (v_draft_boxes : Int) (v_draft_startsAt : Int) (v_draft_facts : Nat → Int) (v_draft_places : Nat → Int) (v_tape_used : Int) (v_tape_bytes : Nat → Int) : va_W := [(a_v, .inr (8, [.ref a_v_tape, .ref a_v_draft, .ref a_v_ahead, .int (zI v_aheadUsed), .int (zI v_orderTold), .int (zI v_startTold), .int (zI v_lines), .int (zI v_foundFault), .int (zI v_foundPlace), .int (zI v_next), .int (zI v_token), .int (zI v_tokenPlace), .int (zI v_number)])), (a_v_draft, .inr (5, [.ref a_v_draft_facts, .ref a_v_draft_places, .int (zI v_draft_boxes), .int (zI v_draft_startsAt)])), (a_v_draft_facts, .inl (cy 0, 30, .inl (fun j => zI (v_draft_facts j)))), (a_v_draft_places, .inl (cy 0, 5, .inl (fun j => zI (v_draft_places j)))), (a_v_tape, .inr (7, [.ref a_v_tape_bytes, .int (zI v_tape_used)])), (a_v_tape_bytes, .inl (cy 1, 160, .inl (fun j => zI (v_tape_bytes j))))]
set_option maxHeartbeats 4000000 in
set_option maxRecDepth 100000 in
theorem c_X8_takesBoxLine (l : Launch) (D : va_G) (cy : Nat → ClassId) (sa : Nat → Nat) (a_v : Nat) (a_v_draft : Nat) (a_v_draft_facts : Nat) (a_v_draft_places : Nat) (a_v_tape : Nat) (a_v_tape_bytes : Nat) (a_v_ahead : Nat) (v_aheadUsed : Int) (v_orderTold : Int) (v_startTold : Int) (v_lines : Int) (v_foundFault : Int) (v_foundPlace : Int) (v_next : Int) (v_token : Int) (v_tokenPlace : Int) (v_number : Int) (v_draft_boxes : Int) (v_draft_startsAt : Int) (v_draft_facts : Nat → Int) (v_draft_places : Nat → Int) (v_tape_used : Int) (v_tape_bytes : Nat → Int) (x1 : Int) (o : Int × Int × Int × Int × Int × Int × Int × Int × (Nat → Int) × (Nat → Int)) (h : f_TextReader_takesBoxLine v_foundFault v_foundPlace v_next v_token v_tokenPlace v_number v_draft_boxes v_draft_facts v_draft_places v_tape_used v_tape_bytes x1 = some o) : CtI l yX8_takesBoxLine wsX8_takesBoxLine ({ frames := 3, cells := 0, slots := 0, locals := 62 }) D cy sa [.ref a_v, .int (zI x1)] (wd_X8_takesBoxLine cy a_v a_v_draft a_v_draft_facts a_v_draft_places a_v_tape a_v_tape_bytes a_v_ahead v_aheadUsed v_orderTold v_startTold v_lines v_foundFault v_foundPlace v_next v_token v_tokenPlace v_number v_draft_boxes v_draft_startsAt v_draft_facts v_draft_places v_tape_used v_tape_bytes) (wd_X8_takesBoxLine cy a_v a_v_draft a_v_draft_facts a_v_draft_places a_v_tape a_v_tape_bytes a_v_ahead v_aheadUsed v_orderTold v_startTold v_lines o.2.1 o.2.2.1 o.2.2.2.1 o.2.2.2.2.1 o.2.2.2.2.2.1 o.2.2.2.2.2.2.1 o.2.2.2.2.2.2.2.1 v_draft_startsAt o.2.2.2.2.2.2.2.2.1 o.2.2.2.2.2.2.2.2.2 v_tape_used v_tape_bytes) o.1 := by
  refine ct_Z (cc := cX8_takesBoxLine) (maxL := 4) (plainFor_of_name (by decide)) rfl (Nat.le_of_ble_eq_true rfl) ?_
  intro p e s m below meth c A args QQ hx hb hml hown hts hE hDD hP KR ls hl
  have hl : lv_has ls 4 [(0, .ref a_v), (1, .int (zI x1))] := hl
  have hDD : DD A [a_v, a_v_draft, a_v_draft_facts, a_v_draft_places, a_v_tape, a_v_tape_bytes] := hDD
  have hS : va_S A s.heap s.heap [] := va_S.rf
  have q0 := hts (.fieldLink RX8 12 "HatHours$TextReader" "draft" "LHatHours$Shop;") (List.mem_of_getElem? (i := 1) rfl)
  have q1 := hts (.fieldLink RX8 51 "HatHours$TextReader" "number" "I") (List.mem_of_getElem? (i := 3) rfl)
  have q2 := hts (.fieldLink RX8 48 "HatHours$TextReader" "tokenPlace" "I") (List.mem_of_getElem? (i := 2) rfl)
  have iX8 : ∀ w ∈ u_ws RX8 TX8 13, w ∈ wsX8_takesBoxLine := in_slice 79 13 rfl
  have L33 : ∀ (fuel : Nat) (v_foundFault : Int) (v_foundPlace : Int) (v_next : Int) (v_token : Int) (v_tokenPlace : Int) (v_number : Int) (v_draft_boxes : Int) (v_draft_facts : Nat → Int) (v_draft_places : Nat → Int) (x2 : Int) (x3 : Int) (H : Heap) (locs : List Loc) (ls : Array Slot), va_P D vwCl (wd_X8_takesBoxLine cy a_v a_v_draft a_v_draft_facts a_v_draft_places a_v_tape a_v_tape_bytes a_v_ahead v_aheadUsed v_orderTold v_startTold v_lines v_foundFault v_foundPlace v_next v_token v_tokenPlace v_number v_draft_boxes v_draft_startsAt v_draft_facts v_draft_places v_tape_used v_tape_bytes) H → va_S A s.heap H locs → lv_has ls 4 [(0, .ref a_v), (2, .int (zI x2)), (3, .int (zI x3))] → f_TextReader_takesBoxLine_L33 fuel v_foundFault v_foundPlace v_next v_token v_tokenPlace v_number v_draft_boxes v_draft_facts v_draft_places v_tape_used v_tape_bytes x2 x3 = some o → W p l e { frames := 3, cells := 0, slots := 0, locals := 62 } s m args below meth c H locs 0 0 QQ (F0 m 33 ls []) := by
    intro fuel
    induction fuel with
    | zero => intro _ _ _ _ _ _ _ _ _ _ _ H locs ls hP hS hl h; cases h
    | succ fuel ih =>
      intro v_foundFault v_foundPlace v_next v_token v_tokenPlace v_number v_draft_boxes v_draft_facts v_draft_places x2 x3 H locs ls hP hS hl h
      refine lv_iload_n hx hb dX8_takesBoxLine_33 rfl (lv_at hl 2 rfl) ?_
      refine wi_ic hx hb dX8_takesBoxLine_34 ?_
      obtain ⟨hr8, h⟩ := chk_some h
      refine wi_ic_gt (tgt := 81) hx hb dX8_takesBoxLine_35 (by decide) hr8 (by decide) (fun c10 => ?_) (fun c10 => ?_)
      · have h := ite_t c10 h
        refine wi_ic hx hb dX8_takesBoxLine_81 ?_
        obtain rfl := Option.some.inj h
        exact KR _ _ _ _ (z01 (Or.inr rfl)) hP hS dX8_takesBoxLine_82
      · have h := ite_f c10 h
        refine lv_aload_n hx hb dX8_takesBoxLine_38 rfl (lv_at hl 0 rfl) ?_
        obtain ⟨o11, hc12, h⟩ := bnd_some h
        refine cV_i (rest := []) (w2 := (wd_X8_takesBoxLine cy a_v a_v_draft a_v_draft_facts a_v_draft_places a_v_tape a_v_tape_bytes a_v_ahead v_aheadUsed v_orderTold v_startTold v_lines o11.2.1 o11.2.2.1 o11.2.2.2.1 o11.2.2.2.2.1 o11.2.2.2.2.2.1 o11.2.2.2.2.2.2 v_draft_boxes v_draft_startsAt v_draft_facts v_draft_places v_tape_used v_tape_bytes)) ⟨hx, hb, hml, hown, hts⟩ (c_X8_takesToken l D cy sa a_v a_v_tape a_v_tape_bytes a_v_draft a_v_ahead v_aheadUsed v_orderTold v_startTold v_lines v_foundFault v_foundPlace v_next v_token v_tokenPlace v_number v_tape_used v_tape_bytes o11 hc12) (cwV 0 hts gX8_takesBoxLine_X8_takesToken rfl rfl rfl (by decide +kernel) ⟨Nat.le_of_ble_eq_true rfl, Nat.le_of_ble_eq_true rfl⟩) rfl rfl rfl hE hP hDD rfl hS [0, 4, 5] rfl rfl rfl rfl hl.1 (Nat.le_of_ble_eq_true rfl) ⟨Nat.zero_le _, Nat.zero_le _⟩ rfl dX8_takesBoxLine_39 rfl (fun H locs hP hS => ?_)
        obtain ⟨hr13, h⟩ := chk_some h
        refine wi_if_eq (tgt := 60) hx hb dX8_takesBoxLine_42 (by decide) hr13 (fun c15 => ?_) (fun c15 => ?_)
        · have h := ite_t c15 h
          refine wi_ic hx hb dX8_takesBoxLine_60 ?_
          obtain rfl := Option.some.inj h
          exact KR _ _ _ _ (z01 (Or.inl rfl)) hP hS dX8_takesBoxLine_61
        · have h := ite_f c15 h
          refine lv_aload_n hx hb dX8_takesBoxLine_45 rfl (lv_at hl 0 rfl) ?_
          refine lv_iload_n hx hb dX8_takesBoxLine_46 rfl (lv_at hl 2 rfl) ?_
          obtain ⟨o16, hc17, h⟩ := bnd_some h
          refine cS_i (rest := [.ref a_v]) (w2 := (wd_X8_takesBoxLine cy a_v a_v_draft a_v_draft_facts a_v_draft_places a_v_tape a_v_tape_bytes a_v_ahead v_aheadUsed v_orderTold v_startTold v_lines o11.2.1 o11.2.2.1 o11.2.2.2.1 o11.2.2.2.2.1 o11.2.2.2.2.2.1 o11.2.2.2.2.2.2 v_draft_boxes v_draft_startsAt v_draft_facts v_draft_places v_tape_used v_tape_bytes)) ⟨hx, hb, hml, hown, hts⟩ (c_X5_least l D cy sa x3 o16 hc17) (va_cwS 1 hts gX8_takesBoxLine_X5_least rfl rfl rfl (by decide +kernel) ⟨Nat.le_of_ble_eq_true rfl, Nat.le_of_ble_eq_true rfl⟩) hE hP hDD rfl hS [] rfl rfl rfl rfl hl.1 (Nat.le_of_ble_eq_true rfl) ⟨Nat.zero_le _, Nat.zero_le _⟩ rfl dX8_takesBoxLine_47 rfl (fun H locs hP hS => ?_)
          refine lv_iload_n hx hb dX8_takesBoxLine_50 rfl (lv_at hl 2 rfl) ?_
          obtain ⟨o18, hc19, h⟩ := bnd_some h
          refine cS_i (rest := [.int (zI o16), .ref a_v]) (w2 := (wd_X8_takesBoxLine cy a_v a_v_draft a_v_draft_facts a_v_draft_places a_v_tape a_v_tape_bytes a_v_ahead v_aheadUsed v_orderTold v_startTold v_lines o11.2.1 o11.2.2.1 o11.2.2.2.1 o11.2.2.2.2.1 o11.2.2.2.2.2.1 o11.2.2.2.2.2.2 v_draft_boxes v_draft_startsAt v_draft_facts v_draft_places v_tape_used v_tape_bytes)) ⟨hx, hb, hml, hown, hts⟩ (c_X5_most l D cy sa x3 o18 hc19) (va_cwS 1 hts gX8_takesBoxLine_X5_most rfl rfl rfl (by decide +kernel) ⟨Nat.le_of_ble_eq_true rfl, Nat.le_of_ble_eq_true rfl⟩) hE hP hDD rfl hS [] rfl rfl rfl rfl hl.1 (Nat.le_of_ble_eq_true rfl) ⟨Nat.zero_le _, Nat.zero_le _⟩ rfl dX8_takesBoxLine_51 rfl (fun H locs hP hS => ?_)
          obtain ⟨o20, hc21, h⟩ := bnd_some h
          refine cV_i (rest := []) (w2 := (wd_X8_takesBoxLine cy a_v a_v_draft a_v_draft_facts a_v_draft_places a_v_tape a_v_tape_bytes a_v_ahead v_aheadUsed v_orderTold v_startTold v_lines o20.2.1 o20.2.2 o11.2.2.2.1 o11.2.2.2.2.1 o11.2.2.2.2.2.1 o11.2.2.2.2.2.2 v_draft_boxes v_draft_startsAt v_draft_facts v_draft_places v_tape_used v_tape_bytes)) ⟨hx, hb, hml, hown, hts⟩ (c_X8_isNumberWithin l D cy sa a_v a_v_tape a_v_draft a_v_ahead v_aheadUsed v_orderTold v_startTold v_lines o11.2.1 o11.2.2.1 o11.2.2.2.1 o11.2.2.2.2.1 o11.2.2.2.2.2.1 o11.2.2.2.2.2.2 o16 o18 o20 hc21) (cwV 2 hts gX8_takesBoxLine_X8_isNumberWithin rfl rfl rfl (by decide +kernel) ⟨Nat.le_of_ble_eq_true rfl, Nat.le_of_ble_eq_true rfl⟩) rfl rfl rfl hE hP hDD rfl hS [0] rfl rfl rfl rfl hl.1 (Nat.le_of_ble_eq_true rfl) ⟨Nat.zero_le _, Nat.zero_le _⟩ rfl dX8_takesBoxLine_54 rfl (fun H locs hP hS => ?_)
          obtain ⟨hr22, h⟩ := chk_some h
          refine wi_if_ne (tgt := 62) hx hb dX8_takesBoxLine_57 (by decide) hr22 (fun c24 => ?_) (fun c24 => ?_)
          · have h := ite_f c24 h
            refine lv_aload_n hx hb dX8_takesBoxLine_62 rfl (lv_at hl 0 rfl) ?_
            refine wi_get (v := .ref a_v_draft) hx hb hts iX8 hown hE hP 0 rfl rfl 1 (by decide) q0 rfl dX8_takesBoxLine_63 ?_
            refine lv_iload_n hx hb dX8_takesBoxLine_66 rfl (lv_at hl 1 rfl) ?_
            refine lv_iload_n hx hb dX8_takesBoxLine_67 rfl (lv_at hl 2 rfl) ?_
            refine lv_aload_n hx hb dX8_takesBoxLine_68 rfl (lv_at hl 0 rfl) ?_
            refine wi_get (v := .int (zI o11.2.2.2.2.2.2)) hx hb hts iX8 hown hE hP 0 rfl rfl 12 (by decide) q1 rfl dX8_takesBoxLine_69 ?_
            obtain ⟨o25, hc26, h⟩ := bnd_some h
            refine cV_v (rest := []) (w2 := (wd_X8_takesBoxLine cy a_v a_v_draft a_v_draft_facts a_v_draft_places a_v_tape a_v_tape_bytes a_v_ahead v_aheadUsed v_orderTold v_startTold v_lines o20.2.1 o20.2.2 o11.2.2.2.1 o11.2.2.2.2.1 o11.2.2.2.2.2.1 o11.2.2.2.2.2.2 v_draft_boxes v_draft_startsAt o25 v_draft_places v_tape_used v_tape_bytes)) ⟨hx, hb, hml, hown, hts⟩ (c_X5_setFact l D cy sa a_v_draft a_v_draft_facts a_v_draft_places v_draft_boxes v_draft_startsAt v_draft_facts x2 x3 o11.2.2.2.2.2.2 o25 hc26) (cwV 3 hts gX8_takesBoxLine_X5_setFact rfl rfl rfl (by decide +kernel) ⟨Nat.le_of_ble_eq_true rfl, Nat.le_of_ble_eq_true rfl⟩) rfl rfl rfl hE hP hDD rfl hS [1, 2] rfl rfl rfl rfl hl.1 (Nat.le_of_ble_eq_true rfl) ⟨Nat.zero_le _, Nat.zero_le _⟩ rfl dX8_takesBoxLine_72 rfl (fun H locs hP hS => ?_)
            refine wi_iinc (k := 2) (lv' := [(3, .int (zI (x3 + 1))), (0, .ref a_v), (2, .int (zI x2))]) hx hb dX8_takesBoxLine_75 hl rfl (by decide) rfl (fun ls hl => ?_)
            refine lv_goto (tgt := 33) hx hb dX8_takesBoxLine_78 (by decide) ?_
            exact ih o20.2.1 o20.2.2 o11.2.2.2.1 o11.2.2.2.2.1 o11.2.2.2.2.2.1 o11.2.2.2.2.2.2 v_draft_boxes o25 v_draft_places x2 (x3 + 1) _ _ _ hP hS (lv_sub hl [1, 2, 0] rfl) h
          · have h := ite_t c24 h
            refine wi_ic hx hb dX8_takesBoxLine_60 ?_
            obtain rfl := Option.some.inj h
            exact KR _ _ _ _ (z01 (Or.inl rfl)) hP hS dX8_takesBoxLine_61
  refine lv_aload_n hx hb dX8_takesBoxLine_0 rfl (lv_at hl 0 rfl) ?_
  refine wi_get (v := .ref a_v_draft) hx hb hts iX8 hown hE hP 0 rfl rfl 1 (by decide) q0 rfl dX8_takesBoxLine_1 ?_
  obtain ⟨o1, hc2, h⟩ := bnd_some h
  refine cV_i (rest := []) (w2 := (wd_X8_takesBoxLine cy a_v a_v_draft a_v_draft_facts a_v_draft_places a_v_tape a_v_tape_bytes a_v_ahead v_aheadUsed v_orderTold v_startTold v_lines v_foundFault v_foundPlace v_next v_token v_tokenPlace v_number v_draft_boxes v_draft_startsAt v_draft_facts v_draft_places v_tape_used v_tape_bytes)) ⟨hx, hb, hml, hown, hts⟩ (c_X5_isFull l D cy sa a_v_draft a_v_draft_facts a_v_draft_places v_draft_boxes v_draft_startsAt o1 hc2) (cwV 0 hts gX8_takesBoxLine_X5_isFull rfl rfl rfl (by decide +kernel) ⟨Nat.le_of_ble_eq_true rfl, Nat.le_of_ble_eq_true rfl⟩) rfl rfl rfl hE hP hDD rfl hS [1] rfl rfl rfl rfl hl.1 (Nat.le_of_ble_eq_true rfl) ⟨Nat.zero_le _, Nat.zero_le _⟩ rfl dX8_takesBoxLine_4 rfl (fun H locs hP hS => ?_)
  obtain ⟨hr3, h⟩ := chk_some h
  refine wi_if_eq (tgt := 20) hx hb dX8_takesBoxLine_7 (by decide) hr3 (fun c5 => ?_) (fun c5 => ?_)
  · have h := ite_t c5 h
    refine lv_aload_n hx hb dX8_takesBoxLine_20 rfl (lv_at hl 0 rfl) ?_
    refine wi_get (v := .ref a_v_draft) hx hb hts iX8 hown hE hP 0 rfl rfl 1 (by decide) q0 rfl dX8_takesBoxLine_21 ?_
    refine lv_iload_n hx hb dX8_takesBoxLine_24 rfl (lv_at hl 1 rfl) ?_
    refine wi_ic hx hb dX8_takesBoxLine_25 ?_
    refine wi_ic hx hb dX8_takesBoxLine_26 ?_
    obtain ⟨o6, hc7, h⟩ := bnd_some h
    refine cV_i (rest := []) (w2 := (wd_X8_takesBoxLine cy a_v a_v_draft a_v_draft_facts a_v_draft_places a_v_tape a_v_tape_bytes a_v_ahead v_aheadUsed v_orderTold v_startTold v_lines v_foundFault v_foundPlace v_next v_token v_tokenPlace v_number o6.2.1 v_draft_startsAt o6.2.2.1 o6.2.2.2 v_tape_used v_tape_bytes)) ⟨hx, hb, hml, hown, hts⟩ (c_X5_addPlain l D cy sa a_v_draft a_v_draft_facts a_v_draft_places v_draft_boxes v_draft_startsAt v_draft_facts v_draft_places x1 1 0 o6 hc7) (cwV 3 hts gX8_takesBoxLine_X5_addPlain rfl rfl rfl (by decide +kernel) ⟨Nat.le_of_ble_eq_true rfl, Nat.le_of_ble_eq_true rfl⟩) rfl rfl rfl hE hP hDD rfl hS [1, 2, 3] rfl rfl rfl rfl hl.1 (Nat.le_of_ble_eq_true rfl) ⟨Nat.zero_le _, Nat.zero_le _⟩ rfl dX8_takesBoxLine_27 rfl (fun H locs hP hS => ?_)
    refine lv_istore_n (lv' := [(2, .int (zI o6.1)), (0, .ref a_v), (1, .int (zI x1))]) hx hb dX8_takesBoxLine_30 rfl hl (by decide) rfl (fun ls hl => ?_)
    refine wi_ic hx hb dX8_takesBoxLine_31 ?_
    refine lv_istore_n (lv' := [(3, .int (zI 1)), (2, .int (zI o6.1)), (0, .ref a_v), (1, .int (zI x1))]) hx hb dX8_takesBoxLine_32 rfl hl (by decide) rfl (fun ls hl => ?_)
    exact L33 5000 v_foundFault v_foundPlace v_next v_token v_tokenPlace v_number o6.2.1 o6.2.2.1 o6.2.2.2 o6.1 1 _ _ _ hP hS (lv_sub hl [2, 1, 0] rfl) h
  · have h := ite_f c5 h
    refine lv_aload_n hx hb dX8_takesBoxLine_10 rfl (lv_at hl 0 rfl) ?_
    refine wi_ic hx hb dX8_takesBoxLine_11 ?_
    refine lv_aload_n hx hb dX8_takesBoxLine_12 rfl (lv_at hl 0 rfl) ?_
    refine wi_get (v := .int (zI v_tokenPlace)) hx hb hts iX8 hown hE hP 0 rfl rfl 11 (by decide) q2 rfl dX8_takesBoxLine_13 ?_
    obtain ⟨o27, hc28, h⟩ := bnd_some h
    refine cV_i (rest := []) (w2 := (wd_X8_takesBoxLine cy a_v a_v_draft a_v_draft_facts a_v_draft_places a_v_tape a_v_tape_bytes a_v_ahead v_aheadUsed v_orderTold v_startTold v_lines o27.2.1 o27.2.2 v_next v_token v_tokenPlace v_number v_draft_boxes v_draft_startsAt v_draft_facts v_draft_places v_tape_used v_tape_bytes)) ⟨hx, hb, hml, hown, hts⟩ (c_X8_failed l D cy sa a_v a_v_tape a_v_draft a_v_ahead v_aheadUsed v_orderTold v_startTold v_lines v_foundFault v_foundPlace v_next v_token v_tokenPlace v_number 5 v_tokenPlace o27 hc28) (cwV 2 hts gX8_takesBoxLine_X8_failed rfl rfl rfl (by decide +kernel) ⟨Nat.le_of_ble_eq_true rfl, Nat.le_of_ble_eq_true rfl⟩) rfl rfl rfl hE hP hDD rfl hS [0] rfl rfl rfl rfl hl.1 (Nat.le_of_ble_eq_true rfl) ⟨Nat.zero_le _, Nat.zero_le _⟩ rfl dX8_takesBoxLine_16 rfl (fun H locs hP hS => ?_)
    obtain ⟨hk29, h⟩ := chk_some h
    obtain rfl := Option.some.inj h
    exact KR _ _ _ _ (z01 hk29) hP hS dX8_takesBoxLine_19
abbrev wd_X8_faultFound (cy : Nat → ClassId) (a_v : Nat) (a_v_tape : Nat) (a_v_draft : Nat) (a_v_ahead : Nat) (v_aheadUsed : Int) (v_orderTold : Int) (v_startTold : Int) (v_lines : Int) (v_foundFault : Int) (v_foundPlace : Int) (v_next : Int) (v_token : Int) (v_tokenPlace : Int) (v_number : Int) : va_W := [(a_v, .inr (8, [.ref a_v_tape, .ref a_v_draft, .ref a_v_ahead, .int (zI v_aheadUsed), .int (zI v_orderTold), .int (zI v_startTold), .int (zI v_lines), .int (zI v_foundFault), .int (zI v_foundPlace), .int (zI v_next), .int (zI v_token), .int (zI v_tokenPlace), .int (zI v_number)]))]
set_option maxHeartbeats 4000000 in
set_option maxRecDepth 100000 in
theorem c_X8_faultFound (l : Launch) (D : va_G) (cy : Nat → ClassId) (sa : Nat → Nat) (a_v : Nat) (a_v_tape : Nat) (a_v_draft : Nat) (a_v_ahead : Nat) (v_aheadUsed : Int) (v_orderTold : Int) (v_startTold : Int) (v_lines : Int) (v_foundFault : Int) (v_foundPlace : Int) (v_next : Int) (v_token : Int) (v_tokenPlace : Int) (v_number : Int) (o : Int) (h : f_TextReader_faultFound v_foundFault = some o) : CtI l yX8_faultFound wsX8_faultFound ({ frames := 0, cells := 0, slots := 0, locals := 0 }) D cy sa [.ref a_v] (wd_X8_faultFound cy a_v a_v_tape a_v_draft a_v_ahead v_aheadUsed v_orderTold v_startTold v_lines v_foundFault v_foundPlace v_next v_token v_tokenPlace v_number) (wd_X8_faultFound cy a_v a_v_tape a_v_draft a_v_ahead v_aheadUsed v_orderTold v_startTold v_lines v_foundFault v_foundPlace v_next v_token v_tokenPlace v_number) o := by
  refine ct_I (cc := cX8_faultFound) (maxL := 1) (plainFor_of_name (by decide)) rfl (Nat.le_of_ble_eq_true rfl) ?_
  intro p e s m below meth c A args QQ hx hb hml hown hts hE hDD hP KR ls hl
  have hl : lv_has ls 1 [(0, .ref a_v)] := hl
  have hDD : DD A [a_v] := hDD
  have hS : va_S A s.heap s.heap [] := va_S.rf
  have q0 := hts (.fieldLink RX8 36 "HatHours$TextReader" "foundFault" "I") (List.mem_of_getElem? (i := 1) rfl)
  have iX8 : ∀ w ∈ u_ws RX8 TX8 13, w ∈ wsX8_faultFound := in_slice 2 13 rfl
  refine lv_aload_n hx hb dX8_faultFound_0 rfl (lv_at hl 0 rfl) ?_
  refine wi_get (v := .int (zI v_foundFault)) hx hb hts iX8 hown hE hP 0 rfl rfl 7 (by decide) q0 rfl dX8_faultFound_1 ?_
  obtain rfl := Option.some.inj h
  exact KR _ _ _ _ hP hS dX8_faultFound_4
abbrev wd_X8_faultPlace (cy : Nat → ClassId) (a_v : Nat) (a_v_tape : Nat) (a_v_draft : Nat) (a_v_ahead : Nat) (v_aheadUsed : Int) (v_orderTold : Int) (v_startTold : Int) (v_lines : Int) (v_foundFault : Int) (v_foundPlace : Int) (v_next : Int) (v_token : Int) (v_tokenPlace : Int) (v_number : Int) : va_W := [(a_v, .inr (8, [.ref a_v_tape, .ref a_v_draft, .ref a_v_ahead, .int (zI v_aheadUsed), .int (zI v_orderTold), .int (zI v_startTold), .int (zI v_lines), .int (zI v_foundFault), .int (zI v_foundPlace), .int (zI v_next), .int (zI v_token), .int (zI v_tokenPlace), .int (zI v_number)]))]
set_option maxHeartbeats 4000000 in
set_option maxRecDepth 100000 in
theorem c_X8_faultPlace (l : Launch) (D : va_G) (cy : Nat → ClassId) (sa : Nat → Nat) (a_v : Nat) (a_v_tape : Nat) (a_v_draft : Nat) (a_v_ahead : Nat) (v_aheadUsed : Int) (v_orderTold : Int) (v_startTold : Int) (v_lines : Int) (v_foundFault : Int) (v_foundPlace : Int) (v_next : Int) (v_token : Int) (v_tokenPlace : Int) (v_number : Int) (o : Int) (h : f_TextReader_faultPlace v_foundPlace = some o) : CtI l yX8_faultPlace wsX8_faultPlace ({ frames := 0, cells := 0, slots := 0, locals := 0 }) D cy sa [.ref a_v] (wd_X8_faultPlace cy a_v a_v_tape a_v_draft a_v_ahead v_aheadUsed v_orderTold v_startTold v_lines v_foundFault v_foundPlace v_next v_token v_tokenPlace v_number) (wd_X8_faultPlace cy a_v a_v_tape a_v_draft a_v_ahead v_aheadUsed v_orderTold v_startTold v_lines v_foundFault v_foundPlace v_next v_token v_tokenPlace v_number) o := by
  refine ct_I (cc := cX8_faultPlace) (maxL := 1) (plainFor_of_name (by decide)) rfl (Nat.le_of_ble_eq_true rfl) ?_
  intro p e s m below meth c A args QQ hx hb hml hown hts hE hDD hP KR ls hl
  have hl : lv_has ls 1 [(0, .ref a_v)] := hl
  have hDD : DD A [a_v] := hDD
  have hS : va_S A s.heap s.heap [] := va_S.rf
  have q0 := hts (.fieldLink RX8 39 "HatHours$TextReader" "foundPlace" "I") (List.mem_of_getElem? (i := 1) rfl)
  have iX8 : ∀ w ∈ u_ws RX8 TX8 13, w ∈ wsX8_faultPlace := in_slice 2 13 rfl
  refine lv_aload_n hx hb dX8_faultPlace_0 rfl (lv_at hl 0 rfl) ?_
  refine wi_get (v := .int (zI v_foundPlace)) hx hb hts iX8 hown hE hP 0 rfl rfl 8 (by decide) q0 rfl dX8_faultPlace_1 ?_
  obtain rfl := Option.some.inj h
  exact KR _ _ _ _ hP hS dX8_faultPlace_4
abbrev wd_X8_draft (cy : Nat → ClassId) (a_v : Nat) (a_v_tape : Nat) (a_v_draft : Nat) (a_v_ahead : Nat) (v_aheadUsed : Int) (v_orderTold : Int) (v_startTold : Int) (v_lines : Int) (v_foundFault : Int) (v_foundPlace : Int) (v_next : Int) (v_token : Int) (v_tokenPlace : Int) (v_number : Int) : va_W := [(a_v, .inr (8, [.ref a_v_tape, .ref a_v_draft, .ref a_v_ahead, .int (zI v_aheadUsed), .int (zI v_orderTold), .int (zI v_startTold), .int (zI v_lines), .int (zI v_foundFault), .int (zI v_foundPlace), .int (zI v_next), .int (zI v_token), .int (zI v_tokenPlace), .int (zI v_number)]))]
set_option maxHeartbeats 4000000 in
set_option maxRecDepth 100000 in
theorem c_X8_draft (l : Launch) (D : va_G) (cy : Nat → ClassId) (sa : Nat → Nat) (a_v : Nat) (a_v_tape : Nat) (a_v_draft : Nat) (a_v_ahead : Nat) (v_aheadUsed : Int) (v_orderTold : Int) (v_startTold : Int) (v_lines : Int) (v_foundFault : Int) (v_foundPlace : Int) (v_next : Int) (v_token : Int) (v_tokenPlace : Int) (v_number : Int) (o : Unit) (h : f_TextReader_draft  = some o) : CtR l yX8_draft wsX8_draft ({ frames := 0, cells := 0, slots := 0, locals := 0 }) D cy sa [.ref a_v] (wd_X8_draft cy a_v a_v_tape a_v_draft a_v_ahead v_aheadUsed v_orderTold v_startTold v_lines v_foundFault v_foundPlace v_next v_token v_tokenPlace v_number) (wd_X8_draft cy a_v a_v_tape a_v_draft a_v_ahead v_aheadUsed v_orderTold v_startTold v_lines v_foundFault v_foundPlace v_next v_token v_tokenPlace v_number) a_v_draft := by
  refine ct_R (cc := cX8_draft) (maxL := 1) (plainFor_of_name (by decide)) rfl (Nat.le_of_ble_eq_true rfl) ?_
  intro p e s m below meth c A args QQ hx hb hml hown hts hE hDD hP KR ls hl
  have hl : lv_has ls 1 [(0, .ref a_v)] := hl
  have hDD : DD A [a_v] := hDD
  have hS : va_S A s.heap s.heap [] := va_S.rf
  have q0 := hts (.fieldLink RX8 12 "HatHours$TextReader" "draft" "LHatHours$Shop;") (List.mem_of_getElem? (i := 1) rfl)
  have iX8 : ∀ w ∈ u_ws RX8 TX8 13, w ∈ wsX8_draft := in_slice 2 13 rfl
  refine lv_aload_n hx hb dX8_draft_0 rfl (lv_at hl 0 rfl) ?_
  refine wi_get (v := .ref a_v_draft) hx hb hts iX8 hown hE hP 0 rfl rfl 1 (by decide) q0 rfl dX8_draft_1 ?_
  obtain rfl := Option.some.inj h
  exact KR _ _ _ _ hP hS dX8_draft_4
abbrev wd_X8_linesRead (cy : Nat → ClassId) (a_v : Nat) (a_v_tape : Nat) (a_v_draft : Nat) (a_v_ahead : Nat) (v_aheadUsed : Int) (v_orderTold : Int) (v_startTold : Int) (v_lines : Int) (v_foundFault : Int) (v_foundPlace : Int) (v_next : Int) (v_token : Int) (v_tokenPlace : Int) (v_number : Int) : va_W := [(a_v, .inr (8, [.ref a_v_tape, .ref a_v_draft, .ref a_v_ahead, .int (zI v_aheadUsed), .int (zI v_orderTold), .int (zI v_startTold), .int (zI v_lines), .int (zI v_foundFault), .int (zI v_foundPlace), .int (zI v_next), .int (zI v_token), .int (zI v_tokenPlace), .int (zI v_number)]))]
set_option maxHeartbeats 4000000 in
set_option maxRecDepth 100000 in
theorem c_X8_linesRead (l : Launch) (D : va_G) (cy : Nat → ClassId) (sa : Nat → Nat) (a_v : Nat) (a_v_tape : Nat) (a_v_draft : Nat) (a_v_ahead : Nat) (v_aheadUsed : Int) (v_orderTold : Int) (v_startTold : Int) (v_lines : Int) (v_foundFault : Int) (v_foundPlace : Int) (v_next : Int) (v_token : Int) (v_tokenPlace : Int) (v_number : Int) (o : Int) (h : f_TextReader_linesRead v_lines = some o) : CtI l yX8_linesRead wsX8_linesRead ({ frames := 0, cells := 0, slots := 0, locals := 0 }) D cy sa [.ref a_v] (wd_X8_linesRead cy a_v a_v_tape a_v_draft a_v_ahead v_aheadUsed v_orderTold v_startTold v_lines v_foundFault v_foundPlace v_next v_token v_tokenPlace v_number) (wd_X8_linesRead cy a_v a_v_tape a_v_draft a_v_ahead v_aheadUsed v_orderTold v_startTold v_lines v_foundFault v_foundPlace v_next v_token v_tokenPlace v_number) o := by
  refine ct_I (cc := cX8_linesRead) (maxL := 1) (plainFor_of_name (by decide)) rfl (Nat.le_of_ble_eq_true rfl) ?_
  intro p e s m below meth c A args QQ hx hb hml hown hts hE hDD hP KR ls hl
  have hl : lv_has ls 1 [(0, .ref a_v)] := hl
  have hDD : DD A [a_v] := hDD
  have hS : va_S A s.heap s.heap [] := va_S.rf
  have q0 := hts (.fieldLink RX8 33 "HatHours$TextReader" "lines" "I") (List.mem_of_getElem? (i := 1) rfl)
  have iX8 : ∀ w ∈ u_ws RX8 TX8 13, w ∈ wsX8_linesRead := in_slice 2 13 rfl
  refine lv_aload_n hx hb dX8_linesRead_0 rfl (lv_at hl 0 rfl) ?_
  refine wi_get (v := .int (zI v_lines)) hx hb hts iX8 hown hE hP 0 rfl rfl 6 (by decide) q0 rfl dX8_linesRead_1 ?_
  obtain rfl := Option.some.inj h
  exact KR _ _ _ _ hP hS dX8_linesRead_4
