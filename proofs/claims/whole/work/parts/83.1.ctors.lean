set_option maxHeartbeats 40000000 in
set_option maxRecDepth 100000 in
theorem k_X7_init (l : Launch) (D : va_G) (cy : Nat → ClassId) (sa : Nat → Nat) (a0 : Nat) : CtC l yX7_init wsX7_init ({ frames := 1, cells := 1, slots := 160, locals := 20 }) D cy sa [.ref a0] [(a0, .inr (7, [.null, .int (zI 0)]))] (fun u => [(a0, .inr (7, [.ref (u.getD 0 0), .int (zI 0)])), ((u.getD 0 0), .inl (cy 1, 160, .inl (fun j => zI ((fun _ => 0) j))))]) 1 160 := by
  refine ct_C (cc := cX7_init) (maxL := 1) (plainFor_of_name (by decide)) rfl (Nat.le_of_ble_eq_true rfl) ?_
  intro p e s m below meth c A args QQ hx hb hml hown hts hnm hAO hE hD hP KR ls hl
  have hnm : meth.name = "<init>" := hnm
  have hl : lv_has ls 1 [(0, .ref a0)] := hl
  have hS : va_S A s.heap s.heap [] := va_S.rf
  have q0 := hts (.methodLink RX7 3 objectInit) (List.mem_of_getElem? (i := 1) rfl)
  have q1 := hts (.instanceMethod objectInit) (List.mem_of_getElem? (i := 2) rfl)
  have q2 := hts (.code objectInit ⟨#[0xb1]⟩ 1 none) (List.mem_of_getElem? (i := 3) rfl)
  have q3 := hts (.arrayClass .byte) (List.mem_of_getElem? (i := 4) rfl)
  have q4 := hts (.fieldLink RX7 11 "HatHours$Tape" "bytes" "[B") (List.mem_of_getElem? (i := 5) rfl)
  have q5 := hts (.fieldLink RX7 15 "HatHours$Tape" "used" "I") (List.mem_of_getElem? (i := 6) rfl)
  have iX7 : ∀ w ∈ u_ws RX7 TX7 2, w ∈ wsX7_init := in_slice 7 2 rfl
  refine lv_aload_n hx hb dX7_init_0 rfl (lv_at hl 0 rfl) ?_
  refine W.objInit hx hb hown q0 q1 q2 rfl (by rw [hml]; exact hl.1) rfl dX7_init_1 (Nat.le_of_ble_eq_true rfl) (Nat.le_of_ble_eq_true rfl) ?_
  refine W.eq (g2 := F0 m 4 ls []) rfl ?_
  refine lv_aload_n hx hb dX7_init_4 rfl (lv_at hl 0 rfl) ?_
  refine wi_si hx hb dX7_init_5 (by decide) ?_
  refine wi_newB (n := 160) hx hb q3 hE hP hD hS (by decide) (Nat.le_of_ble_eq_true rfl) (Nat.le_of_ble_eq_true rfl) dX7_init_8 (fun b8 H hP hD hS => ?_)
  have hP : va_P D vwCl [(a0, .inr (7, [.null, .int (zI 0)])), (b8, .inl (cy 1, 160, .inl (fun j => zI ((fun _ => 0) j))))] H := hP
  have hD : va_D A [(a0, .inr (7, [.null, .int (zI 0)])), (b8, .inl (cy 1, 160, .inl (fun j => zI ((fun _ => 0) j))))] := hD
  refine wi_putF (ty := .array .byte) (v := .ref b8) (w2 := [(a0, .inr (7, [.ref b8, .int (zI 0)])), (b8, .inl (cy 1, 160, .inl (fun j => zI ((fun _ => 0) j))))]) hx hb hts iX7 tyX7 tyX7_ok nmX7 hown hE hP hD hS 0 rfl rfl 0 (by decide) q4 rfl hnm rfl (by decide +kernel) rfl rfl (Nat.le_of_ble_eq_true rfl) dX7_init_10 rfl (fun H locs hP hS => ?_)
  have hD : va_D A [(a0, .inr (7, [.ref b8, .int (zI 0)])), (b8, .inl (cy 1, 160, .inl (fun j => zI ((fun _ => 0) j))))] := (DD.of hD).d rfl
  refine lv_aload_n hx hb dX7_init_13 rfl (lv_at hl 0 rfl) ?_
  refine wi_ic hx hb dX7_init_14 ?_
  refine wi_put (ty := .int) (v := .int (zI 0)) (w2 := [(a0, .inr (7, [.ref b8, .int (zI 0)])), (b8, .inl (cy 1, 160, .inl (fun j => zI ((fun _ => 0) j))))]) hx hb hts iX7 tyX7 tyX7_ok nmX7 hown hE hP (DD.of hD) rfl hS 0 rfl rfl 1 (by decide) q5 rfl (by decide +kernel) rfl rfl (Nat.le_of_ble_eq_true rfl) dX7_init_15 rfl (fun H locs hP hS => ?_)
  have hD : va_D A [(a0, .inr (7, [.ref b8, .int (zI 0)])), (b8, .inl (cy 1, 160, .inl (fun j => zI ((fun _ => 0) j))))] := (DD.of hD).d rfl
  exact KR _ _ _ _ [b8] hP hD hS dX7_init_18
set_option maxHeartbeats 40000000 in
set_option maxRecDepth 100000 in
theorem k_X1_init (l : Launch) (D : va_G) (cy : Nat → ClassId) (sa : Nat → Nat) (a0 : Nat) : CtC l yX1_init wsX1_init ({ frames := 1, cells := 0, slots := 0, locals := 20 }) D cy sa [.ref a0] [(a0, .inr (1, [.int (zI 0), .int (zI 0)]))] (fun u => [(a0, .inr (1, [.int (zI (-4)), .int (zI 0)]))]) 0 0 := by
  refine ct_C (cc := cX1_init) (maxL := 1) (plainFor_of_name (by decide)) rfl (Nat.le_of_ble_eq_true rfl) ?_
  intro p e s m below meth c A args QQ hx hb hml hown hts hnm hAO hE hD hP KR ls hl
  have hnm : meth.name = "<init>" := hnm
  have hl : lv_has ls 1 [(0, .ref a0)] := hl
  have hS : va_S A s.heap s.heap [] := va_S.rf
  have q0 := hts (.methodLink RX1 3 objectInit) (List.mem_of_getElem? (i := 1) rfl)
  have q1 := hts (.instanceMethod objectInit) (List.mem_of_getElem? (i := 2) rfl)
  have q2 := hts (.code objectInit ⟨#[0xb1]⟩ 1 none) (List.mem_of_getElem? (i := 3) rfl)
  have q3 := hts (.fieldLink RX1 9 "HatHours$Least" "at" "I") (List.mem_of_getElem? (i := 4) rfl)
  have q4 := hts (.fieldLink RX1 15 "HatHours$Least" "value" "I") (List.mem_of_getElem? (i := 5) rfl)
  have iX1 : ∀ w ∈ u_ws RX1 TX1 2, w ∈ wsX1_init := in_slice 6 2 rfl
  refine lv_aload_n hx hb dX1_init_0 rfl (lv_at hl 0 rfl) ?_
  refine W.objInit hx hb hown q0 q1 q2 rfl (by rw [hml]; exact hl.1) rfl dX1_init_1 (Nat.le_of_ble_eq_true rfl) (Nat.le_of_ble_eq_true rfl) ?_
  refine W.eq (g2 := F0 m 4 ls []) rfl ?_
  refine lv_aload_n hx hb dX1_init_4 rfl (lv_at hl 0 rfl) ?_
  refine wi_bi hx hb dX1_init_5 (by decide) ?_
  refine wi_put (ty := .int) (v := .int (zI (-4))) (w2 := [(a0, .inr (1, [.int (zI (-4)), .int (zI 0)]))]) hx hb hts iX1 tyX1 tyX1_ok nmX1 hown hE hP (DD.of hD) rfl hS 0 rfl rfl 0 (by decide) q3 rfl (by decide +kernel) rfl rfl (Nat.le_of_ble_eq_true rfl) dX1_init_7 rfl (fun H locs hP hS => ?_)
  have hD : va_D A [(a0, .inr (1, [.int (zI (-4)), .int (zI 0)]))] := (DD.of hD).d rfl
  refine lv_aload_n hx hb dX1_init_10 rfl (lv_at hl 0 rfl) ?_
  refine wi_ic hx hb dX1_init_11 ?_
  refine wi_put (ty := .int) (v := .int (zI 0)) (w2 := [(a0, .inr (1, [.int (zI (-4)), .int (zI 0)]))]) hx hb hts iX1 tyX1 tyX1_ok nmX1 hown hE hP (DD.of hD) rfl hS 0 rfl rfl 1 (by decide) q4 rfl (by decide +kernel) rfl rfl (Nat.le_of_ble_eq_true rfl) dX1_init_12 rfl (fun H locs hP hS => ?_)
  have hD : va_D A [(a0, .inr (1, [.int (zI (-4)), .int (zI 0)]))] := (DD.of hD).d rfl
  exact KR _ _ _ _ [] hP hD hS dX1_init_15
set_option maxHeartbeats 40000000 in
set_option maxRecDepth 100000 in
theorem k_X2_init (l : Launch) (D : va_G) (cy : Nat → ClassId) (sa : Nat → Nat) (a0 : Nat) : CtC l yX2_init wsX2_init ({ frames := 1, cells := 1, slots := 6, locals := 20 }) D cy sa [.ref a0] [(a0, .inr (2, [.null, .long (zL 0), .long (zL 0)]))] (fun u => [(a0, .inr (2, [.ref (u.getD 0 0), .long (zL 0), .long (zL 1)])), ((u.getD 0 0), .inl (cy 2, 6, .inr (.inl (fun j => zL ((fun _ => 0) j)))))]) 1 6 := by
  refine ct_C (cc := cX2_init) (maxL := 1) (plainFor_of_name (by decide)) rfl (Nat.le_of_ble_eq_true rfl) ?_
  intro p e s m below meth c A args QQ hx hb hml hown hts hnm hAO hE hD hP KR ls hl
  have hnm : meth.name = "<init>" := hnm
  have hl : lv_has ls 1 [(0, .ref a0)] := hl
  have hS : va_S A s.heap s.heap [] := va_S.rf
  have q0 := hts (.methodLink RX2 3 objectInit) (List.mem_of_getElem? (i := 1) rfl)
  have q1 := hts (.instanceMethod objectInit) (List.mem_of_getElem? (i := 2) rfl)
  have q2 := hts (.code objectInit ⟨#[0xb1]⟩ 1 none) (List.mem_of_getElem? (i := 3) rfl)
  have q3 := hts (.arrayClass .long) (List.mem_of_getElem? (i := 4) rfl)
  have q4 := hts (.fieldLink RX2 11 "HatHours$Odds" "ways" "[J") (List.mem_of_getElem? (i := 5) rfl)
  have q5 := hts (.fieldLink RX2 17 "HatHours$Odds" "upper" "J") (List.mem_of_getElem? (i := 6) rfl)
  have q6 := hts (.fieldLink RX2 21 "HatHours$Odds" "lower" "J") (List.mem_of_getElem? (i := 7) rfl)
  have iX2 : ∀ w ∈ u_ws RX2 TX2 3, w ∈ wsX2_init := in_slice 8 3 rfl
  refine lv_aload_n hx hb dX2_init_0 rfl (lv_at hl 0 rfl) ?_
  refine W.objInit hx hb hown q0 q1 q2 rfl (by rw [hml]; exact hl.1) rfl dX2_init_1 (Nat.le_of_ble_eq_true rfl) (Nat.le_of_ble_eq_true rfl) ?_
  refine W.eq (g2 := F0 m 4 ls []) rfl ?_
  refine lv_aload_n hx hb dX2_init_4 rfl (lv_at hl 0 rfl) ?_
  refine wi_bi hx hb dX2_init_5 (by decide) ?_
  refine wi_newJ (n := 6) hx hb q3 hE hP hD hS (by decide) (Nat.le_of_ble_eq_true rfl) (Nat.le_of_ble_eq_true rfl) dX2_init_7 (fun b7 H hP hD hS => ?_)
  have hP : va_P D vwCl [(a0, .inr (2, [.null, .long (zL 0), .long (zL 0)])), (b7, .inl (cy 2, 6, .inr (.inl (fun j => zL ((fun _ => 0) j)))))] H := hP
  have hD : va_D A [(a0, .inr (2, [.null, .long (zL 0), .long (zL 0)])), (b7, .inl (cy 2, 6, .inr (.inl (fun j => zL ((fun _ => 0) j)))))] := hD
  refine wi_putF (ty := .array .long) (v := .ref b7) (w2 := [(a0, .inr (2, [.ref b7, .long (zL 0), .long (zL 0)])), (b7, .inl (cy 2, 6, .inr (.inl (fun j => zL ((fun _ => 0) j)))))]) hx hb hts iX2 tyX2 tyX2_ok nmX2 hown hE hP hD hS 0 rfl rfl 0 (by decide) q4 rfl hnm rfl (by decide +kernel) rfl rfl (Nat.le_of_ble_eq_true rfl) dX2_init_9 rfl (fun H locs hP hS => ?_)
  have hD : va_D A [(a0, .inr (2, [.ref b7, .long (zL 0), .long (zL 0)])), (b7, .inl (cy 2, 6, .inr (.inl (fun j => zL ((fun _ => 0) j)))))] := (DD.of hD).d rfl
  refine lv_aload_n hx hb dX2_init_12 rfl (lv_at hl 0 rfl) ?_
  refine wi_lc (v := 0) hx hb dX2_init_13 rfl ?_
  refine wi_put (ty := .long) (v := .long (zL 0)) (w2 := [(a0, .inr (2, [.ref b7, .long (zL 0), .long (zL 0)])), (b7, .inl (cy 2, 6, .inr (.inl (fun j => zL ((fun _ => 0) j)))))]) hx hb hts iX2 tyX2 tyX2_ok nmX2 hown hE hP (DD.of hD) rfl hS 0 rfl rfl 1 (by decide) q5 rfl (by decide +kernel) rfl rfl (Nat.le_of_ble_eq_true rfl) dX2_init_14 rfl (fun H locs hP hS => ?_)
  have hD : va_D A [(a0, .inr (2, [.ref b7, .long (zL 0), .long (zL 0)])), (b7, .inl (cy 2, 6, .inr (.inl (fun j => zL ((fun _ => 0) j)))))] := (DD.of hD).d rfl
  refine lv_aload_n hx hb dX2_init_17 rfl (lv_at hl 0 rfl) ?_
  refine wi_lc (v := 1) hx hb dX2_init_18 rfl ?_
  refine wi_put (ty := .long) (v := .long (zL 1)) (w2 := [(a0, .inr (2, [.ref b7, .long (zL 0), .long (zL 1)])), (b7, .inl (cy 2, 6, .inr (.inl (fun j => zL ((fun _ => 0) j)))))]) hx hb hts iX2 tyX2 tyX2_ok nmX2 hown hE hP (DD.of hD) rfl hS 0 rfl rfl 2 (by decide) q6 rfl (by decide +kernel) rfl rfl (Nat.le_of_ble_eq_true rfl) dX2_init_19 rfl (fun H locs hP hS => ?_)
  have hD : va_D A [(a0, .inr (2, [.ref b7, .long (zL 0), .long (zL 1)])), (b7, .inl (cy 2, 6, .inr (.inl (fun j => zL ((fun _ => 0) j)))))] := (DD.of hD).d rfl
  exact KR _ _ _ _ [b7] hP hD hS dX2_init_22
set_option maxHeartbeats 40000000 in
set_option maxRecDepth 100000 in
theorem k_X4_init (l : Launch) (D : va_G) (cy : Nat → ClassId) (sa : Nat → Nat) (a0 : Nat) : CtC l yX4_init wsX4_init ({ frames := 1, cells := 3, slots := 168, locals := 20 }) D cy sa [.ref a0] [(a0, .inr (4, [.null, .null, .null]))] (fun u => [(a0, .inr (4, [.ref (u.getD 0 0), .ref (u.getD 1 0), .ref (u.getD 2 0)])), ((u.getD 0 0), .inl (cy 0, 160, .inl (fun j => zI ((fun _ => 0) j)))), ((u.getD 1 0), .inl (cy 0, 4, .inl (fun j => zI ((fun _ => 0) j)))), ((u.getD 2 0), .inl (cy 0, 4, .inl (fun j => zI ((upZ (upZ (upZ (upZ (fun _ => 0) 0 (-4)) 1 (-4)) 2 (-4)) 3 (-4)) j))))]) 3 168 := by
  refine ct_C (cc := cX4_init) (maxL := 1) (plainFor_of_name (by decide)) rfl (Nat.le_of_ble_eq_true rfl) ?_
  intro p e s m below meth c A args QQ hx hb hml hown hts hnm hAO hE hD hP KR ls hl
  have hnm : meth.name = "<init>" := hnm
  have hl : lv_has ls 1 [(0, .ref a0)] := hl
  have hS : va_S A s.heap s.heap [] := va_S.rf
  have q0 := hts (.methodLink RX4 3 objectInit) (List.mem_of_getElem? (i := 1) rfl)
  have q1 := hts (.instanceMethod objectInit) (List.mem_of_getElem? (i := 2) rfl)
  have q2 := hts (.code objectInit ⟨#[0xb1]⟩ 1 none) (List.mem_of_getElem? (i := 3) rfl)
  have q3 := hts (.arrayClass .int) (List.mem_of_getElem? (i := 4) rfl)
  have q4 := hts (.fieldLink RX4 11 "HatHours$Sheets" "cells" "[I") (List.mem_of_getElem? (i := 5) rfl)
  have q5 := hts (.fieldLink RX4 15 "HatHours$Sheets" "lanes" "[I") (List.mem_of_getElem? (i := 6) rfl)
  have q6 := hts (.fieldLink RX4 18 "HatHours$Sheets" "sizes" "[I") (List.mem_of_getElem? (i := 7) rfl)
  have iX4 : ∀ w ∈ u_ws RX4 TX4 3, w ∈ wsX4_init := in_slice 8 3 rfl
  refine lv_aload_n hx hb dX4_init_0 rfl (lv_at hl 0 rfl) ?_
  refine W.objInit hx hb hown q0 q1 q2 rfl (by rw [hml]; exact hl.1) rfl dX4_init_1 (Nat.le_of_ble_eq_true rfl) (Nat.le_of_ble_eq_true rfl) ?_
  refine W.eq (g2 := F0 m 4 ls []) rfl ?_
  refine lv_aload_n hx hb dX4_init_4 rfl (lv_at hl 0 rfl) ?_
  refine wi_si hx hb dX4_init_5 (by decide) ?_
  refine wi_newI (n := 160) hx hb q3 hE hP hD hS (by decide) (Nat.le_of_ble_eq_true rfl) (Nat.le_of_ble_eq_true rfl) dX4_init_8 (fun b8 H hP hD hS => ?_)
  have hP : va_P D vwCl [(a0, .inr (4, [.null, .null, .null])), (b8, .inl (cy 0, 160, .inl (fun j => zI ((fun _ => 0) j))))] H := hP
  have hD : va_D A [(a0, .inr (4, [.null, .null, .null])), (b8, .inl (cy 0, 160, .inl (fun j => zI ((fun _ => 0) j))))] := hD
  refine wi_putF (ty := .array .int) (v := .ref b8) (w2 := [(a0, .inr (4, [.ref b8, .null, .null])), (b8, .inl (cy 0, 160, .inl (fun j => zI ((fun _ => 0) j))))]) hx hb hts iX4 tyX4 tyX4_ok nmX4 hown hE hP hD hS 0 rfl rfl 0 (by decide) q4 rfl hnm rfl (by decide +kernel) rfl rfl (Nat.le_of_ble_eq_true rfl) dX4_init_10 rfl (fun H locs hP hS => ?_)
  have hD : va_D A [(a0, .inr (4, [.ref b8, .null, .null])), (b8, .inl (cy 0, 160, .inl (fun j => zI ((fun _ => 0) j))))] := (DD.of hD).d rfl
  refine lv_aload_n hx hb dX4_init_13 rfl (lv_at hl 0 rfl) ?_
  refine wi_ic hx hb dX4_init_14 ?_
  refine wi_newI (n := 4) hx hb q3 hE hP hD hS (by decide) (Nat.le_of_ble_eq_true rfl) (Nat.le_of_ble_eq_true rfl) dX4_init_15 (fun b15 H hP hD hS => ?_)
  have hP : va_P D vwCl [(a0, .inr (4, [.ref b8, .null, .null])), (b8, .inl (cy 0, 160, .inl (fun j => zI ((fun _ => 0) j)))), (b15, .inl (cy 0, 4, .inl (fun j => zI ((fun _ => 0) j))))] H := hP
  have hD : va_D A [(a0, .inr (4, [.ref b8, .null, .null])), (b8, .inl (cy 0, 160, .inl (fun j => zI ((fun _ => 0) j)))), (b15, .inl (cy 0, 4, .inl (fun j => zI ((fun _ => 0) j))))] := hD
  refine wi_putF (ty := .array .int) (v := .ref b15) (w2 := [(a0, .inr (4, [.ref b8, .ref b15, .null])), (b8, .inl (cy 0, 160, .inl (fun j => zI ((fun _ => 0) j)))), (b15, .inl (cy 0, 4, .inl (fun j => zI ((fun _ => 0) j))))]) hx hb hts iX4 tyX4 tyX4_ok nmX4 hown hE hP hD hS 0 rfl rfl 1 (by decide) q5 rfl hnm rfl (by decide +kernel) rfl rfl (Nat.le_of_ble_eq_true rfl) dX4_init_17 rfl (fun H locs hP hS => ?_)
  have hD : va_D A [(a0, .inr (4, [.ref b8, .ref b15, .null])), (b8, .inl (cy 0, 160, .inl (fun j => zI ((fun _ => 0) j)))), (b15, .inl (cy 0, 4, .inl (fun j => zI ((fun _ => 0) j))))] := (DD.of hD).d rfl
  refine lv_aload_n hx hb dX4_init_20 rfl (lv_at hl 0 rfl) ?_
  refine wi_ic hx hb dX4_init_21 ?_
  refine wi_newI (n := 4) hx hb q3 hE hP hD hS (by decide) (Nat.le_of_ble_eq_true rfl) (Nat.le_of_ble_eq_true rfl) dX4_init_22 (fun b22 H hP hD hS => ?_)
  have hP : va_P D vwCl [(a0, .inr (4, [.ref b8, .ref b15, .null])), (b8, .inl (cy 0, 160, .inl (fun j => zI ((fun _ => 0) j)))), (b15, .inl (cy 0, 4, .inl (fun j => zI ((fun _ => 0) j)))), (b22, .inl (cy 0, 4, .inl (fun j => zI ((fun _ => 0) j))))] H := hP
  have hD : va_D A [(a0, .inr (4, [.ref b8, .ref b15, .null])), (b8, .inl (cy 0, 160, .inl (fun j => zI ((fun _ => 0) j)))), (b15, .inl (cy 0, 4, .inl (fun j => zI ((fun _ => 0) j)))), (b22, .inl (cy 0, 4, .inl (fun j => zI ((fun _ => 0) j))))] := hD
  refine lv_dup hx hb dX4_init_24 rfl ?_
  refine wi_ic hx hb dX4_init_25 ?_
  refine wi_bi hx hb dX4_init_26 (by decide) ?_
  refine wi_iast (w2 := [(a0, .inr (4, [.ref b8, .ref b15, .null])), (b8, .inl (cy 0, 160, .inl (fun j => zI ((fun _ => 0) j)))), (b15, .inl (cy 0, 4, .inl (fun j => zI ((fun _ => 0) j)))), (b22, .inl (cy 0, 4, .inl (fun j => zI ((upZ (fun _ => 0) 0 (-4)) j))))]) hx hb hE hP (DD.of hD) rfl hS 3 rfl (by decide) (by decide) dX4_init_28 rfl (fun H locs hP hS => ?_)
  have hD : va_D A [(a0, .inr (4, [.ref b8, .ref b15, .null])), (b8, .inl (cy 0, 160, .inl (fun j => zI ((fun _ => 0) j)))), (b15, .inl (cy 0, 4, .inl (fun j => zI ((fun _ => 0) j)))), (b22, .inl (cy 0, 4, .inl (fun j => zI ((upZ (fun _ => 0) 0 (-4)) j))))] := (DD.of hD).d rfl
  refine lv_dup hx hb dX4_init_29 rfl ?_
  refine wi_ic hx hb dX4_init_30 ?_
  refine wi_bi hx hb dX4_init_31 (by decide) ?_
  refine wi_iast (w2 := [(a0, .inr (4, [.ref b8, .ref b15, .null])), (b8, .inl (cy 0, 160, .inl (fun j => zI ((fun _ => 0) j)))), (b15, .inl (cy 0, 4, .inl (fun j => zI ((fun _ => 0) j)))), (b22, .inl (cy 0, 4, .inl (fun j => zI ((upZ (upZ (fun _ => 0) 0 (-4)) 1 (-4)) j))))]) hx hb hE hP (DD.of hD) rfl hS 3 rfl (by decide) (by decide) dX4_init_33 rfl (fun H locs hP hS => ?_)
  have hD : va_D A [(a0, .inr (4, [.ref b8, .ref b15, .null])), (b8, .inl (cy 0, 160, .inl (fun j => zI ((fun _ => 0) j)))), (b15, .inl (cy 0, 4, .inl (fun j => zI ((fun _ => 0) j)))), (b22, .inl (cy 0, 4, .inl (fun j => zI ((upZ (upZ (fun _ => 0) 0 (-4)) 1 (-4)) j))))] := (DD.of hD).d rfl
  refine lv_dup hx hb dX4_init_34 rfl ?_
  refine wi_ic hx hb dX4_init_35 ?_
  refine wi_bi hx hb dX4_init_36 (by decide) ?_
  refine wi_iast (w2 := [(a0, .inr (4, [.ref b8, .ref b15, .null])), (b8, .inl (cy 0, 160, .inl (fun j => zI ((fun _ => 0) j)))), (b15, .inl (cy 0, 4, .inl (fun j => zI ((fun _ => 0) j)))), (b22, .inl (cy 0, 4, .inl (fun j => zI ((upZ (upZ (upZ (fun _ => 0) 0 (-4)) 1 (-4)) 2 (-4)) j))))]) hx hb hE hP (DD.of hD) rfl hS 3 rfl (by decide) (by decide) dX4_init_38 rfl (fun H locs hP hS => ?_)
  have hD : va_D A [(a0, .inr (4, [.ref b8, .ref b15, .null])), (b8, .inl (cy 0, 160, .inl (fun j => zI ((fun _ => 0) j)))), (b15, .inl (cy 0, 4, .inl (fun j => zI ((fun _ => 0) j)))), (b22, .inl (cy 0, 4, .inl (fun j => zI ((upZ (upZ (upZ (fun _ => 0) 0 (-4)) 1 (-4)) 2 (-4)) j))))] := (DD.of hD).d rfl
  refine lv_dup hx hb dX4_init_39 rfl ?_
  refine wi_ic hx hb dX4_init_40 ?_
  refine wi_bi hx hb dX4_init_41 (by decide) ?_
  refine wi_iast (w2 := [(a0, .inr (4, [.ref b8, .ref b15, .null])), (b8, .inl (cy 0, 160, .inl (fun j => zI ((fun _ => 0) j)))), (b15, .inl (cy 0, 4, .inl (fun j => zI ((fun _ => 0) j)))), (b22, .inl (cy 0, 4, .inl (fun j => zI ((upZ (upZ (upZ (upZ (fun _ => 0) 0 (-4)) 1 (-4)) 2 (-4)) 3 (-4)) j))))]) hx hb hE hP (DD.of hD) rfl hS 3 rfl (by decide) (by decide) dX4_init_43 rfl (fun H locs hP hS => ?_)
  have hD : va_D A [(a0, .inr (4, [.ref b8, .ref b15, .null])), (b8, .inl (cy 0, 160, .inl (fun j => zI ((fun _ => 0) j)))), (b15, .inl (cy 0, 4, .inl (fun j => zI ((fun _ => 0) j)))), (b22, .inl (cy 0, 4, .inl (fun j => zI ((upZ (upZ (upZ (upZ (fun _ => 0) 0 (-4)) 1 (-4)) 2 (-4)) 3 (-4)) j))))] := (DD.of hD).d rfl
  refine wi_putF (ty := .array .int) (v := .ref b22) (w2 := [(a0, .inr (4, [.ref b8, .ref b15, .ref b22])), (b8, .inl (cy 0, 160, .inl (fun j => zI ((fun _ => 0) j)))), (b15, .inl (cy 0, 4, .inl (fun j => zI ((fun _ => 0) j)))), (b22, .inl (cy 0, 4, .inl (fun j => zI ((upZ (upZ (upZ (upZ (fun _ => 0) 0 (-4)) 1 (-4)) 2 (-4)) 3 (-4)) j))))]) hx hb hts iX4 tyX4 tyX4_ok nmX4 hown hE hP hD hS 0 rfl rfl 2 (by decide) q6 rfl hnm rfl (by decide +kernel) rfl rfl (Nat.le_of_ble_eq_true rfl) dX4_init_44 rfl (fun H locs hP hS => ?_)
  have hD : va_D A [(a0, .inr (4, [.ref b8, .ref b15, .ref b22])), (b8, .inl (cy 0, 160, .inl (fun j => zI ((fun _ => 0) j)))), (b15, .inl (cy 0, 4, .inl (fun j => zI ((fun _ => 0) j)))), (b22, .inl (cy 0, 4, .inl (fun j => zI ((upZ (upZ (upZ (upZ (fun _ => 0) 0 (-4)) 1 (-4)) 2 (-4)) 3 (-4)) j))))] := (DD.of hD).d rfl
  exact KR _ _ _ _ [b8, b15, b22] hP hD hS dX4_init_47
set_option maxHeartbeats 40000000 in
set_option maxRecDepth 100000 in
theorem k_X5_init (l : Launch) (D : va_G) (cy : Nat → ClassId) (sa : Nat → Nat) (a0 : Nat) : CtC l yX5_init wsX5_init ({ frames := 1, cells := 2, slots := 35, locals := 20 }) D cy sa [.ref a0] [(a0, .inr (5, [.null, .null, .int (zI 0), .int (zI 0)]))] (fun u => [(a0, .inr (5, [.ref (u.getD 0 0), .ref (u.getD 1 0), .int (zI 0), .int (zI 6)])), ((u.getD 0 0), .inl (cy 0, 30, .inl (fun j => zI ((fun _ => 0) j)))), ((u.getD 1 0), .inl (cy 0, 5, .inl (fun j => zI ((fun _ => 0) j))))]) 2 35 := by
  refine ct_C (cc := cX5_init) (maxL := 1) (plainFor_of_name (by decide)) rfl (Nat.le_of_ble_eq_true rfl) ?_
  intro p e s m below meth c A args QQ hx hb hml hown hts hnm hAO hE hD hP KR ls hl
  have hnm : meth.name = "<init>" := hnm
  have hl : lv_has ls 1 [(0, .ref a0)] := hl
  have hS : va_S A s.heap s.heap [] := va_S.rf
  have q0 := hts (.methodLink RX5 3 objectInit) (List.mem_of_getElem? (i := 1) rfl)
  have q1 := hts (.instanceMethod objectInit) (List.mem_of_getElem? (i := 2) rfl)
  have q2 := hts (.code objectInit ⟨#[0xb1]⟩ 1 none) (List.mem_of_getElem? (i := 3) rfl)
  have q3 := hts (.arrayClass .int) (List.mem_of_getElem? (i := 4) rfl)
  have q4 := hts (.fieldLink RX5 11 "HatHours$Shop" "facts" "[I") (List.mem_of_getElem? (i := 5) rfl)
  have q5 := hts (.fieldLink RX5 15 "HatHours$Shop" "places" "[I") (List.mem_of_getElem? (i := 6) rfl)
  have q6 := hts (.fieldLink RX5 18 "HatHours$Shop" "boxes" "I") (List.mem_of_getElem? (i := 7) rfl)
  have q7 := hts (.fieldLink RX5 22 "HatHours$Shop" "startsAt" "I") (List.mem_of_getElem? (i := 8) rfl)
  have iX5 : ∀ w ∈ u_ws RX5 TX5 4, w ∈ wsX5_init := in_slice 9 4 rfl
  refine lv_aload_n hx hb dX5_init_0 rfl (lv_at hl 0 rfl) ?_
  refine W.objInit hx hb hown q0 q1 q2 rfl (by rw [hml]; exact hl.1) rfl dX5_init_1 (Nat.le_of_ble_eq_true rfl) (Nat.le_of_ble_eq_true rfl) ?_
  refine W.eq (g2 := F0 m 4 ls []) rfl ?_
  refine lv_aload_n hx hb dX5_init_4 rfl (lv_at hl 0 rfl) ?_
  refine wi_bi hx hb dX5_init_5 (by decide) ?_
  refine wi_newI (n := 30) hx hb q3 hE hP hD hS (by decide) (Nat.le_of_ble_eq_true rfl) (Nat.le_of_ble_eq_true rfl) dX5_init_7 (fun b7 H hP hD hS => ?_)
  have hP : va_P D vwCl [(a0, .inr (5, [.null, .null, .int (zI 0), .int (zI 0)])), (b7, .inl (cy 0, 30, .inl (fun j => zI ((fun _ => 0) j))))] H := hP
  have hD : va_D A [(a0, .inr (5, [.null, .null, .int (zI 0), .int (zI 0)])), (b7, .inl (cy 0, 30, .inl (fun j => zI ((fun _ => 0) j))))] := hD
  refine wi_putF (ty := .array .int) (v := .ref b7) (w2 := [(a0, .inr (5, [.ref b7, .null, .int (zI 0), .int (zI 0)])), (b7, .inl (cy 0, 30, .inl (fun j => zI ((fun _ => 0) j))))]) hx hb hts iX5 tyX5 tyX5_ok nmX5 hown hE hP hD hS 0 rfl rfl 0 (by decide) q4 rfl hnm rfl (by decide +kernel) rfl rfl (Nat.le_of_ble_eq_true rfl) dX5_init_9 rfl (fun H locs hP hS => ?_)
  have hD : va_D A [(a0, .inr (5, [.ref b7, .null, .int (zI 0), .int (zI 0)])), (b7, .inl (cy 0, 30, .inl (fun j => zI ((fun _ => 0) j))))] := (DD.of hD).d rfl
  refine lv_aload_n hx hb dX5_init_12 rfl (lv_at hl 0 rfl) ?_
  refine wi_ic hx hb dX5_init_13 ?_
  refine wi_newI (n := 5) hx hb q3 hE hP hD hS (by decide) (Nat.le_of_ble_eq_true rfl) (Nat.le_of_ble_eq_true rfl) dX5_init_14 (fun b14 H hP hD hS => ?_)
  have hP : va_P D vwCl [(a0, .inr (5, [.ref b7, .null, .int (zI 0), .int (zI 0)])), (b7, .inl (cy 0, 30, .inl (fun j => zI ((fun _ => 0) j)))), (b14, .inl (cy 0, 5, .inl (fun j => zI ((fun _ => 0) j))))] H := hP
  have hD : va_D A [(a0, .inr (5, [.ref b7, .null, .int (zI 0), .int (zI 0)])), (b7, .inl (cy 0, 30, .inl (fun j => zI ((fun _ => 0) j)))), (b14, .inl (cy 0, 5, .inl (fun j => zI ((fun _ => 0) j))))] := hD
  refine wi_putF (ty := .array .int) (v := .ref b14) (w2 := [(a0, .inr (5, [.ref b7, .ref b14, .int (zI 0), .int (zI 0)])), (b7, .inl (cy 0, 30, .inl (fun j => zI ((fun _ => 0) j)))), (b14, .inl (cy 0, 5, .inl (fun j => zI ((fun _ => 0) j))))]) hx hb hts iX5 tyX5 tyX5_ok nmX5 hown hE hP hD hS 0 rfl rfl 1 (by decide) q5 rfl hnm rfl (by decide +kernel) rfl rfl (Nat.le_of_ble_eq_true rfl) dX5_init_16 rfl (fun H locs hP hS => ?_)
  have hD : va_D A [(a0, .inr (5, [.ref b7, .ref b14, .int (zI 0), .int (zI 0)])), (b7, .inl (cy 0, 30, .inl (fun j => zI ((fun _ => 0) j)))), (b14, .inl (cy 0, 5, .inl (fun j => zI ((fun _ => 0) j))))] := (DD.of hD).d rfl
  refine lv_aload_n hx hb dX5_init_19 rfl (lv_at hl 0 rfl) ?_
  refine wi_ic hx hb dX5_init_20 ?_
  refine wi_put (ty := .int) (v := .int (zI 0)) (w2 := [(a0, .inr (5, [.ref b7, .ref b14, .int (zI 0), .int (zI 0)])), (b7, .inl (cy 0, 30, .inl (fun j => zI ((fun _ => 0) j)))), (b14, .inl (cy 0, 5, .inl (fun j => zI ((fun _ => 0) j))))]) hx hb hts iX5 tyX5 tyX5_ok nmX5 hown hE hP (DD.of hD) rfl hS 0 rfl rfl 2 (by decide) q6 rfl (by decide +kernel) rfl rfl (Nat.le_of_ble_eq_true rfl) dX5_init_21 rfl (fun H locs hP hS => ?_)
  have hD : va_D A [(a0, .inr (5, [.ref b7, .ref b14, .int (zI 0), .int (zI 0)])), (b7, .inl (cy 0, 30, .inl (fun j => zI ((fun _ => 0) j)))), (b14, .inl (cy 0, 5, .inl (fun j => zI ((fun _ => 0) j))))] := (DD.of hD).d rfl
  refine lv_aload_n hx hb dX5_init_24 rfl (lv_at hl 0 rfl) ?_
  refine wi_bi hx hb dX5_init_25 (by decide) ?_
  refine wi_put (ty := .int) (v := .int (zI 6)) (w2 := [(a0, .inr (5, [.ref b7, .ref b14, .int (zI 0), .int (zI 6)])), (b7, .inl (cy 0, 30, .inl (fun j => zI ((fun _ => 0) j)))), (b14, .inl (cy 0, 5, .inl (fun j => zI ((fun _ => 0) j))))]) hx hb hts iX5 tyX5 tyX5_ok nmX5 hown hE hP (DD.of hD) rfl hS 0 rfl rfl 3 (by decide) q7 rfl (by decide +kernel) rfl rfl (Nat.le_of_ble_eq_true rfl) dX5_init_27 rfl (fun H locs hP hS => ?_)
  have hD : va_D A [(a0, .inr (5, [.ref b7, .ref b14, .int (zI 0), .int (zI 6)])), (b7, .inl (cy 0, 30, .inl (fun j => zI ((fun _ => 0) j)))), (b14, .inl (cy 0, 5, .inl (fun j => zI ((fun _ => 0) j))))] := (DD.of hD).d rfl
  exact KR _ _ _ _ [b7, b14] hP hD hS dX5_init_30
set_option maxHeartbeats 40000000 in
set_option maxRecDepth 100000 in
theorem k_X6_init (l : Launch) (D : va_G) (cy : Nat → ClassId) (sa : Nat → Nat) (a0 : Nat) : CtC l yX6_init wsX6_init ({ frames := 1, cells := 3, slots := 18, locals := 20 }) D cy sa [.ref a0] [(a0, .inr (6, [.null, .null, .null, .int (zI 0)]))] (fun u => [(a0, .inr (6, [.ref (u.getD 0 0), .ref (u.getD 1 0), .ref (u.getD 2 0), .int (zI 0)])), ((u.getD 0 0), .inl (cy 0, 6, .inl (fun j => zI ((fun _ => 0) j)))), ((u.getD 1 0), .inl (cy 0, 6, .inl (fun j => zI ((fun _ => 0) j)))), ((u.getD 2 0), .inl (cy 0, 6, .inl (fun j => zI ((fun _ => 0) j))))]) 3 18 := by
  refine ct_C (cc := cX6_init) (maxL := 1) (plainFor_of_name (by decide)) rfl (Nat.le_of_ble_eq_true rfl) ?_
  intro p e s m below meth c A args QQ hx hb hml hown hts hnm hAO hE hD hP KR ls hl
  have hnm : meth.name = "<init>" := hnm
  have hl : lv_has ls 1 [(0, .ref a0)] := hl
  have hS : va_S A s.heap s.heap [] := va_S.rf
  have q0 := hts (.methodLink RX6 1 objectInit) (List.mem_of_getElem? (i := 1) rfl)
  have q1 := hts (.instanceMethod objectInit) (List.mem_of_getElem? (i := 2) rfl)
  have q2 := hts (.code objectInit ⟨#[0xb1]⟩ 1 none) (List.mem_of_getElem? (i := 3) rfl)
  have q3 := hts (.arrayClass .int) (List.mem_of_getElem? (i := 4) rfl)
  have q4 := hts (.fieldLink RX6 9 "HatHours$Sightings" "rooms" "[I") (List.mem_of_getElem? (i := 5) rfl)
  have q5 := hts (.fieldLink RX6 13 "HatHours$Sightings" "hours" "[I") (List.mem_of_getElem? (i := 6) rfl)
  have q6 := hts (.fieldLink RX6 16 "HatHours$Sightings" "oclocks" "[I") (List.mem_of_getElem? (i := 7) rfl)
  have q7 := hts (.fieldLink RX6 19 "HatHours$Sightings" "used" "I") (List.mem_of_getElem? (i := 8) rfl)
  have iX6 : ∀ w ∈ u_ws RX6 TX6 4, w ∈ wsX6_init := in_slice 9 4 rfl
  refine lv_aload_n hx hb dX6_init_0 rfl (lv_at hl 0 rfl) ?_
  refine W.objInit hx hb hown q0 q1 q2 rfl (by rw [hml]; exact hl.1) rfl dX6_init_1 (Nat.le_of_ble_eq_true rfl) (Nat.le_of_ble_eq_true rfl) ?_
  refine W.eq (g2 := F0 m 4 ls []) rfl ?_
  refine lv_aload_n hx hb dX6_init_4 rfl (lv_at hl 0 rfl) ?_
  refine wi_bi hx hb dX6_init_5 (by decide) ?_
  refine wi_newI (n := 6) hx hb q3 hE hP hD hS (by decide) (Nat.le_of_ble_eq_true rfl) (Nat.le_of_ble_eq_true rfl) dX6_init_7 (fun b7 H hP hD hS => ?_)
  have hP : va_P D vwCl [(a0, .inr (6, [.null, .null, .null, .int (zI 0)])), (b7, .inl (cy 0, 6, .inl (fun j => zI ((fun _ => 0) j))))] H := hP
  have hD : va_D A [(a0, .inr (6, [.null, .null, .null, .int (zI 0)])), (b7, .inl (cy 0, 6, .inl (fun j => zI ((fun _ => 0) j))))] := hD
  refine wi_putF (ty := .array .int) (v := .ref b7) (w2 := [(a0, .inr (6, [.ref b7, .null, .null, .int (zI 0)])), (b7, .inl (cy 0, 6, .inl (fun j => zI ((fun _ => 0) j))))]) hx hb hts iX6 tyX6 tyX6_ok nmX6 hown hE hP hD hS 0 rfl rfl 0 (by decide) q4 rfl hnm rfl (by decide +kernel) rfl rfl (Nat.le_of_ble_eq_true rfl) dX6_init_9 rfl (fun H locs hP hS => ?_)
  have hD : va_D A [(a0, .inr (6, [.ref b7, .null, .null, .int (zI 0)])), (b7, .inl (cy 0, 6, .inl (fun j => zI ((fun _ => 0) j))))] := (DD.of hD).d rfl
  refine lv_aload_n hx hb dX6_init_12 rfl (lv_at hl 0 rfl) ?_
  refine wi_bi hx hb dX6_init_13 (by decide) ?_
  refine wi_newI (n := 6) hx hb q3 hE hP hD hS (by decide) (Nat.le_of_ble_eq_true rfl) (Nat.le_of_ble_eq_true rfl) dX6_init_15 (fun b15 H hP hD hS => ?_)
  have hP : va_P D vwCl [(a0, .inr (6, [.ref b7, .null, .null, .int (zI 0)])), (b7, .inl (cy 0, 6, .inl (fun j => zI ((fun _ => 0) j)))), (b15, .inl (cy 0, 6, .inl (fun j => zI ((fun _ => 0) j))))] H := hP
  have hD : va_D A [(a0, .inr (6, [.ref b7, .null, .null, .int (zI 0)])), (b7, .inl (cy 0, 6, .inl (fun j => zI ((fun _ => 0) j)))), (b15, .inl (cy 0, 6, .inl (fun j => zI ((fun _ => 0) j))))] := hD
  refine wi_putF (ty := .array .int) (v := .ref b15) (w2 := [(a0, .inr (6, [.ref b7, .ref b15, .null, .int (zI 0)])), (b7, .inl (cy 0, 6, .inl (fun j => zI ((fun _ => 0) j)))), (b15, .inl (cy 0, 6, .inl (fun j => zI ((fun _ => 0) j))))]) hx hb hts iX6 tyX6 tyX6_ok nmX6 hown hE hP hD hS 0 rfl rfl 1 (by decide) q5 rfl hnm rfl (by decide +kernel) rfl rfl (Nat.le_of_ble_eq_true rfl) dX6_init_17 rfl (fun H locs hP hS => ?_)
  have hD : va_D A [(a0, .inr (6, [.ref b7, .ref b15, .null, .int (zI 0)])), (b7, .inl (cy 0, 6, .inl (fun j => zI ((fun _ => 0) j)))), (b15, .inl (cy 0, 6, .inl (fun j => zI ((fun _ => 0) j))))] := (DD.of hD).d rfl
  refine lv_aload_n hx hb dX6_init_20 rfl (lv_at hl 0 rfl) ?_
  refine wi_bi hx hb dX6_init_21 (by decide) ?_
  refine wi_newI (n := 6) hx hb q3 hE hP hD hS (by decide) (Nat.le_of_ble_eq_true rfl) (Nat.le_of_ble_eq_true rfl) dX6_init_23 (fun b23 H hP hD hS => ?_)
  have hP : va_P D vwCl [(a0, .inr (6, [.ref b7, .ref b15, .null, .int (zI 0)])), (b7, .inl (cy 0, 6, .inl (fun j => zI ((fun _ => 0) j)))), (b15, .inl (cy 0, 6, .inl (fun j => zI ((fun _ => 0) j)))), (b23, .inl (cy 0, 6, .inl (fun j => zI ((fun _ => 0) j))))] H := hP
  have hD : va_D A [(a0, .inr (6, [.ref b7, .ref b15, .null, .int (zI 0)])), (b7, .inl (cy 0, 6, .inl (fun j => zI ((fun _ => 0) j)))), (b15, .inl (cy 0, 6, .inl (fun j => zI ((fun _ => 0) j)))), (b23, .inl (cy 0, 6, .inl (fun j => zI ((fun _ => 0) j))))] := hD
  refine wi_putF (ty := .array .int) (v := .ref b23) (w2 := [(a0, .inr (6, [.ref b7, .ref b15, .ref b23, .int (zI 0)])), (b7, .inl (cy 0, 6, .inl (fun j => zI ((fun _ => 0) j)))), (b15, .inl (cy 0, 6, .inl (fun j => zI ((fun _ => 0) j)))), (b23, .inl (cy 0, 6, .inl (fun j => zI ((fun _ => 0) j))))]) hx hb hts iX6 tyX6 tyX6_ok nmX6 hown hE hP hD hS 0 rfl rfl 2 (by decide) q6 rfl hnm rfl (by decide +kernel) rfl rfl (Nat.le_of_ble_eq_true rfl) dX6_init_25 rfl (fun H locs hP hS => ?_)
  have hD : va_D A [(a0, .inr (6, [.ref b7, .ref b15, .ref b23, .int (zI 0)])), (b7, .inl (cy 0, 6, .inl (fun j => zI ((fun _ => 0) j)))), (b15, .inl (cy 0, 6, .inl (fun j => zI ((fun _ => 0) j)))), (b23, .inl (cy 0, 6, .inl (fun j => zI ((fun _ => 0) j))))] := (DD.of hD).d rfl
  refine lv_aload_n hx hb dX6_init_28 rfl (lv_at hl 0 rfl) ?_
  refine wi_ic hx hb dX6_init_29 ?_
  refine wi_put (ty := .int) (v := .int (zI 0)) (w2 := [(a0, .inr (6, [.ref b7, .ref b15, .ref b23, .int (zI 0)])), (b7, .inl (cy 0, 6, .inl (fun j => zI ((fun _ => 0) j)))), (b15, .inl (cy 0, 6, .inl (fun j => zI ((fun _ => 0) j)))), (b23, .inl (cy 0, 6, .inl (fun j => zI ((fun _ => 0) j))))]) hx hb hts iX6 tyX6 tyX6_ok nmX6 hown hE hP (DD.of hD) rfl hS 0 rfl rfl 3 (by decide) q7 rfl (by decide +kernel) rfl rfl (Nat.le_of_ble_eq_true rfl) dX6_init_30 rfl (fun H locs hP hS => ?_)
  have hD : va_D A [(a0, .inr (6, [.ref b7, .ref b15, .ref b23, .int (zI 0)])), (b7, .inl (cy 0, 6, .inl (fun j => zI ((fun _ => 0) j)))), (b15, .inl (cy 0, 6, .inl (fun j => zI ((fun _ => 0) j)))), (b23, .inl (cy 0, 6, .inl (fun j => zI ((fun _ => 0) j))))] := (DD.of hD).d rfl
  exact KR _ _ _ _ [b7, b15, b23] hP hD hS dX6_init_33
set_option maxHeartbeats 40000000 in
set_option maxRecDepth 100000 in
theorem k_X0_init (l : Launch) (D : va_G) (cy : Nat → ClassId) (sa : Nat → Nat) (a0 : Nat) : CtC l yX0_init wsX0_init ({ frames := 2, cells := 7, slots := 61, locals := 40 }) D cy sa [.ref a0] [(a0, .inr (0, [.null, .null, .int (zI 0)]))] (fun u => [(a0, .inr (0, [.ref (u.getD 0 0), .ref (u.getD 3 0), .int (zI 0)])), ((u.getD 0 0), .inr (5, [.ref (u.getD 1 0), .ref (u.getD 2 0), .int (zI 0), .int (zI 6)])), ((u.getD 1 0), .inl (cy 0, 30, .inl (fun j => zI ((fun _ => 0) j)))), ((u.getD 2 0), .inl (cy 0, 5, .inl (fun j => zI ((fun _ => 0) j)))), ((u.getD 3 0), .inr (6, [.ref (u.getD 4 0), .ref (u.getD 5 0), .ref (u.getD 6 0), .int (zI 0)])), ((u.getD 4 0), .inl (cy 0, 6, .inl (fun j => zI ((fun _ => 0) j)))), ((u.getD 5 0), .inl (cy 0, 6, .inl (fun j => zI ((fun _ => 0) j)))), ((u.getD 6 0), .inl (cy 0, 6, .inl (fun j => zI ((fun _ => 0) j))))]) 7 61 := by
  refine ct_C (cc := cX0_init) (maxL := 1) (plainFor_of_name (by decide)) rfl (Nat.le_of_ble_eq_true rfl) ?_
  intro p e s m below meth c A args QQ hx hb hml hown hts hnm hAO hE hD hP KR ls hl
  have hnm : meth.name = "<init>" := hnm
  have hl : lv_has ls 1 [(0, .ref a0)] := hl
  have hS : va_S A s.heap s.heap [] := va_S.rf
  have q0 := hts (.methodLink RX0 1 objectInit) (List.mem_of_getElem? (i := 1) rfl)
  have q1 := hts (.instanceMethod objectInit) (List.mem_of_getElem? (i := 2) rfl)
  have q2 := hts (.code objectInit ⟨#[0xb1]⟩ 1 none) (List.mem_of_getElem? (i := 3) rfl)
  have q3 := hts (.classLink RX0 7 RX5) (List.mem_of_getElem? (i := 4) rfl)
  have q4 := hts (.instantiable RX5 4) (List.mem_of_getElem? (i := 5) rfl)
  have q5 := hts (.initialized RX5) (List.mem_of_getElem? (i := 6) rfl)
  have q6 := hts (.instanceMethod yX5_init) (List.mem_of_getElem? (i := 13) rfl)
  have q7 := hts (.fieldLink RX0 10 "HatHours$Image" "shop" "LHatHours$Shop;") (List.mem_of_getElem? (i := 7) rfl)
  have q8 := hts (.classLink RX0 16 RX6) (List.mem_of_getElem? (i := 8) rfl)
  have q9 := hts (.instantiable RX6 4) (List.mem_of_getElem? (i := 9) rfl)
  have q10 := hts (.initialized RX6) (List.mem_of_getElem? (i := 10) rfl)
  have q11 := hts (.instanceMethod yX6_init) (List.mem_of_getElem? (i := 21) rfl)
  have q12 := hts (.fieldLink RX0 19 "HatHours$Image" "seen" "LHatHours$Sightings;") (List.mem_of_getElem? (i := 11) rfl)
  have q13 := hts (.fieldLink RX0 23 "HatHours$Image" "there" "Z") (List.mem_of_getElem? (i := 12) rfl)
  have iX5 : ∀ w ∈ u_ws RX5 TX5 4, w ∈ wsX0_init := in_slice 28 4 rfl
  have iX0 : ∀ w ∈ u_ws RX0 TX0 3, w ∈ wsX0_init := in_slice 32 3 rfl
  have iX6 : ∀ w ∈ u_ws RX6 TX6 4, w ∈ wsX0_init := in_slice 35 4 rfl
  refine lv_aload_n hx hb dX0_init_0 rfl (lv_at hl 0 rfl) ?_
  refine W.objInit hx hb hown q0 q1 q2 rfl (by rw [hml]; exact hl.1) rfl dX0_init_1 (Nat.le_of_ble_eq_true rfl) (Nat.le_of_ble_eq_true rfl) ?_
  refine W.eq (g2 := F0 m 4 ls []) rfl ?_
  refine lv_aload_n hx hb dX0_init_4 rfl (lv_at hl 0 rfl) ?_
  refine va_new (ci := 5) (fs := [.null, .null, .int (zI 0), .int (zI 0)]) (C := RX5) (T := TX5) (N := 4) hx hb hts iX5 tyX5 tyX5_ok hown q3 q4 q5 hE.1 hP hD hS hE.2.2 rfl (fun j hj => match j, hj with | 0, _ => rfl | 1, _ => rfl | 2, _ => rfl | 3, _ => rfl | j + 4, h => absurd h (by omega)) (Nat.le_of_ble_eq_true rfl) (Nat.le_of_ble_eq_true rfl) dX0_init_5 (fun b5 H hP hD hS => ?_)
  have hP : va_P D vwCl [(a0, .inr (0, [.null, .null, .int (zI 0)])), (b5, .inr (5, [.null, .null, .int (zI 0), .int (zI 0)]))] H := hP
  have hD : va_D A [(a0, .inr (0, [.null, .null, .int (zI 0)])), (b5, .inr (5, [.null, .null, .int (zI 0), .int (zI 0)]))] := hD
  refine lv_dup hx hb dX0_init_8 rfl ?_
  refine cK (wr := [(a0, .inr (0, [.null, .null, .int (zI 0)]))]) (rest := [.ref b5, .ref a0]) ⟨hx, hb, hml, hown, hts⟩ (k_X5_init l D cy sa b5) ⟨va_cnB 0 hts gX0_init_X5_init_n9 rfl rfl rfl (hE.2.1.1 ("HatHours$Image", 9, ⟨"HatHours$Shop", "<init>", "()V"⟩, "HatHours") (List.mem_of_getElem? (i := 5) rfl)) q5 (by decide +kernel) ⟨Nat.le_of_ble_eq_true rfl, Nat.le_of_ble_eq_true rfl⟩, rfl, q6⟩ hAO hE hP hD hS [1] [0] rfl rfl rfl rfl (by decide) rfl hl.1 (Nat.le_of_ble_eq_true rfl) ⟨Nat.le_of_ble_eq_true rfl, Nat.le_of_ble_eq_true rfl⟩ rfl dX0_init_9 (fun u H locs hP hD hS => ?_)
  generalize u.getD 0 0 = b9_0 at hP hD
  generalize u.getD 1 0 = b9_1 at hP hD
  have hP : va_P D vwCl [(a0, .inr (0, [.null, .null, .int (zI 0)])), (b5, .inr (5, [.ref b9_0, .ref b9_1, .int (zI 0), .int (zI 6)])), (b9_0, .inl (cy 0, 30, .inl (fun j => zI ((fun _ => 0) j)))), (b9_1, .inl (cy 0, 5, .inl (fun j => zI ((fun _ => 0) j))))] H := hP
  have hD : va_D A [(a0, .inr (0, [.null, .null, .int (zI 0)])), (b5, .inr (5, [.ref b9_0, .ref b9_1, .int (zI 0), .int (zI 6)])), (b9_0, .inl (cy 0, 30, .inl (fun j => zI ((fun _ => 0) j)))), (b9_1, .inl (cy 0, 5, .inl (fun j => zI ((fun _ => 0) j))))] := hD
  refine wi_putF (ty := .object "HatHours$Shop") (v := .ref b5) (w2 := [(a0, .inr (0, [.ref b5, .null, .int (zI 0)])), (b5, .inr (5, [.ref b9_0, .ref b9_1, .int (zI 0), .int (zI 6)])), (b9_0, .inl (cy 0, 30, .inl (fun j => zI ((fun _ => 0) j)))), (b9_1, .inl (cy 0, 5, .inl (fun j => zI ((fun _ => 0) j))))]) hx hb hts iX0 tyX0 tyX0_ok nmX0 hown hE hP hD hS 0 rfl rfl 0 (by decide) q7 rfl hnm rfl (by decide +kernel) rfl rfl (Nat.le_of_ble_eq_true rfl) dX0_init_12 rfl (fun H locs hP hS => ?_)
  have hD : va_D A [(a0, .inr (0, [.ref b5, .null, .int (zI 0)])), (b5, .inr (5, [.ref b9_0, .ref b9_1, .int (zI 0), .int (zI 6)])), (b9_0, .inl (cy 0, 30, .inl (fun j => zI ((fun _ => 0) j)))), (b9_1, .inl (cy 0, 5, .inl (fun j => zI ((fun _ => 0) j))))] := (DD.of hD).d rfl
  refine lv_aload_n hx hb dX0_init_15 rfl (lv_at hl 0 rfl) ?_
  refine va_new (ci := 6) (fs := [.null, .null, .null, .int (zI 0)]) (C := RX6) (T := TX6) (N := 4) hx hb hts iX6 tyX6 tyX6_ok hown q8 q9 q10 hE.1 hP hD hS hE.2.2 rfl (fun j hj => match j, hj with | 0, _ => rfl | 1, _ => rfl | 2, _ => rfl | 3, _ => rfl | j + 4, h => absurd h (by omega)) (Nat.le_of_ble_eq_true rfl) (Nat.le_of_ble_eq_true rfl) dX0_init_16 (fun b16 H hP hD hS => ?_)
  have hP : va_P D vwCl [(a0, .inr (0, [.ref b5, .null, .int (zI 0)])), (b5, .inr (5, [.ref b9_0, .ref b9_1, .int (zI 0), .int (zI 6)])), (b9_0, .inl (cy 0, 30, .inl (fun j => zI ((fun _ => 0) j)))), (b9_1, .inl (cy 0, 5, .inl (fun j => zI ((fun _ => 0) j)))), (b16, .inr (6, [.null, .null, .null, .int (zI 0)]))] H := hP
  have hD : va_D A [(a0, .inr (0, [.ref b5, .null, .int (zI 0)])), (b5, .inr (5, [.ref b9_0, .ref b9_1, .int (zI 0), .int (zI 6)])), (b9_0, .inl (cy 0, 30, .inl (fun j => zI ((fun _ => 0) j)))), (b9_1, .inl (cy 0, 5, .inl (fun j => zI ((fun _ => 0) j)))), (b16, .inr (6, [.null, .null, .null, .int (zI 0)]))] := hD
  refine lv_dup hx hb dX0_init_19 rfl ?_
  refine cK (wr := [(a0, .inr (0, [.ref b5, .null, .int (zI 0)])), (b5, .inr (5, [.ref b9_0, .ref b9_1, .int (zI 0), .int (zI 6)])), (b9_0, .inl (cy 0, 30, .inl (fun j => zI ((fun _ => 0) j)))), (b9_1, .inl (cy 0, 5, .inl (fun j => zI ((fun _ => 0) j))))]) (rest := [.ref b16, .ref a0]) ⟨hx, hb, hml, hown, hts⟩ (k_X6_init l D cy sa b16) ⟨va_cnB 0 hts gX0_init_X6_init_n18 rfl rfl rfl (hE.2.1.1 ("HatHours$Image", 18, ⟨"HatHours$Sightings", "<init>", "()V"⟩, "HatHours") (List.mem_of_getElem? (i := 6) rfl)) q10 (by decide +kernel) ⟨Nat.le_of_ble_eq_true rfl, Nat.le_of_ble_eq_true rfl⟩, rfl, q11⟩ hAO hE hP hD hS [4] [0, 1, 2, 3] rfl rfl rfl rfl (by decide) rfl hl.1 (Nat.le_of_ble_eq_true rfl) ⟨Nat.le_of_ble_eq_true rfl, Nat.le_of_ble_eq_true rfl⟩ rfl dX0_init_20 (fun u H locs hP hD hS => ?_)
  generalize u.getD 0 0 = b20_0 at hP hD
  generalize u.getD 1 0 = b20_1 at hP hD
  generalize u.getD 2 0 = b20_2 at hP hD
  have hP : va_P D vwCl [(a0, .inr (0, [.ref b5, .null, .int (zI 0)])), (b5, .inr (5, [.ref b9_0, .ref b9_1, .int (zI 0), .int (zI 6)])), (b9_0, .inl (cy 0, 30, .inl (fun j => zI ((fun _ => 0) j)))), (b9_1, .inl (cy 0, 5, .inl (fun j => zI ((fun _ => 0) j)))), (b16, .inr (6, [.ref b20_0, .ref b20_1, .ref b20_2, .int (zI 0)])), (b20_0, .inl (cy 0, 6, .inl (fun j => zI ((fun _ => 0) j)))), (b20_1, .inl (cy 0, 6, .inl (fun j => zI ((fun _ => 0) j)))), (b20_2, .inl (cy 0, 6, .inl (fun j => zI ((fun _ => 0) j))))] H := hP
  have hD : va_D A [(a0, .inr (0, [.ref b5, .null, .int (zI 0)])), (b5, .inr (5, [.ref b9_0, .ref b9_1, .int (zI 0), .int (zI 6)])), (b9_0, .inl (cy 0, 30, .inl (fun j => zI ((fun _ => 0) j)))), (b9_1, .inl (cy 0, 5, .inl (fun j => zI ((fun _ => 0) j)))), (b16, .inr (6, [.ref b20_0, .ref b20_1, .ref b20_2, .int (zI 0)])), (b20_0, .inl (cy 0, 6, .inl (fun j => zI ((fun _ => 0) j)))), (b20_1, .inl (cy 0, 6, .inl (fun j => zI ((fun _ => 0) j)))), (b20_2, .inl (cy 0, 6, .inl (fun j => zI ((fun _ => 0) j))))] := hD
  refine wi_putF (ty := .object "HatHours$Sightings") (v := .ref b16) (w2 := [(a0, .inr (0, [.ref b5, .ref b16, .int (zI 0)])), (b5, .inr (5, [.ref b9_0, .ref b9_1, .int (zI 0), .int (zI 6)])), (b9_0, .inl (cy 0, 30, .inl (fun j => zI ((fun _ => 0) j)))), (b9_1, .inl (cy 0, 5, .inl (fun j => zI ((fun _ => 0) j)))), (b16, .inr (6, [.ref b20_0, .ref b20_1, .ref b20_2, .int (zI 0)])), (b20_0, .inl (cy 0, 6, .inl (fun j => zI ((fun _ => 0) j)))), (b20_1, .inl (cy 0, 6, .inl (fun j => zI ((fun _ => 0) j)))), (b20_2, .inl (cy 0, 6, .inl (fun j => zI ((fun _ => 0) j))))]) hx hb hts iX0 tyX0 tyX0_ok nmX0 hown hE hP hD hS 0 rfl rfl 1 (by decide) q12 rfl hnm rfl (by decide +kernel) rfl rfl (Nat.le_of_ble_eq_true rfl) dX0_init_23 rfl (fun H locs hP hS => ?_)
  have hD : va_D A [(a0, .inr (0, [.ref b5, .ref b16, .int (zI 0)])), (b5, .inr (5, [.ref b9_0, .ref b9_1, .int (zI 0), .int (zI 6)])), (b9_0, .inl (cy 0, 30, .inl (fun j => zI ((fun _ => 0) j)))), (b9_1, .inl (cy 0, 5, .inl (fun j => zI ((fun _ => 0) j)))), (b16, .inr (6, [.ref b20_0, .ref b20_1, .ref b20_2, .int (zI 0)])), (b20_0, .inl (cy 0, 6, .inl (fun j => zI ((fun _ => 0) j)))), (b20_1, .inl (cy 0, 6, .inl (fun j => zI ((fun _ => 0) j)))), (b20_2, .inl (cy 0, 6, .inl (fun j => zI ((fun _ => 0) j))))] := (DD.of hD).d rfl
  refine lv_aload_n hx hb dX0_init_26 rfl (lv_at hl 0 rfl) ?_
  refine wi_ic hx hb dX0_init_27 ?_
  refine wi_put (ty := .boolean) (v := .int (zI 0)) (w2 := [(a0, .inr (0, [.ref b5, .ref b16, .int (zI 0)])), (b5, .inr (5, [.ref b9_0, .ref b9_1, .int (zI 0), .int (zI 6)])), (b9_0, .inl (cy 0, 30, .inl (fun j => zI ((fun _ => 0) j)))), (b9_1, .inl (cy 0, 5, .inl (fun j => zI ((fun _ => 0) j)))), (b16, .inr (6, [.ref b20_0, .ref b20_1, .ref b20_2, .int (zI 0)])), (b20_0, .inl (cy 0, 6, .inl (fun j => zI ((fun _ => 0) j)))), (b20_1, .inl (cy 0, 6, .inl (fun j => zI ((fun _ => 0) j)))), (b20_2, .inl (cy 0, 6, .inl (fun j => zI ((fun _ => 0) j))))]) hx hb hts iX0 tyX0 tyX0_ok nmX0 hown hE hP (DD.of hD) rfl hS 0 rfl rfl 2 (by decide) q13 rfl (by decide +kernel) rfl rfl (Nat.le_of_ble_eq_true rfl) dX0_init_28 rfl (fun H locs hP hS => ?_)
  have hD : va_D A [(a0, .inr (0, [.ref b5, .ref b16, .int (zI 0)])), (b5, .inr (5, [.ref b9_0, .ref b9_1, .int (zI 0), .int (zI 6)])), (b9_0, .inl (cy 0, 30, .inl (fun j => zI ((fun _ => 0) j)))), (b9_1, .inl (cy 0, 5, .inl (fun j => zI ((fun _ => 0) j)))), (b16, .inr (6, [.ref b20_0, .ref b20_1, .ref b20_2, .int (zI 0)])), (b20_0, .inl (cy 0, 6, .inl (fun j => zI ((fun _ => 0) j)))), (b20_1, .inl (cy 0, 6, .inl (fun j => zI ((fun _ => 0) j)))), (b20_2, .inl (cy 0, 6, .inl (fun j => zI ((fun _ => 0) j))))] := (DD.of hD).d rfl
  exact KR _ _ _ _ [b5, b9_0, b9_1, b16, b20_0, b20_1, b20_2] hP hD hS dX0_init_31
set_option maxHeartbeats 40000000 in
set_option maxRecDepth 100000 in
theorem k_X3_init (l : Launch) (D : va_G) (cy : Nat → ClassId) (sa : Nat → Nat) (a0 : Nat) : CtC l yX3_init wsX3_init ({ frames := 2, cells := 6, slots := 70, locals := 40 }) D cy sa [.ref a0] [(a0, .inr (3, [.null, .null, .null, .null]))] (fun u => [(a0, .inr (3, [.ref (u.getD 0 0), .ref (u.getD 3 0), .ref (u.getD 4 0), .ref (u.getD 5 0)])), ((u.getD 0 0), .inr (5, [.ref (u.getD 1 0), .ref (u.getD 2 0), .int (zI 0), .int (zI 6)])), ((u.getD 1 0), .inl (cy 0, 30, .inl (fun j => zI ((fun _ => 0) j)))), ((u.getD 2 0), .inl (cy 0, 5, .inl (fun j => zI ((fun _ => 0) j)))), ((u.getD 3 0), .inr (1, [.int (zI (-4)), .int (zI 0)])), ((u.getD 4 0), .inl (cy 0, 5, .inl (fun j => zI ((fun _ => 0) j)))), ((u.getD 5 0), .inl (cy 0, 24, .inl (fun j => zI ((fun _ => 0) j))))]) 6 70 := by
  refine ct_C (cc := cX3_init) (maxL := 1) (plainFor_of_name (by decide)) rfl (Nat.le_of_ble_eq_true rfl) ?_
  intro p e s m below meth c A args QQ hx hb hml hown hts hnm hAO hE hD hP KR ls hl
  have hnm : meth.name = "<init>" := hnm
  have hl : lv_has ls 1 [(0, .ref a0)] := hl
  have hS : va_S A s.heap s.heap [] := va_S.rf
  have q0 := hts (.methodLink RX3 3 objectInit) (List.mem_of_getElem? (i := 1) rfl)
  have q1 := hts (.instanceMethod objectInit) (List.mem_of_getElem? (i := 2) rfl)
  have q2 := hts (.code objectInit ⟨#[0xb1]⟩ 1 none) (List.mem_of_getElem? (i := 3) rfl)
  have q3 := hts (.classLink RX3 9 RX5) (List.mem_of_getElem? (i := 4) rfl)
  have q4 := hts (.instantiable RX5 4) (List.mem_of_getElem? (i := 5) rfl)
  have q5 := hts (.initialized RX5) (List.mem_of_getElem? (i := 6) rfl)
  have q6 := hts (.instanceMethod yX5_init) (List.mem_of_getElem? (i := 15) rfl)
  have q7 := hts (.fieldLink RX3 12 "HatHours$Search" "draft" "LHatHours$Shop;") (List.mem_of_getElem? (i := 7) rfl)
  have q8 := hts (.classLink RX3 18 RX1) (List.mem_of_getElem? (i := 8) rfl)
  have q9 := hts (.instantiable RX1 2) (List.mem_of_getElem? (i := 9) rfl)
  have q10 := hts (.initialized RX1) (List.mem_of_getElem? (i := 10) rfl)
  have q11 := hts (.instanceMethod yX1_init) (List.mem_of_getElem? (i := 22) rfl)
  have q12 := hts (.fieldLink RX3 21 "HatHours$Search" "least" "LHatHours$Least;") (List.mem_of_getElem? (i := 11) rfl)
  have q13 := hts (.arrayClass .int) (List.mem_of_getElem? (i := 12) rfl)
  have q14 := hts (.fieldLink RX3 25 "HatHours$Search" "bestPlaces" "[I") (List.mem_of_getElem? (i := 13) rfl)
  have q15 := hts (.fieldLink RX3 29 "HatHours$Search" "startsLeft" "[I") (List.mem_of_getElem? (i := 14) rfl)
  have iX5 : ∀ w ∈ u_ws RX5 TX5 4, w ∈ wsX3_init := in_slice 27 4 rfl
  have iX3 : ∀ w ∈ u_ws RX3 TX3 4, w ∈ wsX3_init := in_slice 31 4 rfl
  have iX1 : ∀ w ∈ u_ws RX1 TX1 2, w ∈ wsX3_init := in_slice 35 2 rfl
  refine lv_aload_n hx hb dX3_init_0 rfl (lv_at hl 0 rfl) ?_
  refine W.objInit hx hb hown q0 q1 q2 rfl (by rw [hml]; exact hl.1) rfl dX3_init_1 (Nat.le_of_ble_eq_true rfl) (Nat.le_of_ble_eq_true rfl) ?_
  refine W.eq (g2 := F0 m 4 ls []) rfl ?_
  refine lv_aload_n hx hb dX3_init_4 rfl (lv_at hl 0 rfl) ?_
  refine va_new (ci := 5) (fs := [.null, .null, .int (zI 0), .int (zI 0)]) (C := RX5) (T := TX5) (N := 4) hx hb hts iX5 tyX5 tyX5_ok hown q3 q4 q5 hE.1 hP hD hS hE.2.2 rfl (fun j hj => match j, hj with | 0, _ => rfl | 1, _ => rfl | 2, _ => rfl | 3, _ => rfl | j + 4, h => absurd h (by omega)) (Nat.le_of_ble_eq_true rfl) (Nat.le_of_ble_eq_true rfl) dX3_init_5 (fun b5 H hP hD hS => ?_)
  have hP : va_P D vwCl [(a0, .inr (3, [.null, .null, .null, .null])), (b5, .inr (5, [.null, .null, .int (zI 0), .int (zI 0)]))] H := hP
  have hD : va_D A [(a0, .inr (3, [.null, .null, .null, .null])), (b5, .inr (5, [.null, .null, .int (zI 0), .int (zI 0)]))] := hD
  refine lv_dup hx hb dX3_init_8 rfl ?_
  refine cK (wr := [(a0, .inr (3, [.null, .null, .null, .null]))]) (rest := [.ref b5, .ref a0]) ⟨hx, hb, hml, hown, hts⟩ (k_X5_init l D cy sa b5) ⟨va_cnB 0 hts gX3_init_X5_init_n11 rfl rfl rfl (hE.2.1.1 ("HatHours$Search", 11, ⟨"HatHours$Shop", "<init>", "()V"⟩, "HatHours") (List.mem_of_getElem? (i := 9) rfl)) q5 (by decide +kernel) ⟨Nat.le_of_ble_eq_true rfl, Nat.le_of_ble_eq_true rfl⟩, rfl, q6⟩ hAO hE hP hD hS [1] [0] rfl rfl rfl rfl (by decide) rfl hl.1 (Nat.le_of_ble_eq_true rfl) ⟨Nat.le_of_ble_eq_true rfl, Nat.le_of_ble_eq_true rfl⟩ rfl dX3_init_9 (fun u H locs hP hD hS => ?_)
  generalize u.getD 0 0 = b9_0 at hP hD
  generalize u.getD 1 0 = b9_1 at hP hD
  have hP : va_P D vwCl [(a0, .inr (3, [.null, .null, .null, .null])), (b5, .inr (5, [.ref b9_0, .ref b9_1, .int (zI 0), .int (zI 6)])), (b9_0, .inl (cy 0, 30, .inl (fun j => zI ((fun _ => 0) j)))), (b9_1, .inl (cy 0, 5, .inl (fun j => zI ((fun _ => 0) j))))] H := hP
  have hD : va_D A [(a0, .inr (3, [.null, .null, .null, .null])), (b5, .inr (5, [.ref b9_0, .ref b9_1, .int (zI 0), .int (zI 6)])), (b9_0, .inl (cy 0, 30, .inl (fun j => zI ((fun _ => 0) j)))), (b9_1, .inl (cy 0, 5, .inl (fun j => zI ((fun _ => 0) j))))] := hD
  refine wi_putF (ty := .object "HatHours$Shop") (v := .ref b5) (w2 := [(a0, .inr (3, [.ref b5, .null, .null, .null])), (b5, .inr (5, [.ref b9_0, .ref b9_1, .int (zI 0), .int (zI 6)])), (b9_0, .inl (cy 0, 30, .inl (fun j => zI ((fun _ => 0) j)))), (b9_1, .inl (cy 0, 5, .inl (fun j => zI ((fun _ => 0) j))))]) hx hb hts iX3 tyX3 tyX3_ok nmX3 hown hE hP hD hS 0 rfl rfl 0 (by decide) q7 rfl hnm rfl (by decide +kernel) rfl rfl (Nat.le_of_ble_eq_true rfl) dX3_init_12 rfl (fun H locs hP hS => ?_)
  have hD : va_D A [(a0, .inr (3, [.ref b5, .null, .null, .null])), (b5, .inr (5, [.ref b9_0, .ref b9_1, .int (zI 0), .int (zI 6)])), (b9_0, .inl (cy 0, 30, .inl (fun j => zI ((fun _ => 0) j)))), (b9_1, .inl (cy 0, 5, .inl (fun j => zI ((fun _ => 0) j))))] := (DD.of hD).d rfl
  refine lv_aload_n hx hb dX3_init_15 rfl (lv_at hl 0 rfl) ?_
  refine va_new (ci := 1) (fs := [.int (zI 0), .int (zI 0)]) (C := RX1) (T := TX1) (N := 2) hx hb hts iX1 tyX1 tyX1_ok hown q8 q9 q10 hE.1 hP hD hS hE.2.2 rfl (fun j hj => match j, hj with | 0, _ => rfl | 1, _ => rfl | j + 2, h => absurd h (by omega)) (Nat.le_of_ble_eq_true rfl) (Nat.le_of_ble_eq_true rfl) dX3_init_16 (fun b16 H hP hD hS => ?_)
  have hP : va_P D vwCl [(a0, .inr (3, [.ref b5, .null, .null, .null])), (b5, .inr (5, [.ref b9_0, .ref b9_1, .int (zI 0), .int (zI 6)])), (b9_0, .inl (cy 0, 30, .inl (fun j => zI ((fun _ => 0) j)))), (b9_1, .inl (cy 0, 5, .inl (fun j => zI ((fun _ => 0) j)))), (b16, .inr (1, [.int (zI 0), .int (zI 0)]))] H := hP
  have hD : va_D A [(a0, .inr (3, [.ref b5, .null, .null, .null])), (b5, .inr (5, [.ref b9_0, .ref b9_1, .int (zI 0), .int (zI 6)])), (b9_0, .inl (cy 0, 30, .inl (fun j => zI ((fun _ => 0) j)))), (b9_1, .inl (cy 0, 5, .inl (fun j => zI ((fun _ => 0) j)))), (b16, .inr (1, [.int (zI 0), .int (zI 0)]))] := hD
  refine lv_dup hx hb dX3_init_19 rfl ?_
  refine cK (wr := [(a0, .inr (3, [.ref b5, .null, .null, .null])), (b5, .inr (5, [.ref b9_0, .ref b9_1, .int (zI 0), .int (zI 6)])), (b9_0, .inl (cy 0, 30, .inl (fun j => zI ((fun _ => 0) j)))), (b9_1, .inl (cy 0, 5, .inl (fun j => zI ((fun _ => 0) j))))]) (rest := [.ref b16, .ref a0]) ⟨hx, hb, hml, hown, hts⟩ (k_X1_init l D cy sa b16) ⟨va_cnB 0 hts gX3_init_X1_init_n20 rfl rfl rfl (hE.2.1.1 ("HatHours$Search", 20, ⟨"HatHours$Least", "<init>", "()V"⟩, "HatHours") (List.mem_of_getElem? (i := 10) rfl)) q10 (by decide +kernel) ⟨Nat.le_of_ble_eq_true rfl, Nat.le_of_ble_eq_true rfl⟩, rfl, q11⟩ hAO hE hP hD hS [4] [0, 1, 2, 3] rfl rfl rfl rfl (by decide) rfl hl.1 (Nat.le_of_ble_eq_true rfl) ⟨Nat.le_of_ble_eq_true rfl, Nat.le_of_ble_eq_true rfl⟩ rfl dX3_init_20 (fun u H locs hP hD hS => ?_)
  have hP : va_P D vwCl [(a0, .inr (3, [.ref b5, .null, .null, .null])), (b5, .inr (5, [.ref b9_0, .ref b9_1, .int (zI 0), .int (zI 6)])), (b9_0, .inl (cy 0, 30, .inl (fun j => zI ((fun _ => 0) j)))), (b9_1, .inl (cy 0, 5, .inl (fun j => zI ((fun _ => 0) j)))), (b16, .inr (1, [.int (zI (-4)), .int (zI 0)]))] H := hP
  have hD : va_D A [(a0, .inr (3, [.ref b5, .null, .null, .null])), (b5, .inr (5, [.ref b9_0, .ref b9_1, .int (zI 0), .int (zI 6)])), (b9_0, .inl (cy 0, 30, .inl (fun j => zI ((fun _ => 0) j)))), (b9_1, .inl (cy 0, 5, .inl (fun j => zI ((fun _ => 0) j)))), (b16, .inr (1, [.int (zI (-4)), .int (zI 0)]))] := hD
  refine wi_putF (ty := .object "HatHours$Least") (v := .ref b16) (w2 := [(a0, .inr (3, [.ref b5, .ref b16, .null, .null])), (b5, .inr (5, [.ref b9_0, .ref b9_1, .int (zI 0), .int (zI 6)])), (b9_0, .inl (cy 0, 30, .inl (fun j => zI ((fun _ => 0) j)))), (b9_1, .inl (cy 0, 5, .inl (fun j => zI ((fun _ => 0) j)))), (b16, .inr (1, [.int (zI (-4)), .int (zI 0)]))]) hx hb hts iX3 tyX3 tyX3_ok nmX3 hown hE hP hD hS 0 rfl rfl 1 (by decide) q12 rfl hnm rfl (by decide +kernel) rfl rfl (Nat.le_of_ble_eq_true rfl) dX3_init_23 rfl (fun H locs hP hS => ?_)
  have hD : va_D A [(a0, .inr (3, [.ref b5, .ref b16, .null, .null])), (b5, .inr (5, [.ref b9_0, .ref b9_1, .int (zI 0), .int (zI 6)])), (b9_0, .inl (cy 0, 30, .inl (fun j => zI ((fun _ => 0) j)))), (b9_1, .inl (cy 0, 5, .inl (fun j => zI ((fun _ => 0) j)))), (b16, .inr (1, [.int (zI (-4)), .int (zI 0)]))] := (DD.of hD).d rfl
  refine lv_aload_n hx hb dX3_init_26 rfl (lv_at hl 0 rfl) ?_
  refine wi_ic hx hb dX3_init_27 ?_
  refine wi_newI (n := 5) hx hb q13 hE hP hD hS (by decide) (Nat.le_of_ble_eq_true rfl) (Nat.le_of_ble_eq_true rfl) dX3_init_28 (fun b28 H hP hD hS => ?_)
  have hP : va_P D vwCl [(a0, .inr (3, [.ref b5, .ref b16, .null, .null])), (b5, .inr (5, [.ref b9_0, .ref b9_1, .int (zI 0), .int (zI 6)])), (b9_0, .inl (cy 0, 30, .inl (fun j => zI ((fun _ => 0) j)))), (b9_1, .inl (cy 0, 5, .inl (fun j => zI ((fun _ => 0) j)))), (b16, .inr (1, [.int (zI (-4)), .int (zI 0)])), (b28, .inl (cy 0, 5, .inl (fun j => zI ((fun _ => 0) j))))] H := hP
  have hD : va_D A [(a0, .inr (3, [.ref b5, .ref b16, .null, .null])), (b5, .inr (5, [.ref b9_0, .ref b9_1, .int (zI 0), .int (zI 6)])), (b9_0, .inl (cy 0, 30, .inl (fun j => zI ((fun _ => 0) j)))), (b9_1, .inl (cy 0, 5, .inl (fun j => zI ((fun _ => 0) j)))), (b16, .inr (1, [.int (zI (-4)), .int (zI 0)])), (b28, .inl (cy 0, 5, .inl (fun j => zI ((fun _ => 0) j))))] := hD
  refine wi_putF (ty := .array .int) (v := .ref b28) (w2 := [(a0, .inr (3, [.ref b5, .ref b16, .ref b28, .null])), (b5, .inr (5, [.ref b9_0, .ref b9_1, .int (zI 0), .int (zI 6)])), (b9_0, .inl (cy 0, 30, .inl (fun j => zI ((fun _ => 0) j)))), (b9_1, .inl (cy 0, 5, .inl (fun j => zI ((fun _ => 0) j)))), (b16, .inr (1, [.int (zI (-4)), .int (zI 0)])), (b28, .inl (cy 0, 5, .inl (fun j => zI ((fun _ => 0) j))))]) hx hb hts iX3 tyX3 tyX3_ok nmX3 hown hE hP hD hS 0 rfl rfl 2 (by decide) q14 rfl hnm rfl (by decide +kernel) rfl rfl (Nat.le_of_ble_eq_true rfl) dX3_init_30 rfl (fun H locs hP hS => ?_)
  have hD : va_D A [(a0, .inr (3, [.ref b5, .ref b16, .ref b28, .null])), (b5, .inr (5, [.ref b9_0, .ref b9_1, .int (zI 0), .int (zI 6)])), (b9_0, .inl (cy 0, 30, .inl (fun j => zI ((fun _ => 0) j)))), (b9_1, .inl (cy 0, 5, .inl (fun j => zI ((fun _ => 0) j)))), (b16, .inr (1, [.int (zI (-4)), .int (zI 0)])), (b28, .inl (cy 0, 5, .inl (fun j => zI ((fun _ => 0) j))))] := (DD.of hD).d rfl
  refine lv_aload_n hx hb dX3_init_33 rfl (lv_at hl 0 rfl) ?_
  refine wi_bi hx hb dX3_init_34 (by decide) ?_
  refine wi_newI (n := 24) hx hb q13 hE hP hD hS (by decide) (Nat.le_of_ble_eq_true rfl) (Nat.le_of_ble_eq_true rfl) dX3_init_36 (fun b36 H hP hD hS => ?_)
  have hP : va_P D vwCl [(a0, .inr (3, [.ref b5, .ref b16, .ref b28, .null])), (b5, .inr (5, [.ref b9_0, .ref b9_1, .int (zI 0), .int (zI 6)])), (b9_0, .inl (cy 0, 30, .inl (fun j => zI ((fun _ => 0) j)))), (b9_1, .inl (cy 0, 5, .inl (fun j => zI ((fun _ => 0) j)))), (b16, .inr (1, [.int (zI (-4)), .int (zI 0)])), (b28, .inl (cy 0, 5, .inl (fun j => zI ((fun _ => 0) j)))), (b36, .inl (cy 0, 24, .inl (fun j => zI ((fun _ => 0) j))))] H := hP
  have hD : va_D A [(a0, .inr (3, [.ref b5, .ref b16, .ref b28, .null])), (b5, .inr (5, [.ref b9_0, .ref b9_1, .int (zI 0), .int (zI 6)])), (b9_0, .inl (cy 0, 30, .inl (fun j => zI ((fun _ => 0) j)))), (b9_1, .inl (cy 0, 5, .inl (fun j => zI ((fun _ => 0) j)))), (b16, .inr (1, [.int (zI (-4)), .int (zI 0)])), (b28, .inl (cy 0, 5, .inl (fun j => zI ((fun _ => 0) j)))), (b36, .inl (cy 0, 24, .inl (fun j => zI ((fun _ => 0) j))))] := hD
  refine wi_putF (ty := .array .int) (v := .ref b36) (w2 := [(a0, .inr (3, [.ref b5, .ref b16, .ref b28, .ref b36])), (b5, .inr (5, [.ref b9_0, .ref b9_1, .int (zI 0), .int (zI 6)])), (b9_0, .inl (cy 0, 30, .inl (fun j => zI ((fun _ => 0) j)))), (b9_1, .inl (cy 0, 5, .inl (fun j => zI ((fun _ => 0) j)))), (b16, .inr (1, [.int (zI (-4)), .int (zI 0)])), (b28, .inl (cy 0, 5, .inl (fun j => zI ((fun _ => 0) j)))), (b36, .inl (cy 0, 24, .inl (fun j => zI ((fun _ => 0) j))))]) hx hb hts iX3 tyX3 tyX3_ok nmX3 hown hE hP hD hS 0 rfl rfl 3 (by decide) q15 rfl hnm rfl (by decide +kernel) rfl rfl (Nat.le_of_ble_eq_true rfl) dX3_init_38 rfl (fun H locs hP hS => ?_)
  have hD : va_D A [(a0, .inr (3, [.ref b5, .ref b16, .ref b28, .ref b36])), (b5, .inr (5, [.ref b9_0, .ref b9_1, .int (zI 0), .int (zI 6)])), (b9_0, .inl (cy 0, 30, .inl (fun j => zI ((fun _ => 0) j)))), (b9_1, .inl (cy 0, 5, .inl (fun j => zI ((fun _ => 0) j)))), (b16, .inr (1, [.int (zI (-4)), .int (zI 0)])), (b28, .inl (cy 0, 5, .inl (fun j => zI ((fun _ => 0) j)))), (b36, .inl (cy 0, 24, .inl (fun j => zI ((fun _ => 0) j))))] := (DD.of hD).d rfl
  exact KR _ _ _ _ [b5, b9_0, b9_1, b16, b28, b36] hP hD hS dX3_init_41
set_option maxHeartbeats 40000000 in
set_option maxRecDepth 100000 in
theorem k_X8_init (l : Launch) (D : va_G) (cy : Nat → ClassId) (sa : Nat → Nat) (a0 : Nat) (a1 : Nat) : CtC l yX8_init wsX8_init ({ frames := 2, cells := 4, slots := 44, locals := 40 }) D cy sa [.ref a0, .ref a1] [(a0, .inr (8, [.null, .null, .null, .int (zI 0), .int (zI 0), .int (zI 0), .int (zI 0), .int (zI 0), .int (zI 0), .int (zI 0), .int (zI 0), .int (zI 0), .int (zI 0)]))] (fun u => [(a0, .inr (8, [.ref a1, .ref (u.getD 0 0), .ref (u.getD 3 0), .int (zI 0), .int (zI 0), .int (zI 0), .int (zI 0), .int (zI 0), .int (zI 0), .int (zI 0), .int (zI 0), .int (zI 0), .int (zI 0)])), ((u.getD 0 0), .inr (5, [.ref (u.getD 1 0), .ref (u.getD 2 0), .int (zI 0), .int (zI 6)])), ((u.getD 1 0), .inl (cy 0, 30, .inl (fun j => zI ((fun _ => 0) j)))), ((u.getD 2 0), .inl (cy 0, 5, .inl (fun j => zI ((fun _ => 0) j)))), ((u.getD 3 0), .inl (cy 0, 5, .inl (fun j => zI ((fun _ => 0) j))))]) 4 44 := by
  refine ct_C (cc := cX8_init) (maxL := 2) (plainFor_of_name (by decide)) rfl (Nat.le_of_ble_eq_true rfl) ?_
  intro p e s m below meth c A args QQ hx hb hml hown hts hnm hAO hE hD hP KR ls hl
  have hnm : meth.name = "<init>" := hnm
  have hl : lv_has ls 2 [(0, .ref a0), (1, .ref a1)] := hl
  have hS : va_S A s.heap s.heap [] := va_S.rf
  have q0 := hts (.methodLink RX8 3 objectInit) (List.mem_of_getElem? (i := 1) rfl)
  have q1 := hts (.instanceMethod objectInit) (List.mem_of_getElem? (i := 2) rfl)
  have q2 := hts (.code objectInit ⟨#[0xb1]⟩ 1 none) (List.mem_of_getElem? (i := 3) rfl)
  have q3 := hts (.classLink RX8 9 RX5) (List.mem_of_getElem? (i := 4) rfl)
  have q4 := hts (.instantiable RX5 4) (List.mem_of_getElem? (i := 5) rfl)
  have q5 := hts (.initialized RX5) (List.mem_of_getElem? (i := 6) rfl)
  have q6 := hts (.instanceMethod yX5_init) (List.mem_of_getElem? (i := 21) rfl)
  have q7 := hts (.fieldLink RX8 12 "HatHours$TextReader" "draft" "LHatHours$Shop;") (List.mem_of_getElem? (i := 7) rfl)
  have q8 := hts (.arrayClass .int) (List.mem_of_getElem? (i := 8) rfl)
  have q9 := hts (.fieldLink RX8 18 "HatHours$TextReader" "ahead" "[I") (List.mem_of_getElem? (i := 9) rfl)
  have q10 := hts (.fieldLink RX8 22 "HatHours$TextReader" "aheadUsed" "I") (List.mem_of_getElem? (i := 10) rfl)
  have q11 := hts (.fieldLink RX8 26 "HatHours$TextReader" "orderTold" "Z") (List.mem_of_getElem? (i := 11) rfl)
  have q12 := hts (.fieldLink RX8 30 "HatHours$TextReader" "startTold" "Z") (List.mem_of_getElem? (i := 12) rfl)
  have q13 := hts (.fieldLink RX8 33 "HatHours$TextReader" "lines" "I") (List.mem_of_getElem? (i := 13) rfl)
  have q14 := hts (.fieldLink RX8 36 "HatHours$TextReader" "foundFault" "I") (List.mem_of_getElem? (i := 14) rfl)
  have q15 := hts (.fieldLink RX8 39 "HatHours$TextReader" "foundPlace" "I") (List.mem_of_getElem? (i := 15) rfl)
  have q16 := hts (.fieldLink RX8 42 "HatHours$TextReader" "next" "I") (List.mem_of_getElem? (i := 16) rfl)
  have q17 := hts (.fieldLink RX8 45 "HatHours$TextReader" "token" "I") (List.mem_of_getElem? (i := 17) rfl)
  have q18 := hts (.fieldLink RX8 48 "HatHours$TextReader" "tokenPlace" "I") (List.mem_of_getElem? (i := 18) rfl)
  have q19 := hts (.fieldLink RX8 51 "HatHours$TextReader" "number" "I") (List.mem_of_getElem? (i := 19) rfl)
  have q20 := hts (.fieldLink RX8 54 "HatHours$TextReader" "tape" "LHatHours$Tape;") (List.mem_of_getElem? (i := 20) rfl)
  have iX5 : ∀ w ∈ u_ws RX5 TX5 4, w ∈ wsX8_init := in_slice 28 4 rfl
  have iX8 : ∀ w ∈ u_ws RX8 TX8 13, w ∈ wsX8_init := in_slice 32 13 rfl
  refine lv_aload_n hx hb dX8_init_0 rfl (lv_at hl 0 rfl) ?_
  refine W.objInit hx hb hown q0 q1 q2 rfl (by rw [hml]; exact hl.1) rfl dX8_init_1 (Nat.le_of_ble_eq_true rfl) (Nat.le_of_ble_eq_true rfl) ?_
  refine W.eq (g2 := F0 m 4 ls []) rfl ?_
  refine lv_aload_n hx hb dX8_init_4 rfl (lv_at hl 0 rfl) ?_
  refine va_new (ci := 5) (fs := [.null, .null, .int (zI 0), .int (zI 0)]) (C := RX5) (T := TX5) (N := 4) hx hb hts iX5 tyX5 tyX5_ok hown q3 q4 q5 hE.1 hP hD hS hE.2.2 rfl (fun j hj => match j, hj with | 0, _ => rfl | 1, _ => rfl | 2, _ => rfl | 3, _ => rfl | j + 4, h => absurd h (by omega)) (Nat.le_of_ble_eq_true rfl) (Nat.le_of_ble_eq_true rfl) dX8_init_5 (fun b5 H hP hD hS => ?_)
  have hP : va_P D vwCl [(a0, .inr (8, [.null, .null, .null, .int (zI 0), .int (zI 0), .int (zI 0), .int (zI 0), .int (zI 0), .int (zI 0), .int (zI 0), .int (zI 0), .int (zI 0), .int (zI 0)])), (b5, .inr (5, [.null, .null, .int (zI 0), .int (zI 0)]))] H := hP
  have hD : va_D A [(a0, .inr (8, [.null, .null, .null, .int (zI 0), .int (zI 0), .int (zI 0), .int (zI 0), .int (zI 0), .int (zI 0), .int (zI 0), .int (zI 0), .int (zI 0), .int (zI 0)])), (b5, .inr (5, [.null, .null, .int (zI 0), .int (zI 0)]))] := hD
  refine lv_dup hx hb dX8_init_8 rfl ?_
  refine cK (wr := [(a0, .inr (8, [.null, .null, .null, .int (zI 0), .int (zI 0), .int (zI 0), .int (zI 0), .int (zI 0), .int (zI 0), .int (zI 0), .int (zI 0), .int (zI 0), .int (zI 0)]))]) (rest := [.ref b5, .ref a0]) ⟨hx, hb, hml, hown, hts⟩ (k_X5_init l D cy sa b5) ⟨va_cnB 0 hts gX8_init_X5_init_n11 rfl rfl rfl (hE.2.1.1 ("HatHours$TextReader", 11, ⟨"HatHours$Shop", "<init>", "()V"⟩, "HatHours") (List.mem_of_getElem? (i := 1) rfl)) q5 (by decide +kernel) ⟨Nat.le_of_ble_eq_true rfl, Nat.le_of_ble_eq_true rfl⟩, rfl, q6⟩ hAO hE hP hD hS [1] [0] rfl rfl rfl rfl (by decide) rfl hl.1 (Nat.le_of_ble_eq_true rfl) ⟨Nat.le_of_ble_eq_true rfl, Nat.le_of_ble_eq_true rfl⟩ rfl dX8_init_9 (fun u H locs hP hD hS => ?_)
  generalize u.getD 0 0 = b9_0 at hP hD
  generalize u.getD 1 0 = b9_1 at hP hD
  have hP : va_P D vwCl [(a0, .inr (8, [.null, .null, .null, .int (zI 0), .int (zI 0), .int (zI 0), .int (zI 0), .int (zI 0), .int (zI 0), .int (zI 0), .int (zI 0), .int (zI 0), .int (zI 0)])), (b5, .inr (5, [.ref b9_0, .ref b9_1, .int (zI 0), .int (zI 6)])), (b9_0, .inl (cy 0, 30, .inl (fun j => zI ((fun _ => 0) j)))), (b9_1, .inl (cy 0, 5, .inl (fun j => zI ((fun _ => 0) j))))] H := hP
  have hD : va_D A [(a0, .inr (8, [.null, .null, .null, .int (zI 0), .int (zI 0), .int (zI 0), .int (zI 0), .int (zI 0), .int (zI 0), .int (zI 0), .int (zI 0), .int (zI 0), .int (zI 0)])), (b5, .inr (5, [.ref b9_0, .ref b9_1, .int (zI 0), .int (zI 6)])), (b9_0, .inl (cy 0, 30, .inl (fun j => zI ((fun _ => 0) j)))), (b9_1, .inl (cy 0, 5, .inl (fun j => zI ((fun _ => 0) j))))] := hD
  refine wi_putF (ty := .object "HatHours$Shop") (v := .ref b5) (w2 := [(a0, .inr (8, [.null, .ref b5, .null, .int (zI 0), .int (zI 0), .int (zI 0), .int (zI 0), .int (zI 0), .int (zI 0), .int (zI 0), .int (zI 0), .int (zI 0), .int (zI 0)])), (b5, .inr (5, [.ref b9_0, .ref b9_1, .int (zI 0), .int (zI 6)])), (b9_0, .inl (cy 0, 30, .inl (fun j => zI ((fun _ => 0) j)))), (b9_1, .inl (cy 0, 5, .inl (fun j => zI ((fun _ => 0) j))))]) hx hb hts iX8 tyX8 tyX8_ok nmX8 hown hE hP hD hS 0 rfl rfl 1 (by decide) q7 rfl hnm rfl (by decide +kernel) rfl rfl (Nat.le_of_ble_eq_true rfl) dX8_init_12 rfl (fun H locs hP hS => ?_)
  have hD : va_D A [(a0, .inr (8, [.null, .ref b5, .null, .int (zI 0), .int (zI 0), .int (zI 0), .int (zI 0), .int (zI 0), .int (zI 0), .int (zI 0), .int (zI 0), .int (zI 0), .int (zI 0)])), (b5, .inr (5, [.ref b9_0, .ref b9_1, .int (zI 0), .int (zI 6)])), (b9_0, .inl (cy 0, 30, .inl (fun j => zI ((fun _ => 0) j)))), (b9_1, .inl (cy 0, 5, .inl (fun j => zI ((fun _ => 0) j))))] := (DD.of hD).d rfl
  refine lv_aload_n hx hb dX8_init_15 rfl (lv_at hl 0 rfl) ?_
  refine wi_ic hx hb dX8_init_16 ?_
  refine wi_newI (n := 5) hx hb q8 hE hP hD hS (by decide) (Nat.le_of_ble_eq_true rfl) (Nat.le_of_ble_eq_true rfl) dX8_init_17 (fun b17 H hP hD hS => ?_)
  have hP : va_P D vwCl [(a0, .inr (8, [.null, .ref b5, .null, .int (zI 0), .int (zI 0), .int (zI 0), .int (zI 0), .int (zI 0), .int (zI 0), .int (zI 0), .int (zI 0), .int (zI 0), .int (zI 0)])), (b5, .inr (5, [.ref b9_0, .ref b9_1, .int (zI 0), .int (zI 6)])), (b9_0, .inl (cy 0, 30, .inl (fun j => zI ((fun _ => 0) j)))), (b9_1, .inl (cy 0, 5, .inl (fun j => zI ((fun _ => 0) j)))), (b17, .inl (cy 0, 5, .inl (fun j => zI ((fun _ => 0) j))))] H := hP
  have hD : va_D A [(a0, .inr (8, [.null, .ref b5, .null, .int (zI 0), .int (zI 0), .int (zI 0), .int (zI 0), .int (zI 0), .int (zI 0), .int (zI 0), .int (zI 0), .int (zI 0), .int (zI 0)])), (b5, .inr (5, [.ref b9_0, .ref b9_1, .int (zI 0), .int (zI 6)])), (b9_0, .inl (cy 0, 30, .inl (fun j => zI ((fun _ => 0) j)))), (b9_1, .inl (cy 0, 5, .inl (fun j => zI ((fun _ => 0) j)))), (b17, .inl (cy 0, 5, .inl (fun j => zI ((fun _ => 0) j))))] := hD
  refine wi_putF (ty := .array .int) (v := .ref b17) (w2 := [(a0, .inr (8, [.null, .ref b5, .ref b17, .int (zI 0), .int (zI 0), .int (zI 0), .int (zI 0), .int (zI 0), .int (zI 0), .int (zI 0), .int (zI 0), .int (zI 0), .int (zI 0)])), (b5, .inr (5, [.ref b9_0, .ref b9_1, .int (zI 0), .int (zI 6)])), (b9_0, .inl (cy 0, 30, .inl (fun j => zI ((fun _ => 0) j)))), (b9_1, .inl (cy 0, 5, .inl (fun j => zI ((fun _ => 0) j)))), (b17, .inl (cy 0, 5, .inl (fun j => zI ((fun _ => 0) j))))]) hx hb hts iX8 tyX8 tyX8_ok nmX8 hown hE hP hD hS 0 rfl rfl 2 (by decide) q9 rfl hnm rfl (by decide +kernel) rfl rfl (Nat.le_of_ble_eq_true rfl) dX8_init_19 rfl (fun H locs hP hS => ?_)
  have hD : va_D A [(a0, .inr (8, [.null, .ref b5, .ref b17, .int (zI 0), .int (zI 0), .int (zI 0), .int (zI 0), .int (zI 0), .int (zI 0), .int (zI 0), .int (zI 0), .int (zI 0), .int (zI 0)])), (b5, .inr (5, [.ref b9_0, .ref b9_1, .int (zI 0), .int (zI 6)])), (b9_0, .inl (cy 0, 30, .inl (fun j => zI ((fun _ => 0) j)))), (b9_1, .inl (cy 0, 5, .inl (fun j => zI ((fun _ => 0) j)))), (b17, .inl (cy 0, 5, .inl (fun j => zI ((fun _ => 0) j))))] := (DD.of hD).d rfl
  refine lv_aload_n hx hb dX8_init_22 rfl (lv_at hl 0 rfl) ?_
  refine wi_ic hx hb dX8_init_23 ?_
  refine wi_put (ty := .int) (v := .int (zI 0)) (w2 := [(a0, .inr (8, [.null, .ref b5, .ref b17, .int (zI 0), .int (zI 0), .int (zI 0), .int (zI 0), .int (zI 0), .int (zI 0), .int (zI 0), .int (zI 0), .int (zI 0), .int (zI 0)])), (b5, .inr (5, [.ref b9_0, .ref b9_1, .int (zI 0), .int (zI 6)])), (b9_0, .inl (cy 0, 30, .inl (fun j => zI ((fun _ => 0) j)))), (b9_1, .inl (cy 0, 5, .inl (fun j => zI ((fun _ => 0) j)))), (b17, .inl (cy 0, 5, .inl (fun j => zI ((fun _ => 0) j))))]) hx hb hts iX8 tyX8 tyX8_ok nmX8 hown hE hP (DD.of hD) rfl hS 0 rfl rfl 3 (by decide) q10 rfl (by decide +kernel) rfl rfl (Nat.le_of_ble_eq_true rfl) dX8_init_24 rfl (fun H locs hP hS => ?_)
  have hD : va_D A [(a0, .inr (8, [.null, .ref b5, .ref b17, .int (zI 0), .int (zI 0), .int (zI 0), .int (zI 0), .int (zI 0), .int (zI 0), .int (zI 0), .int (zI 0), .int (zI 0), .int (zI 0)])), (b5, .inr (5, [.ref b9_0, .ref b9_1, .int (zI 0), .int (zI 6)])), (b9_0, .inl (cy 0, 30, .inl (fun j => zI ((fun _ => 0) j)))), (b9_1, .inl (cy 0, 5, .inl (fun j => zI ((fun _ => 0) j)))), (b17, .inl (cy 0, 5, .inl (fun j => zI ((fun _ => 0) j))))] := (DD.of hD).d rfl
  refine lv_aload_n hx hb dX8_init_27 rfl (lv_at hl 0 rfl) ?_
  refine wi_ic hx hb dX8_init_28 ?_
  refine wi_put (ty := .boolean) (v := .int (zI 0)) (w2 := [(a0, .inr (8, [.null, .ref b5, .ref b17, .int (zI 0), .int (zI 0), .int (zI 0), .int (zI 0), .int (zI 0), .int (zI 0), .int (zI 0), .int (zI 0), .int (zI 0), .int (zI 0)])), (b5, .inr (5, [.ref b9_0, .ref b9_1, .int (zI 0), .int (zI 6)])), (b9_0, .inl (cy 0, 30, .inl (fun j => zI ((fun _ => 0) j)))), (b9_1, .inl (cy 0, 5, .inl (fun j => zI ((fun _ => 0) j)))), (b17, .inl (cy 0, 5, .inl (fun j => zI ((fun _ => 0) j))))]) hx hb hts iX8 tyX8 tyX8_ok nmX8 hown hE hP (DD.of hD) rfl hS 0 rfl rfl 4 (by decide) q11 rfl (by decide +kernel) rfl rfl (Nat.le_of_ble_eq_true rfl) dX8_init_29 rfl (fun H locs hP hS => ?_)
  have hD : va_D A [(a0, .inr (8, [.null, .ref b5, .ref b17, .int (zI 0), .int (zI 0), .int (zI 0), .int (zI 0), .int (zI 0), .int (zI 0), .int (zI 0), .int (zI 0), .int (zI 0), .int (zI 0)])), (b5, .inr (5, [.ref b9_0, .ref b9_1, .int (zI 0), .int (zI 6)])), (b9_0, .inl (cy 0, 30, .inl (fun j => zI ((fun _ => 0) j)))), (b9_1, .inl (cy 0, 5, .inl (fun j => zI ((fun _ => 0) j)))), (b17, .inl (cy 0, 5, .inl (fun j => zI ((fun _ => 0) j))))] := (DD.of hD).d rfl
  refine lv_aload_n hx hb dX8_init_32 rfl (lv_at hl 0 rfl) ?_
  refine wi_ic hx hb dX8_init_33 ?_
  refine wi_put (ty := .boolean) (v := .int (zI 0)) (w2 := [(a0, .inr (8, [.null, .ref b5, .ref b17, .int (zI 0), .int (zI 0), .int (zI 0), .int (zI 0), .int (zI 0), .int (zI 0), .int (zI 0), .int (zI 0), .int (zI 0), .int (zI 0)])), (b5, .inr (5, [.ref b9_0, .ref b9_1, .int (zI 0), .int (zI 6)])), (b9_0, .inl (cy 0, 30, .inl (fun j => zI ((fun _ => 0) j)))), (b9_1, .inl (cy 0, 5, .inl (fun j => zI ((fun _ => 0) j)))), (b17, .inl (cy 0, 5, .inl (fun j => zI ((fun _ => 0) j))))]) hx hb hts iX8 tyX8 tyX8_ok nmX8 hown hE hP (DD.of hD) rfl hS 0 rfl rfl 5 (by decide) q12 rfl (by decide +kernel) rfl rfl (Nat.le_of_ble_eq_true rfl) dX8_init_34 rfl (fun H locs hP hS => ?_)
  have hD : va_D A [(a0, .inr (8, [.null, .ref b5, .ref b17, .int (zI 0), .int (zI 0), .int (zI 0), .int (zI 0), .int (zI 0), .int (zI 0), .int (zI 0), .int (zI 0), .int (zI 0), .int (zI 0)])), (b5, .inr (5, [.ref b9_0, .ref b9_1, .int (zI 0), .int (zI 6)])), (b9_0, .inl (cy 0, 30, .inl (fun j => zI ((fun _ => 0) j)))), (b9_1, .inl (cy 0, 5, .inl (fun j => zI ((fun _ => 0) j)))), (b17, .inl (cy 0, 5, .inl (fun j => zI ((fun _ => 0) j))))] := (DD.of hD).d rfl
  refine lv_aload_n hx hb dX8_init_37 rfl (lv_at hl 0 rfl) ?_
  refine wi_ic hx hb dX8_init_38 ?_
  refine wi_put (ty := .int) (v := .int (zI 0)) (w2 := [(a0, .inr (8, [.null, .ref b5, .ref b17, .int (zI 0), .int (zI 0), .int (zI 0), .int (zI 0), .int (zI 0), .int (zI 0), .int (zI 0), .int (zI 0), .int (zI 0), .int (zI 0)])), (b5, .inr (5, [.ref b9_0, .ref b9_1, .int (zI 0), .int (zI 6)])), (b9_0, .inl (cy 0, 30, .inl (fun j => zI ((fun _ => 0) j)))), (b9_1, .inl (cy 0, 5, .inl (fun j => zI ((fun _ => 0) j)))), (b17, .inl (cy 0, 5, .inl (fun j => zI ((fun _ => 0) j))))]) hx hb hts iX8 tyX8 tyX8_ok nmX8 hown hE hP (DD.of hD) rfl hS 0 rfl rfl 6 (by decide) q13 rfl (by decide +kernel) rfl rfl (Nat.le_of_ble_eq_true rfl) dX8_init_39 rfl (fun H locs hP hS => ?_)
  have hD : va_D A [(a0, .inr (8, [.null, .ref b5, .ref b17, .int (zI 0), .int (zI 0), .int (zI 0), .int (zI 0), .int (zI 0), .int (zI 0), .int (zI 0), .int (zI 0), .int (zI 0), .int (zI 0)])), (b5, .inr (5, [.ref b9_0, .ref b9_1, .int (zI 0), .int (zI 6)])), (b9_0, .inl (cy 0, 30, .inl (fun j => zI ((fun _ => 0) j)))), (b9_1, .inl (cy 0, 5, .inl (fun j => zI ((fun _ => 0) j)))), (b17, .inl (cy 0, 5, .inl (fun j => zI ((fun _ => 0) j))))] := (DD.of hD).d rfl
  refine lv_aload_n hx hb dX8_init_42 rfl (lv_at hl 0 rfl) ?_
  refine wi_ic hx hb dX8_init_43 ?_
  refine wi_put (ty := .int) (v := .int (zI 0)) (w2 := [(a0, .inr (8, [.null, .ref b5, .ref b17, .int (zI 0), .int (zI 0), .int (zI 0), .int (zI 0), .int (zI 0), .int (zI 0), .int (zI 0), .int (zI 0), .int (zI 0), .int (zI 0)])), (b5, .inr (5, [.ref b9_0, .ref b9_1, .int (zI 0), .int (zI 6)])), (b9_0, .inl (cy 0, 30, .inl (fun j => zI ((fun _ => 0) j)))), (b9_1, .inl (cy 0, 5, .inl (fun j => zI ((fun _ => 0) j)))), (b17, .inl (cy 0, 5, .inl (fun j => zI ((fun _ => 0) j))))]) hx hb hts iX8 tyX8 tyX8_ok nmX8 hown hE hP (DD.of hD) rfl hS 0 rfl rfl 7 (by decide) q14 rfl (by decide +kernel) rfl rfl (Nat.le_of_ble_eq_true rfl) dX8_init_44 rfl (fun H locs hP hS => ?_)
  have hD : va_D A [(a0, .inr (8, [.null, .ref b5, .ref b17, .int (zI 0), .int (zI 0), .int (zI 0), .int (zI 0), .int (zI 0), .int (zI 0), .int (zI 0), .int (zI 0), .int (zI 0), .int (zI 0)])), (b5, .inr (5, [.ref b9_0, .ref b9_1, .int (zI 0), .int (zI 6)])), (b9_0, .inl (cy 0, 30, .inl (fun j => zI ((fun _ => 0) j)))), (b9_1, .inl (cy 0, 5, .inl (fun j => zI ((fun _ => 0) j)))), (b17, .inl (cy 0, 5, .inl (fun j => zI ((fun _ => 0) j))))] := (DD.of hD).d rfl
  refine lv_aload_n hx hb dX8_init_47 rfl (lv_at hl 0 rfl) ?_
  refine wi_ic hx hb dX8_init_48 ?_
  refine wi_put (ty := .int) (v := .int (zI 0)) (w2 := [(a0, .inr (8, [.null, .ref b5, .ref b17, .int (zI 0), .int (zI 0), .int (zI 0), .int (zI 0), .int (zI 0), .int (zI 0), .int (zI 0), .int (zI 0), .int (zI 0), .int (zI 0)])), (b5, .inr (5, [.ref b9_0, .ref b9_1, .int (zI 0), .int (zI 6)])), (b9_0, .inl (cy 0, 30, .inl (fun j => zI ((fun _ => 0) j)))), (b9_1, .inl (cy 0, 5, .inl (fun j => zI ((fun _ => 0) j)))), (b17, .inl (cy 0, 5, .inl (fun j => zI ((fun _ => 0) j))))]) hx hb hts iX8 tyX8 tyX8_ok nmX8 hown hE hP (DD.of hD) rfl hS 0 rfl rfl 8 (by decide) q15 rfl (by decide +kernel) rfl rfl (Nat.le_of_ble_eq_true rfl) dX8_init_49 rfl (fun H locs hP hS => ?_)
  have hD : va_D A [(a0, .inr (8, [.null, .ref b5, .ref b17, .int (zI 0), .int (zI 0), .int (zI 0), .int (zI 0), .int (zI 0), .int (zI 0), .int (zI 0), .int (zI 0), .int (zI 0), .int (zI 0)])), (b5, .inr (5, [.ref b9_0, .ref b9_1, .int (zI 0), .int (zI 6)])), (b9_0, .inl (cy 0, 30, .inl (fun j => zI ((fun _ => 0) j)))), (b9_1, .inl (cy 0, 5, .inl (fun j => zI ((fun _ => 0) j)))), (b17, .inl (cy 0, 5, .inl (fun j => zI ((fun _ => 0) j))))] := (DD.of hD).d rfl
  refine lv_aload_n hx hb dX8_init_52 rfl (lv_at hl 0 rfl) ?_
  refine wi_ic hx hb dX8_init_53 ?_
  refine wi_put (ty := .int) (v := .int (zI 0)) (w2 := [(a0, .inr (8, [.null, .ref b5, .ref b17, .int (zI 0), .int (zI 0), .int (zI 0), .int (zI 0), .int (zI 0), .int (zI 0), .int (zI 0), .int (zI 0), .int (zI 0), .int (zI 0)])), (b5, .inr (5, [.ref b9_0, .ref b9_1, .int (zI 0), .int (zI 6)])), (b9_0, .inl (cy 0, 30, .inl (fun j => zI ((fun _ => 0) j)))), (b9_1, .inl (cy 0, 5, .inl (fun j => zI ((fun _ => 0) j)))), (b17, .inl (cy 0, 5, .inl (fun j => zI ((fun _ => 0) j))))]) hx hb hts iX8 tyX8 tyX8_ok nmX8 hown hE hP (DD.of hD) rfl hS 0 rfl rfl 9 (by decide) q16 rfl (by decide +kernel) rfl rfl (Nat.le_of_ble_eq_true rfl) dX8_init_54 rfl (fun H locs hP hS => ?_)
  have hD : va_D A [(a0, .inr (8, [.null, .ref b5, .ref b17, .int (zI 0), .int (zI 0), .int (zI 0), .int (zI 0), .int (zI 0), .int (zI 0), .int (zI 0), .int (zI 0), .int (zI 0), .int (zI 0)])), (b5, .inr (5, [.ref b9_0, .ref b9_1, .int (zI 0), .int (zI 6)])), (b9_0, .inl (cy 0, 30, .inl (fun j => zI ((fun _ => 0) j)))), (b9_1, .inl (cy 0, 5, .inl (fun j => zI ((fun _ => 0) j)))), (b17, .inl (cy 0, 5, .inl (fun j => zI ((fun _ => 0) j))))] := (DD.of hD).d rfl
  refine lv_aload_n hx hb dX8_init_57 rfl (lv_at hl 0 rfl) ?_
  refine wi_ic hx hb dX8_init_58 ?_
  refine wi_put (ty := .int) (v := .int (zI 0)) (w2 := [(a0, .inr (8, [.null, .ref b5, .ref b17, .int (zI 0), .int (zI 0), .int (zI 0), .int (zI 0), .int (zI 0), .int (zI 0), .int (zI 0), .int (zI 0), .int (zI 0), .int (zI 0)])), (b5, .inr (5, [.ref b9_0, .ref b9_1, .int (zI 0), .int (zI 6)])), (b9_0, .inl (cy 0, 30, .inl (fun j => zI ((fun _ => 0) j)))), (b9_1, .inl (cy 0, 5, .inl (fun j => zI ((fun _ => 0) j)))), (b17, .inl (cy 0, 5, .inl (fun j => zI ((fun _ => 0) j))))]) hx hb hts iX8 tyX8 tyX8_ok nmX8 hown hE hP (DD.of hD) rfl hS 0 rfl rfl 10 (by decide) q17 rfl (by decide +kernel) rfl rfl (Nat.le_of_ble_eq_true rfl) dX8_init_59 rfl (fun H locs hP hS => ?_)
  have hD : va_D A [(a0, .inr (8, [.null, .ref b5, .ref b17, .int (zI 0), .int (zI 0), .int (zI 0), .int (zI 0), .int (zI 0), .int (zI 0), .int (zI 0), .int (zI 0), .int (zI 0), .int (zI 0)])), (b5, .inr (5, [.ref b9_0, .ref b9_1, .int (zI 0), .int (zI 6)])), (b9_0, .inl (cy 0, 30, .inl (fun j => zI ((fun _ => 0) j)))), (b9_1, .inl (cy 0, 5, .inl (fun j => zI ((fun _ => 0) j)))), (b17, .inl (cy 0, 5, .inl (fun j => zI ((fun _ => 0) j))))] := (DD.of hD).d rfl
  refine lv_aload_n hx hb dX8_init_62 rfl (lv_at hl 0 rfl) ?_
  refine wi_ic hx hb dX8_init_63 ?_
  refine wi_put (ty := .int) (v := .int (zI 0)) (w2 := [(a0, .inr (8, [.null, .ref b5, .ref b17, .int (zI 0), .int (zI 0), .int (zI 0), .int (zI 0), .int (zI 0), .int (zI 0), .int (zI 0), .int (zI 0), .int (zI 0), .int (zI 0)])), (b5, .inr (5, [.ref b9_0, .ref b9_1, .int (zI 0), .int (zI 6)])), (b9_0, .inl (cy 0, 30, .inl (fun j => zI ((fun _ => 0) j)))), (b9_1, .inl (cy 0, 5, .inl (fun j => zI ((fun _ => 0) j)))), (b17, .inl (cy 0, 5, .inl (fun j => zI ((fun _ => 0) j))))]) hx hb hts iX8 tyX8 tyX8_ok nmX8 hown hE hP (DD.of hD) rfl hS 0 rfl rfl 11 (by decide) q18 rfl (by decide +kernel) rfl rfl (Nat.le_of_ble_eq_true rfl) dX8_init_64 rfl (fun H locs hP hS => ?_)
  have hD : va_D A [(a0, .inr (8, [.null, .ref b5, .ref b17, .int (zI 0), .int (zI 0), .int (zI 0), .int (zI 0), .int (zI 0), .int (zI 0), .int (zI 0), .int (zI 0), .int (zI 0), .int (zI 0)])), (b5, .inr (5, [.ref b9_0, .ref b9_1, .int (zI 0), .int (zI 6)])), (b9_0, .inl (cy 0, 30, .inl (fun j => zI ((fun _ => 0) j)))), (b9_1, .inl (cy 0, 5, .inl (fun j => zI ((fun _ => 0) j)))), (b17, .inl (cy 0, 5, .inl (fun j => zI ((fun _ => 0) j))))] := (DD.of hD).d rfl
  refine lv_aload_n hx hb dX8_init_67 rfl (lv_at hl 0 rfl) ?_
  refine wi_ic hx hb dX8_init_68 ?_
  refine wi_put (ty := .int) (v := .int (zI 0)) (w2 := [(a0, .inr (8, [.null, .ref b5, .ref b17, .int (zI 0), .int (zI 0), .int (zI 0), .int (zI 0), .int (zI 0), .int (zI 0), .int (zI 0), .int (zI 0), .int (zI 0), .int (zI 0)])), (b5, .inr (5, [.ref b9_0, .ref b9_1, .int (zI 0), .int (zI 6)])), (b9_0, .inl (cy 0, 30, .inl (fun j => zI ((fun _ => 0) j)))), (b9_1, .inl (cy 0, 5, .inl (fun j => zI ((fun _ => 0) j)))), (b17, .inl (cy 0, 5, .inl (fun j => zI ((fun _ => 0) j))))]) hx hb hts iX8 tyX8 tyX8_ok nmX8 hown hE hP (DD.of hD) rfl hS 0 rfl rfl 12 (by decide) q19 rfl (by decide +kernel) rfl rfl (Nat.le_of_ble_eq_true rfl) dX8_init_69 rfl (fun H locs hP hS => ?_)
  have hD : va_D A [(a0, .inr (8, [.null, .ref b5, .ref b17, .int (zI 0), .int (zI 0), .int (zI 0), .int (zI 0), .int (zI 0), .int (zI 0), .int (zI 0), .int (zI 0), .int (zI 0), .int (zI 0)])), (b5, .inr (5, [.ref b9_0, .ref b9_1, .int (zI 0), .int (zI 6)])), (b9_0, .inl (cy 0, 30, .inl (fun j => zI ((fun _ => 0) j)))), (b9_1, .inl (cy 0, 5, .inl (fun j => zI ((fun _ => 0) j)))), (b17, .inl (cy 0, 5, .inl (fun j => zI ((fun _ => 0) j))))] := (DD.of hD).d rfl
  refine lv_aload_n hx hb dX8_init_72 rfl (lv_at hl 0 rfl) ?_
  refine lv_aload_n hx hb dX8_init_73 rfl (lv_at hl 1 rfl) ?_
  refine wi_putF (ty := .object "HatHours$Tape") (v := .ref a1) (w2 := [(a0, .inr (8, [.ref a1, .ref b5, .ref b17, .int (zI 0), .int (zI 0), .int (zI 0), .int (zI 0), .int (zI 0), .int (zI 0), .int (zI 0), .int (zI 0), .int (zI 0), .int (zI 0)])), (b5, .inr (5, [.ref b9_0, .ref b9_1, .int (zI 0), .int (zI 6)])), (b9_0, .inl (cy 0, 30, .inl (fun j => zI ((fun _ => 0) j)))), (b9_1, .inl (cy 0, 5, .inl (fun j => zI ((fun _ => 0) j)))), (b17, .inl (cy 0, 5, .inl (fun j => zI ((fun _ => 0) j))))]) hx hb hts iX8 tyX8 tyX8_ok nmX8 hown hE hP hD hS 0 rfl rfl 0 (by decide) q20 rfl hnm rfl (by decide +kernel) rfl rfl (Nat.le_of_ble_eq_true rfl) dX8_init_74 rfl (fun H locs hP hS => ?_)
  have hD : va_D A [(a0, .inr (8, [.ref a1, .ref b5, .ref b17, .int (zI 0), .int (zI 0), .int (zI 0), .int (zI 0), .int (zI 0), .int (zI 0), .int (zI 0), .int (zI 0), .int (zI 0), .int (zI 0)])), (b5, .inr (5, [.ref b9_0, .ref b9_1, .int (zI 0), .int (zI 6)])), (b9_0, .inl (cy 0, 30, .inl (fun j => zI ((fun _ => 0) j)))), (b9_1, .inl (cy 0, 5, .inl (fun j => zI ((fun _ => 0) j)))), (b17, .inl (cy 0, 5, .inl (fun j => zI ((fun _ => 0) j))))] := (DD.of hD).d rfl
  exact KR _ _ _ _ [b5, b9_0, b9_1, b17] hP hD hS dX8_init_77
