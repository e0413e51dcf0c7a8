/-! the JDK's floorMod and bitCount, by hand -/
def f_floorMod (a b : Int) : Option Int := chk (inR a) (chk (0 < b ∧ b < 2147483648) (some (a % b)))
theorem zI_tdiv {a b : Int} (ha : inR a) (hb : inR b) : zI a / zI b = zI (a.tdiv b) := by
  apply Int32.toInt_inj.mp
  rw [Int32.toInt_div, zI_toInt ha, zI_toInt hb]
  exact (Int32.toInt_ofInt).symm
theorem zI_tmod {a b : Int} (ha : inR a) (hb : inR b) : zI a - zI a / zI b * zI b = zI (a.tmod b) := by
  rw [zI_tdiv ha hb, Int.tmod_def, Int.mul_comm b]
  exact ((Int32.ofInt_sub _ _).trans (by rw [Int32.ofInt_mul]; rfl)).symm
theorem zI_xor_sign {a b : Int} (ha : inR a) (hb : inR b) (hb0 : 0 < b) : 0 ≤ zI a ^^^ zI b ↔ 0 ≤ a := by
  have e : (zI a ^^^ zI b).toBitVec.msb = (decide (a < 0) ^^ decide (b < 0)) := by
    rw [Int32.toBitVec_xor, BitVec.msb_xor, BitVec.msb_eq_toInt, BitVec.msb_eq_toInt]
    rw [show (zI a).toBitVec.toInt = a from zI_toInt ha, show (zI b).toBitVec.toInt = b from zI_toInt hb]
  rw [Int32.le_iff_toInt_le]
  have e2 : (zI a ^^^ zI b).toBitVec.msb = decide ((zI a ^^^ zI b).toInt < 0) := BitVec.msb_eq_toInt
  have e3 : (0 : Int32).toInt = 0 := rfl
  rw [e] at e2
  have hb1 : decide (b < 0) = false := decide_eq_false (by omega)
  rw [hb1, Bool.xor_false] at e2
  have e4 := decide_eq_decide.mp e2
  omega
set_option maxHeartbeats 4000000 in
set_option maxRecDepth 100000 in
theorem c_J9_floorMod_7cf53 (l : Launch) (D : va_G) (cy : Nat → ClassId) (sa : Nat → Nat) (x0 x1 o : Int) (h : f_floorMod x0 x1 = some o) : CtI l yJ9_floorMod_7cf53 wsJ9_floorMod_7cf53 ({ frames := 0, cells := 0, slots := 0, locals := 0 }) D cy sa [.int (zI x0), .int (zI x1)] [] [] o := by
  refine ct_I (cc := cJ9_floorMod_7cf53) (maxL := 3) (by decide +kernel) rfl (Nat.le_of_ble_eq_true rfl) ?_
  intro p e s m below meth c A args QQ hx hb hml hown hts hE hDD hP KR ls hl
  have hl : lv_has ls 3 [(0, .int (zI x0)), (1, .int (zI x1))] := hl
  have hS : va_S A s.heap s.heap [] := va_S.rf
  obtain ⟨ha, h⟩ := chk_some h
  obtain ⟨hc, h⟩ := chk_some h
  have hc1 : inR x1 := by constructor <;> omega
  obtain rfl := Option.some.inj h
  refine lv_iload_n hx hb dJ9_floorMod_7cf53_0 rfl (lv_at hl 0 rfl) ?_
  refine lv_iload_n hx hb dJ9_floorMod_7cf53_1 rfl (lv_at hl 1 rfl) ?_
  refine lv_irem hx hb dJ9_floorMod_7cf53_2 (fun q => by have := (zI_eq hc1 inR_0).mp q; omega) ?_
  rw [zI_tmod ha hc1]
  have hb1 := Int.tmod_lt_of_pos x0 hc.1
  have hb2 := Int.lt_tmod_of_pos x0 hc.1
  have ht : inR (x0.tmod x1) := by constructor <;> omega
  refine lv_istore_n (lv' := [(2, .int (zI (x0.tmod x1))), (0, .int (zI x0)), (1, .int (zI x1))]) hx hb dJ9_floorMod_7cf53_3 rfl hl (by decide) rfl (fun ls hl => ?_)
  refine lv_iload_n hx hb dJ9_floorMod_7cf53_4 rfl (lv_at hl 1 rfl) ?_
  refine lv_iload_n hx hb dJ9_floorMod_7cf53_5 rfl (lv_at hl 2 rfl) ?_
  refine lv_ixor hx hb dJ9_floorMod_7cf53_6 ?_
  refine lv_if_ge (tgt := 18) hx hb dJ9_floorMod_7cf53_7 (by decide) (fun q => ?_) (fun q => ?_)
  · have q := (zI_xor_sign ha hc1 hc.1).mp q
    refine lv_iload_n hx hb dJ9_floorMod_7cf53_18 rfl (lv_at hl 0 rfl) ?_
    rw [Int.tmod_eq_emod_of_nonneg q]
    exact KR _ _ _ _ hP hS dJ9_floorMod_7cf53_19
  · have q : ¬ 0 ≤ x0 := fun r => q ((zI_xor_sign ha hc1 hc.1).mpr r)
    refine lv_iload_n hx hb dJ9_floorMod_7cf53_10 rfl (lv_at hl 0 rfl) ?_
    refine wi_if_eq (tgt := 18) hx hb dJ9_floorMod_7cf53_11 (by decide) ht (fun c0 => ?_) (fun c0 => ?_)
    · refine lv_iload_n hx hb dJ9_floorMod_7cf53_18 rfl (lv_at hl 0 rfl) ?_
      have e0 : x0 % x1 = x0.tmod x1 := by
        have := Int.emod_eq_zero_of_dvd (Int.dvd_of_tmod_eq_zero c0)
        omega
      rw [← e0]
      exact KR _ _ _ _ hP hS dJ9_floorMod_7cf53_19
    · refine lv_iload_n hx hb dJ9_floorMod_7cf53_14 rfl (lv_at hl 0 rfl) ?_
      refine lv_iload_n hx hb dJ9_floorMod_7cf53_15 rfl (lv_at hl 2 rfl) ?_
      refine wi_iadd hx hb dJ9_floorMod_7cf53_16 ?_
      have e1 : x0 % x1 = x0.tmod x1 + x1 := by
        have h1 := Int.emod_emod_of_dvd x0 (Int.dvd_refl x1)
        have h2 : (x0.tmod x1 + x1) % x1 = x0 % x1 := by
          rw [Int.add_emod_right, Int.tmod_def, Int.sub_mul_emod_self_left]
        have h3 : x0.tmod x1 ≤ 0 := by
          have := Int.tmod_nonneg x1 (show 0 ≤ -x0 by omega)
          rw [Int.neg_tmod] at this
          omega
        rw [← h2, Int.emod_eq_of_lt (by omega) (by omega)]
      rw [← e1]
      exact KR _ _ _ _ hP hS dJ9_floorMod_7cf53_17
def bsh (x k : Int32) : Int32 := (x.toUInt32 >>> (k.toUInt32 &&& Int32.toUInt32 31)).toInt32
def bitc1 (x : Int32) : Int32 := x - (bsh x 1 &&& 1431655765)
def bitc2 (x : Int32) : Int32 := (x &&& 858993459) + (bsh x 2 &&& 858993459)
def bitc3 (x : Int32) : Int32 := (x + bsh x 4) &&& 252645135
def bitc4 (x : Int32) : Int32 := x + bsh x 8
def bitc5 (x : Int32) : Int32 := x + bsh x 16
def bitc (x : Int32) : Int32 := bitc5 (bitc4 (bitc3 (bitc2 (bitc1 x)))) &&& 63
def bitcZ (x : Int) : Int := (bitc (zI x)).toInt
def f_bitCount (x : Int) : Option Int := some (bitcZ x)
set_option maxHeartbeats 4000000 in
set_option maxRecDepth 100000 in
theorem c_J6_bitCount_0f7a4 (l : Launch) (D : va_G) (cy : Nat → ClassId) (sa : Nat → Nat) (x0 o : Int) (h : f_bitCount x0 = some o) : CtI l yJ6_bitCount_0f7a4 wsJ6_bitCount_0f7a4 ({ frames := 0, cells := 0, slots := 0, locals := 0 }) D cy sa [.int (zI x0)] [] [] o := by
  refine ct_I (cc := cJ6_bitCount_0f7a4) (maxL := 1) (by decide +kernel) rfl (Nat.le_of_ble_eq_true rfl) ?_
  intro p e s m below meth c A args QQ hx hb hml hown hts hE hDD hP KR ls hl
  have hl : lv_has ls 1 [(0, .int (zI x0))] := hl
  have hS : va_S A s.heap s.heap [] := va_S.rf
  obtain rfl := Option.some.inj h
  have q0 := hts (.constant RJ6 265 (1431655765)) (List.mem_of_getElem? (i := 1) rfl)
  have q1 := hts (.constant RJ6 266 (858993459)) (List.mem_of_getElem? (i := 2) rfl)
  have q2 := hts (.constant RJ6 267 (252645135)) (List.mem_of_getElem? (i := 3) rfl)
  refine lv_iload_n hx hb dJ6_bitCount_0f7a4_0 rfl (lv_at hl 0 rfl) ?_
  refine lv_iload_n hx hb dJ6_bitCount_0f7a4_1 rfl (lv_at hl 0 rfl) ?_
  refine lv_iconst (v := 1) hx hb dJ6_bitCount_0f7a4_2 (by decide) ?_
  refine lv_iushr (v := bsh (zI x0) 1) hx hb dJ6_bitCount_0f7a4_3 rfl ?_
  refine lv_ldcw hx hb hown q0 dJ6_bitCount_0f7a4_4 ?_
  refine lv_iand hx hb dJ6_bitCount_0f7a4_7 ?_
  refine lv_isub hx hb dJ6_bitCount_0f7a4_8 ?_
  refine lv_istore_n (lv' := [(0, .int (bitc1 (zI x0)))]) hx hb dJ6_bitCount_0f7a4_9 rfl hl (by decide) rfl (fun ls hl => ?_)
  refine lv_iload_n hx hb dJ6_bitCount_0f7a4_10 rfl (lv_at hl 0 rfl) ?_
  refine lv_ldcw hx hb hown q1 dJ6_bitCount_0f7a4_11 ?_
  refine lv_iand hx hb dJ6_bitCount_0f7a4_14 ?_
  refine lv_iload_n hx hb dJ6_bitCount_0f7a4_15 rfl (lv_at hl 0 rfl) ?_
  refine lv_iconst (v := 2) hx hb dJ6_bitCount_0f7a4_16 (by decide) ?_
  refine lv_iushr (v := bsh (bitc1 (zI x0)) 2) hx hb dJ6_bitCount_0f7a4_17 rfl ?_
  refine lv_ldcw hx hb hown q1 dJ6_bitCount_0f7a4_18 ?_
  refine lv_iand hx hb dJ6_bitCount_0f7a4_21 ?_
  refine lv_iadd hx hb dJ6_bitCount_0f7a4_22 ?_
  refine lv_istore_n (lv' := [(0, .int (bitc2 (bitc1 (zI x0))))]) hx hb dJ6_bitCount_0f7a4_23 rfl hl (by decide) rfl (fun ls hl => ?_)
  refine lv_iload_n hx hb dJ6_bitCount_0f7a4_24 rfl (lv_at hl 0 rfl) ?_
  refine lv_iload_n hx hb dJ6_bitCount_0f7a4_25 rfl (lv_at hl 0 rfl) ?_
  refine lv_iconst (v := 4) hx hb dJ6_bitCount_0f7a4_26 (by decide) ?_
  refine lv_iushr (v := bsh (bitc2 (bitc1 (zI x0))) 4) hx hb dJ6_bitCount_0f7a4_27 rfl ?_
  refine lv_iadd hx hb dJ6_bitCount_0f7a4_28 ?_
  refine lv_ldcw hx hb hown q2 dJ6_bitCount_0f7a4_29 ?_
  refine lv_iand hx hb dJ6_bitCount_0f7a4_32 ?_
  refine lv_istore_n (lv' := [(0, .int (bitc3 (bitc2 (bitc1 (zI x0)))))]) hx hb dJ6_bitCount_0f7a4_33 rfl hl (by decide) rfl (fun ls hl => ?_)
  refine lv_iload_n hx hb dJ6_bitCount_0f7a4_34 rfl (lv_at hl 0 rfl) ?_
  refine lv_iload_n hx hb dJ6_bitCount_0f7a4_35 rfl (lv_at hl 0 rfl) ?_
  refine lv_bipush (v := 8) hx hb dJ6_bitCount_0f7a4_36 (by decide) ?_
  refine lv_iushr (v := bsh (bitc3 (bitc2 (bitc1 (zI x0)))) 8) hx hb dJ6_bitCount_0f7a4_38 rfl ?_
  refine lv_iadd hx hb dJ6_bitCount_0f7a4_39 ?_
  refine lv_istore_n (lv' := [(0, .int (bitc4 (bitc3 (bitc2 (bitc1 (zI x0))))))]) hx hb dJ6_bitCount_0f7a4_40 rfl hl (by decide) rfl (fun ls hl => ?_)
  refine lv_iload_n hx hb dJ6_bitCount_0f7a4_41 rfl (lv_at hl 0 rfl) ?_
  refine lv_iload_n hx hb dJ6_bitCount_0f7a4_42 rfl (lv_at hl 0 rfl) ?_
  refine lv_bipush (v := 16) hx hb dJ6_bitCount_0f7a4_43 (by decide) ?_
  refine lv_iushr (v := bsh (bitc4 (bitc3 (bitc2 (bitc1 (zI x0))))) 16) hx hb dJ6_bitCount_0f7a4_45 rfl ?_
  refine lv_iadd hx hb dJ6_bitCount_0f7a4_46 ?_
  refine lv_istore_n (lv' := [(0, .int (bitc5 (bitc4 (bitc3 (bitc2 (bitc1 (zI x0)))))))]) hx hb dJ6_bitCount_0f7a4_47 rfl hl (by decide) rfl (fun ls hl => ?_)
  refine lv_iload_n hx hb dJ6_bitCount_0f7a4_48 rfl (lv_at hl 0 rfl) ?_
  refine lv_bipush (v := 63) hx hb dJ6_bitCount_0f7a4_49 (by decide) ?_
  refine lv_iand hx hb dJ6_bitCount_0f7a4_51 ?_
  have e9 : bitc5 (bitc4 (bitc3 (bitc2 (bitc1 (zI x0))))) &&& 63 = zI (bitcZ x0) := (zI_of _).symm
  rw [e9]
  exact KR _ _ _ _ hP hS dJ6_bitCount_0f7a4_52
/-- a difference that may go round -/
def zwr (z : Int) : Int := (zI z).toInt
theorem zI_zwr (z : Int) : zI (zwr z) = zI z := zI_of _
theorem wi_isubW {p : Program} {l : Launch} {e : Env} {R : Room} {s : State} {m : MethodId} {args : Array Value} {below : List Frame} {meth : Method} {c : Code} {H : Heap} {locs : List Loc} {cells slots : Nat} {Q : State → Prop} {cc : ByteArray} {pc : Nat} {ls : Array Slot} {rest : List Value} (hx : p.tables.exec = Jvm.exec) (hb : c.code = cc) {a b : Int} (d : decode cc pc = .ok (.isub, 1)) (k : W p l e R s m args below meth c H locs cells slots Q (F0 m (pc + 1) ls (.int (zI (zwr (a - b))) :: rest))) : W p l e R s m args below meth c H locs cells slots Q (F0 m pc ls (.int (zI b) :: .int (zI a) :: rest)) := wi_isub hx hb d (by rw [zI_zwr] at k; exact k)
