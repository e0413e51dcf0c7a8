/-! ===== what holds at the law's entry ===== -/
theorem nest_in : ∀ w ∈ nestL.map (fun q => Cond.methodLinkNest q.1 q.2.1 q.2.2.1 q.2.2.2), w ∈ lw_tbl := in_pos _ [91, 111, 170, 173, 193, 198, 200, 213, 229, 234, 237, 263, 337, 476, 516, 548, 780, 943, 987] (by decide +kernel)
theorem arr_start {s : State} {args : Array Value} (ty : FieldType) (h : (Cond.arrayClass ty).before args s = true) : ∃ cA, ArrOfT s cA ty ∧ s.vm.findClass ("[" ++ ty.toString) = some cA := by
  obtain ⟨cA, kA, comp, h1, h2, h3⟩ := Cond.arrayClass_spec h
  exact ⟨cA, fun n z => ⟨fun k h => (by cases h), kA, h2, comp, h3⟩, h1⟩
theorem cls_start {s : State} {b : Nat} (hts0 : ∀ w ∈ lw_tbl, w.before #[Value.ref b] s = true) : ∃ D : va_G, ∀ (c : Nat) (q : vw_C), vwCl[c]? = some q → u_Kn s q.1 q.2.1 q.2.2 (D.1 c) (D.2 c) := by
  obtain ⟨c0, i0, k0⟩ := u_known (C := RX0) (T := TX0) (N := 3) (n := 3) hts0 wsL_inc_X0 (hts0 (.instantiable RX0 3) (List.mem_of_getElem? (i := 192) (by decide +kernel)))
  obtain ⟨c1, i1, k1⟩ := u_known (C := RX1) (T := TX1) (N := 2) (n := 2) hts0 wsL_inc_X1 (hts0 (.instantiable RX1 2) (List.mem_of_getElem? (i := 236) (by decide +kernel)))
  obtain ⟨c2, i2, k2⟩ := u_known (C := RX2) (T := TX2) (N := 3) (n := 3) hts0 wsL_inc_X2 (hts0 (.instantiable RX2 3) (List.mem_of_getElem? (i := 262) (by decide +kernel)))
  obtain ⟨c3, i3, k3⟩ := u_known (C := RX3) (T := TX3) (N := 4) (n := 4) hts0 wsL_inc_X3 (hts0 (.instantiable RX3 4) (List.mem_of_getElem? (i := 228) (by decide +kernel)))
  obtain ⟨c4, i4, k4⟩ := u_known (C := RX4) (T := TX4) (N := 3) (n := 3) hts0 wsL_inc_X4 (hts0 (.instantiable RX4 3) (List.mem_of_getElem? (i := 212) (by decide +kernel)))
  obtain ⟨c5, i5, k5⟩ := u_known (C := RX5) (T := TX5) (N := 4) (n := 4) hts0 wsL_inc_X5 (hts0 (.instantiable RX5 4) (List.mem_of_getElem? (i := 110) (by decide +kernel)))
  obtain ⟨c6, i6, k6⟩ := u_known (C := RX6) (T := TX6) (N := 4) (n := 4) hts0 wsL_inc_X6 (hts0 (.instantiable RX6 4) (List.mem_of_getElem? (i := 172) (by decide +kernel)))
  obtain ⟨c7, i7, k7⟩ := u_known (C := RX7) (T := TX7) (N := 2) (n := 2) hts0 wsL_inc_X7 (hts0 (.instantiable RX7 2) (List.mem_of_getElem? (i := 90) (by decide +kernel)))
  obtain ⟨c8, i8, k8⟩ := u_known (C := RX8) (T := TX8) (N := 13) (n := 13) hts0 wsL_inc_X8 (hts0 (.instantiable RX8 13) (List.mem_of_getElem? (i := 104) (by decide +kernel)))
  obtain ⟨c9, i9, k9⟩ := u_known (C := RX9) (T := TX9) (N := 10) (n := 10) hts0 wsL_inc_X9 (hts0 (.instantiable RX9 10) (List.mem_of_getElem? (i := 82) (by decide +kernel)))
  obtain ⟨c10, i10, k10⟩ := u_known (C := RX10) (T := TX10) (N := 30) (n := 30) hts0 wsL_inc_X10 (hts0 (.instantiable RX10 30) (List.mem_of_getElem? (i := 1059) (by decide +kernel)))
  refine ⟨(fun k => match k with | 0 => c0 | 1 => c1 | 2 => c2 | 3 => c3 | 4 => c4 | 5 => c5 | 6 => c6 | 7 => c7 | 8 => c8 | 9 => c9 | _ => c10, fun k => match k with | 0 => i0 | 1 => i1 | 2 => i2 | 3 => i3 | 4 => i4 | 5 => i5 | 6 => i6 | 7 => i7 | 8 => i8 | 9 => i9 | _ => i10), ?_⟩
  intro c q hq
  match c, hq with
  | 0, hq => cases hq; exact k0
  | 1, hq => cases hq; exact k1
  | 2, hq => cases hq; exact k2
  | 3, hq => cases hq; exact k3
  | 4, hq => cases hq; exact k4
  | 5, hq => cases hq; exact k5
  | 6, hq => cases hq; exact k6
  | 7, hq => cases hq; exact k7
  | 8, hq => cases hq; exact k8
  | 9, hq => cases hq; exact k9
  | 10, hq => cases hq; exact k10
  | c + 11, hq => simp [vwCl] at hq
theorem sf_start {s : State} {b : Nat} (hts0 : ∀ w ∈ lw_tbl, w.before #[Value.ref b] s = true) (hgv : (Jvm.Cond.and given_1 narrow_1).before #[Value.ref b] s = true) : ∃ sa : Nat → Nat, SF sa (fun q : Nat => s.heap.size ≤ q) s s.heap := by
  have hs := flat_of_before _ hgv
  have hA : ∀ a : Nat, a < s.heap.size → ¬ (fun q : Nat => s.heap.size ≤ q) a := fun a h => Nat.not_le.mpr h
  have el0 : ∀ j : Nat, j < 6 → Cond.eq (.elem (Term.static "HatHours$Shop" "LEAST" "[I") (.int (Int32.ofNat j))) (.int (zI (tLEAST j))) ∈ flatC (Jvm.Cond.and given_1 narrow_1) := by decide +kernel
  obtain ⟨t0, e0, T0⟩ := va_Tof (tm := (Term.static "HatHours$Shop" "LEAST" "[I")) (ty := .int) (N := 6) (f := fun k => .int (zI (tLEAST k))) (A := fun q : Nat => s.heap.size ≤ q) (by decide) (hs (.arrayOf (Term.static "HatHours$Shop" "LEAST" "[I") .int) (by decide +kernel)) (va_eqt (hs (.eq (.length (Term.static "HatHours$Shop" "LEAST" "[I")) (.int (Int32.ofNat 6))) (by decide +kernel))) (fun j hj => va_eqt (hs _ (el0 j hj))) hA
  have Z0 := va_Zof (A := fun q : Nat => s.heap.size ≤ q) (hts0 (.laysStatic "HatHours$Shop" "LEAST" "[I") (List.mem_of_getElem? (i := 518) (by decide +kernel))) (hts0 (.initialized "HatHours$Shop") (List.mem_of_getElem? (i := 66) (by decide +kernel))) e0 hA
  have el1 : ∀ j : Nat, j < 6 → Cond.eq (.elem (Term.static "HatHours$Shop" "MOST" "[I") (.int (Int32.ofNat j))) (.int (zI (tMOST j))) ∈ flatC (Jvm.Cond.and given_1 narrow_1) := by decide +kernel
  obtain ⟨t1, e1, T1⟩ := va_Tof (tm := (Term.static "HatHours$Shop" "MOST" "[I")) (ty := .int) (N := 6) (f := fun k => .int (zI (tMOST k))) (A := fun q : Nat => s.heap.size ≤ q) (by decide) (hs (.arrayOf (Term.static "HatHours$Shop" "MOST" "[I") .int) (by decide +kernel)) (va_eqt (hs (.eq (.length (Term.static "HatHours$Shop" "MOST" "[I")) (.int (Int32.ofNat 6))) (by decide +kernel))) (fun j hj => va_eqt (hs _ (el1 j hj))) hA
  have Z1 := va_Zof (A := fun q : Nat => s.heap.size ≤ q) (hts0 (.laysStatic "HatHours$Shop" "MOST" "[I") (List.mem_of_getElem? (i := 523) (by decide +kernel))) (hts0 (.initialized "HatHours$Shop") (List.mem_of_getElem? (i := 66) (by decide +kernel))) e1 hA
  have el2 : ∀ j : Nat, j < 4 → Cond.eq (.elem (Term.static "HatHours$Shop" "LASTS" "[I") (.int (Int32.ofNat j))) (.int (zI (tLASTS j))) ∈ flatC (Jvm.Cond.and given_1 narrow_1) := by decide +kernel
  obtain ⟨t2, e2, T2⟩ := va_Tof (tm := (Term.static "HatHours$Shop" "LASTS" "[I")) (ty := .int) (N := 4) (f := fun k => .int (zI (tLASTS k))) (A := fun q : Nat => s.heap.size ≤ q) (by decide) (hs (.arrayOf (Term.static "HatHours$Shop" "LASTS" "[I") .int) (by decide +kernel)) (va_eqt (hs (.eq (.length (Term.static "HatHours$Shop" "LASTS" "[I")) (.int (Int32.ofNat 4))) (by decide +kernel))) (fun j hj => va_eqt (hs _ (el2 j hj))) hA
  have Z2 := va_Zof (A := fun q : Nat => s.heap.size ≤ q) (hts0 (.laysStatic "HatHours$Shop" "LASTS" "[I") (List.mem_of_getElem? (i := 607) (by decide +kernel))) (hts0 (.initialized "HatHours$Shop") (List.mem_of_getElem? (i := 66) (by decide +kernel))) e2 hA
  have x1 : ∀ i : Nat, i < 6 → Cond.exactly (.string "HatHours$TextReader" (strL.getD i (0, "")).1) "java/lang/String" ∈ flatC (Jvm.Cond.and given_1 narrow_1) := by decide +kernel
  have x2 : ∀ i : Nat, i < 6 → Cond.eq (.field (.string "HatHours$TextReader" (strL.getD i (0, "")).1) "java/lang/String" "coder" "B") (.int 0) ∈ flatC (Jvm.Cond.and given_1 narrow_1) := by decide +kernel
  have x3 : ∀ i : Nat, i < 6 → Cond.arrayOf (.field (.string "HatHours$TextReader" (strL.getD i (0, "")).1) "java/lang/String" "value" "[B") .byte ∈ flatC (Jvm.Cond.and given_1 narrow_1) := by decide +kernel
  have x4 : ∀ i : Nat, i < 6 → Cond.eq (.length (.field (.string "HatHours$TextReader" (strL.getD i (0, "")).1) "java/lang/String" "value" "[B")) (.int (Int32.ofNat (strLen.getD i 0))) ∈ flatC (Jvm.Cond.and given_1 narrow_1) := by decide +kernel
  have x5 : ∀ i : Nat, i < 6 → ∀ j : Nat, j < strLen.getD i 0 → Cond.eq (.elem (.field (.string "HatHours$TextReader" (strL.getD i (0, "")).1) "java/lang/String" "value" "[B") (.int (Int32.ofNat j))) (.int ((strByt.getD i []).getD j 0)) ∈ flatC (Jvm.Cond.and given_1 narrow_1) := by decide +kernel
  have x6 : ∀ i : Nat, i < 6 → ∀ j : Nat, j < 6 → i ≠ j → Cond.not (.eq (.string "HatHours$TextReader" (strL.getD i (0, "")).1) (.string "HatHours$TextReader" (strL.getD j (0, "")).1)) ∈ flatC (Jvm.Cond.and given_1 narrow_1) ∨ Cond.not (.eq (.string "HatHours$TextReader" (strL.getD j (0, "")).1) (.string "HatHours$TextReader" (strL.getD i (0, "")).1)) ∈ flatC (Jvm.Cond.and given_1 narrow_1) := by decide +kernel
  have x7 : ∀ i : Nat, i < 6 → strLen.getD i 0 < 2 ^ 31 := by decide +kernel
  obtain ⟨adK, adV, hV, hW⟩ := vk_Sof (N := 6) (tm := fun i => .string "HatHours$TextReader" (strL.getD i (0, "")).1) (len := strLen) (byt := strByt) (A := fun q : Nat => s.heap.size ≤ q) x7 (fun i hi => hs _ (x1 i hi)) (fun i hi => hs _ (x2 i hi)) (fun i hi => hs _ (x3 i hi)) (fun i hi => hs _ (x4 i hi)) (fun i hi j hj => hs _ (x5 i hi j hj)) (fun i j hi hj hij => (x6 i hi j hj hij).elim (fun h => Or.inl (hs _ h)) (fun h => Or.inr (hs _ h))) hA
  have y1 : ∀ w ∈ strL.map (fun q => Cond.stringRef "HatHours$TextReader" q.1 q.2), w ∈ lw_tbl := in_pos _ [410, 463, 464, 465, 466, 467] (by decide +kernel)
  have y2 : ∀ i : Nat, i < 6 → Cond.stringRef "HatHours$TextReader" (strL.getD i (0, "")).1 (strL.getD i (0, "")).2 ∈ strL.map (fun q => Cond.stringRef "HatHours$TextReader" q.1 q.2) := by decide +kernel
  have z1 := va_Zof (A := fun q : Nat => s.heap.size ≤ q) (hts0 (.laysStatic "java/lang/String" "COMPACT_STRINGS" "Z") (List.mem_of_getElem? (i := 424) (by decide +kernel))) (hts0 (.initialized "java/lang/String") (List.mem_of_getElem? (i := 74) (by decide +kernel))) (va_eqi (hs (.eq (.static "java/lang/String" "COMPACT_STRINGS" "Z") (.int 1)) (by decide +kernel))) hA
  have z2 := va_Zqof (A := fun q : Nat => s.heap.size ≤ q) (hts0 (.laysStatic "jdk/internal/util/Preconditions" "SIOOBE_FORMATTER" "Ljava/util/function/BiFunction;") (List.mem_of_getElem? (i := 440) (by decide +kernel))) (hts0 (.initialized "jdk/internal/util/Preconditions") (List.mem_of_getElem? (i := 76) (by decide +kernel))) (hs (.isRef (.static "jdk/internal/util/Preconditions" "SIOOBE_FORMATTER" "Ljava/util/function/BiFunction;")) (by decide +kernel)) hA
  have ek : ∀ i, i < 6 → (fun k => if k = 0 then t0 else if k = 1 then t1 else if k = 2 then t2 else if k < 20 then adK (k - 10) else adV (k - 20)) (10 + i) = adK i := fun i hi => by
    show (if 10 + i = 0 then t0 else if 10 + i = 1 then t1 else if 10 + i = 2 then t2 else if 10 + i < 20 then adK (10 + i - 10) else adV (10 + i - 20)) = adK i
    rw [if_neg (by omega), if_neg (by omega), if_neg (by omega), if_pos (by omega), Nat.add_sub_cancel_left]
  have ev : ∀ i, i < 6 → (fun k => if k = 0 then t0 else if k = 1 then t1 else if k = 2 then t2 else if k < 20 then adK (k - 10) else adV (k - 20)) (20 + i) = adV i := fun i hi => by
    show (if 20 + i = 0 then t0 else if 20 + i = 1 then t1 else if 20 + i = 2 then t2 else if 20 + i < 20 then adK (20 + i - 10) else adV (20 + i - 20)) = adV i
    rw [if_neg (by omega), if_neg (by omega), if_neg (by omega), if_neg (by omega), Nat.add_sub_cancel_left]
  generalize hsa : (fun k => if k = 0 then t0 else if k = 1 then t1 else if k = 2 then t2 else if k < 20 then adK (k - 10) else adV (k - 20)) = sa at ek ev
  have s0 : sa 0 = t0 := by rw [← hsa]; rfl
  have s1 : sa 1 = t1 := by rw [← hsa]; rfl
  have s2 : sa 2 = t2 := by rw [← hsa]; rfl
  refine ⟨sa, fun q hq => va_Nw.of rfl (hts0 _ (nest_in _ (List.mem_map.mpr ⟨q, hq, rfl⟩))), ⟨by rw [s0]; exact Z0, by rw [s0]; exact T0⟩, ⟨by rw [s1]; exact Z1, by rw [s1]; exact T1⟩, ⟨by rw [s2]; exact Z2, by rw [s2]; exact T2⟩, fun i hi => ?_, ⟨fun i hi => ?_, fun i j hi hj e => ?_⟩, z1, z2⟩
  · rw [ek i hi]
    exact vk_R.of (hts0 _ (y1 _ (y2 i hi))) (hW i hi)
  · show va_O "java/lang/String" (sa (10 + i)) _ s s.heap ∧ va_OF "java/lang/String" "coder" "B" (.int 0) (sa (10 + i)) _ s s.heap ∧ va_OF "java/lang/String" "value" "[B" (.ref (sa (20 + i))) (sa (10 + i)) _ s s.heap ∧ va_T .byte (sa (20 + i)) _ _ _ s s.heap
    rw [ek i hi, ev i hi]
    exact hV.1 i hi
  · have e : sa (10 + i) = sa (10 + j) := e
    rw [ek i hi, ek j hj] at e
    exact hV.2 i j hi hj e
theorem ev_start {s : State} {b : Nat} (hts0 : ∀ w ∈ lw_tbl, w.before #[Value.ref b] s = true) (hgv : (Jvm.Cond.and given_1 narrow_1).before #[Value.ref b] s = true) : ∃ (D : va_G) (cy : Nat → ClassId) (sa : Nat → Nat), Ev D cy sa (fun q : Nat => s.heap.size ≤ q) s ∧ va_AO "HatHours$Image" s := by
  obtain ⟨D, hD⟩ := cls_start hts0
  obtain ⟨sa, hF⟩ := sf_start hts0 hgv
  obtain ⟨c0, a0, n0⟩ := arr_start .int (hts0 (.arrayClass .int) (List.mem_of_getElem? (i := 128) (by decide +kernel)))
  obtain ⟨c1, a1, n1⟩ := arr_start .byte (hts0 (.arrayClass .byte) (List.mem_of_getElem? (i := 102) (by decide +kernel)))
  obtain ⟨c2, a2, n2⟩ := arr_start .long (hts0 (.arrayClass .long) (List.mem_of_getElem? (i := 277) (by decide +kernel)))
  obtain ⟨c3, a3, n3⟩ := arr_start .boolean (hts0 (.arrayClass .boolean) (List.mem_of_getElem? (i := 1163) (by decide +kernel)))
  have hov := hts0 (.arrayOver (.object "HatHours$Image")) (List.mem_of_getElem? (i := 191) (by decide +kernel))
  obtain ⟨comp, c4, kA, f1, _, f2, f3, f4⟩ := Cond.arrayOver_spec hov
  refine ⟨D, fun k => match k with | 0 => c0 | 1 => c1 | 2 => c2 | 3 => c3 | _ => c4, sa, ⟨⟨hD, ?_⟩, hF, fun q h => h⟩, va_AO.of hov⟩
  intro k q hq
  match k, hq with
  | 0, hq => cases hq; exact ⟨a0, n0⟩
  | 1, hq => cases hq; exact ⟨a1, n1⟩
  | 2, hq => cases hq; exact ⟨a2, n2⟩
  | 3, hq => cases hq; exact ⟨a3, n3⟩
  | 4, hq => cases hq; exact ⟨fun N z => ⟨(fun k h => by cases h), kA, f2, comp, f3⟩, kA, comp, f2, f3, f1, f4⟩
  | k + 5, hq => simp [TY] at hq
