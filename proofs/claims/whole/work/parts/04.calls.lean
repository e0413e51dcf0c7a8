/-! the words of private members of nest mates, each by its place -/
def nestL : List (String × Nat × MethodName × String) := [("HatHours", 9, ⟨"HatHours$Tape", "<init>", "()V"⟩, "HatHours"), ("HatHours$TextReader", 11, ⟨"HatHours$Shop", "<init>", "()V"⟩, "HatHours"), ("HatHours", 27, ⟨"HatHours$Shop", "<init>", "()V"⟩, "HatHours"), ("HatHours", 34, ⟨"HatHours$Sightings", "<init>", "()V"⟩, "HatHours"), ("HatHours", 41, ⟨"HatHours$Image", "<init>", "()V"⟩, "HatHours"), ("HatHours$Image", 9, ⟨"HatHours$Shop", "<init>", "()V"⟩, "HatHours"), ("HatHours$Image", 18, ⟨"HatHours$Sightings", "<init>", "()V"⟩, "HatHours"), ("HatHours", 48, ⟨"HatHours$Sheets", "<init>", "()V"⟩, "HatHours"), ("HatHours", 55, ⟨"HatHours$Search", "<init>", "()V"⟩, "HatHours"), ("HatHours$Search", 11, ⟨"HatHours$Shop", "<init>", "()V"⟩, "HatHours"), ("HatHours$Search", 20, ⟨"HatHours$Least", "<init>", "()V"⟩, "HatHours"), ("HatHours", 62, ⟨"HatHours$Odds", "<init>", "()V"⟩, "HatHours"), ("HatHours$Tape", 23, ⟨"HatHours", "within", "(III)Z"⟩, "HatHours"), ("HatHours$TextReader", 163, ⟨"HatHours", "within", "(III)Z"⟩, "HatHours"), ("HatHours$Shop", 31, ⟨"HatHours", "within", "(III)Z"⟩, "HatHours"), ("HatHours$Sightings", 27, ⟨"HatHours", "within", "(III)Z"⟩, "HatHours"), ("HatHours$Search", 72, ⟨"HatHours", "within", "(III)Z"⟩, "HatHours"), ("HatHours$Search", 130, ⟨"HatHours", "isHour", "(I)Z"⟩, "HatHours"), ("HatHours$Sheets", 21, ⟨"HatHours", "within", "(III)Z"⟩, "HatHours")]
def strL : List (Nat × String) := [(97, "bonnet"), (103, "veil"), (105, "toque"), (107, "bridal"), (109, "order"), (111, "start")]
def strLen : List Nat := [6, 4, 5, 6, 5, 5]
def strByt : List (List Int32) := [[98, 111, 110, 110, 101, 116], [118, 101, 105, 108], [116, 111, 113, 117, 101], [98, 114, 105, 100, 97, 108], [111, 114, 100, 101, 114], [115, 116, 97, 114, 116]]
def tLEAST : Nat → Int := fun k => match k with | 0 => 0 | 1 => 1 | 2 => 0 | 3 => 1 | _ => 0
def tMOST : Nat → Int := fun k => match k with | 0 => 3 | 1 => 12 | 2 => 23 | 3 => 9 | 4 => 23 | _ => 4
def tLASTS : Nat → Int := fun k => match k with | 0 => 4 | 1 => 2 | 2 => 3 | _ => 8
/-- what stands still: nest links; the three static rows; the six texts -/
def SF (sa : Nat → Nat) (A : Nat → Prop) (U : State) (H : Heap) : Prop :=
  (∀ q ∈ nestL, va_Nw (.methodLinkNest q.1 q.2.1 q.2.2.1 q.2.2.2) U) ∧
  (va_Z "HatHours$Shop" "LEAST" "[I" (.ref (sa 0)) A U H ∧ va_T .int (sa 0) 6 (fun k => .int (zI (tLEAST k))) A U H) ∧
  (va_Z "HatHours$Shop" "MOST" "[I" (.ref (sa 1)) A U H ∧ va_T .int (sa 1) 6 (fun k => .int (zI (tMOST k))) A U H) ∧
  (va_Z "HatHours$Shop" "LASTS" "[I" (.ref (sa 2)) A U H ∧ va_T .int (sa 2) 4 (fun k => .int (zI (tLASTS k))) A U H) ∧
  (∀ i : Nat, i < 6 → vk_R "HatHours$TextReader" (strL.getD i (0, "")).1 (strL.getD i (0, "")).2 (sa (10 + i)) U) ∧
  vk_S 6 strLen strByt (fun i => sa (10 + i)) (fun i => sa (20 + i)) A U H ∧
  va_Z "java/lang/String" "COMPACT_STRINGS" "Z" (.int 1) A U H ∧ va_Zq "jdk/internal/util/Preconditions" "SIOOBE_FORMATTER" "Ljava/util/function/BiFunction;" A U H
theorem SF.to {sa : Nat → Nat} {A B : Nat → Prop} {s U : State} {H : Heap} {locs : List Loc} (h : SF sa A s s.heap) (hS : va_S A s.heap H locs) (hAB : ∀ q, B q → A q) (hU : U.heap = H) (hW : s.WarmedH U.vm) : SF sa B U U.heap := by
  have hk : ∀ a : Nat, a < s.heap.size → ¬ A a → U.heap[a]? = s.heap[a]? := fun a h1 h2 => by rw [hU]; exact hS.2.1 a h1 h2
  obtain ⟨h1, ⟨h2, h3⟩, ⟨h4, h5⟩, ⟨h6, h7⟩, h8, h9, h10, h11⟩ := h
  refine ⟨fun q hq => (h1 q hq).warmM hW, ⟨((h2.kept hk).moved hW.alike).narrow hAB, ((h3.kept hk).moved hW.alike).narrow hAB⟩, ⟨((h4.kept hk).moved hW.alike).narrow hAB, ((h5.kept hk).moved hW.alike).narrow hAB⟩, ⟨((h6.kept hk).moved hW.alike).narrow hAB, ((h7.kept hk).moved hW.alike).narrow hAB⟩, fun i hi => (h8 i hi).warm hW, ((h9.kept hk).moved hW.alike).narrow hAB, ((h10.kept hk).moved hW.alike).narrow hAB, ((h11.kept hk).moved hW.alike).narrow hAB⟩
theorem SF.call {sa : Nat → Nat} {A : Nat → Prop} {U : State} {g : JFrame} {mk : MethodId} {a : Array Value} (h : SF sa A U U.heap) : SF sa A (U.calling g mk a) (U.calling g mk a).heap := by
  have hv : U.vm = (U.calling g mk a).vm := rfl
  obtain ⟨h1, ⟨h2, h3⟩, ⟨h4, h5⟩, ⟨h6, h7⟩, h8, h9, h10, h11⟩ := h
  have ha : U.vm.Alike (U.calling g mk a).vm := Vm.Alike.refl U.vm
  exact ⟨fun q hq => (h1 q hq).same rfl hv, ⟨h2.moved ha, h3.moved ha⟩, ⟨h4.moved ha, h5.moved ha⟩, ⟨h6.moved ha, h7.moved ha⟩, fun i hi => (h8 i hi).same hv.symm, h9.moved ha, h10.moved ha, h11.moved ha⟩
abbrev TY (cy : Nat → ClassId) : List (ClassId × FieldType) := [(cy 0, .int), (cy 1, .byte), (cy 2, .long), (cy 3, .boolean), (cy 4, .object "HatHours$Image")]
/-- what holds all along a method: the classes, what stands still, what it may write -/
def Ev (D : va_G) (cy : Nat → ClassId) (sa : Nat → Nat) (A : Nat → Prop) (s : State) : Prop := va_K D vwCl (TY cy) s ∧ SF sa A s s.heap ∧ ∀ q, s.heap.size ≤ q → A q
/-- addresses: apart, and in A -/
def DD (A : Nat → Prop) (as : List Nat) : Prop := (∀ (i j a : Nat), as[i]? = some a → as[j]? = some a → i = j) ∧ ∀ (k a : Nat), as[k]? = some a → A a
theorem map_fst {w : va_W} {k : Nat} {q : Nat × va_E} (h : w[k]? = some q) : (w.map Prod.fst)[k]? = some q.1 := by rw [List.getElem?_map, h]; rfl
theorem DD.d {A : Nat → Prop} {as : List Nat} {w : va_W} (h : DD A as) (hw : w.map Prod.fst = as) : va_D A w := by
  subst hw
  exact ⟨fun i j p q hp hq e => h.1 i j p.1 (map_fst hp) (by rw [e]; exact map_fst hq), fun k q hk => h.2 k q.1 (map_fst hk)⟩
theorem DD.of {A : Nat → Prop} {w : va_W} (h : va_D A w) : DD A (w.map Prod.fst) := by
  refine ⟨fun i j a hi hj => ?_, fun k a hk => ?_⟩
  · rw [List.getElem?_map] at hi hj
    obtain ⟨p, hp, rfl⟩ := Option.map_eq_some_iff.mp hi
    obtain ⟨q, hq, e⟩ := Option.map_eq_some_iff.mp hj
    exact h.1 i j p q hp hq e.symm
  · rw [List.getElem?_map] at hk
    obtain ⟨p, hp, rfl⟩ := Option.map_eq_some_iff.mp hk
    exact h.2 k p hp
def wput (w : va_W) : List Nat → va_W → va_W
  | i :: is, q :: qs => wput (w.set i q) is qs
  | _, _ => w
theorem wput_get : ∀ (is : List Nat) (qs w : va_W), is.length = qs.length → ∀ (k : Nat) (q : Nat × va_E), (wput w is qs)[k]? = some q → (∃ j : Nat, qs[j]? = some q) ∨ (w[k]? = some q ∧ k ∉ is)
  | [], [], w, _, k, q, h => Or.inr ⟨h, List.not_mem_nil⟩
  | [], _ :: _, w, hl, k, q, h => by simp at hl
  | _ :: _, [], w, hl, k, q, h => by simp at hl
  | i :: is, q0 :: qs, w, hl, k, q, h => by
    rcases wput_get is qs (w.set i q0) (by simpa using hl) k q h with ⟨j, hj⟩ | ⟨h1, h2⟩
    · exact Or.inl ⟨j + 1, hj⟩
    · rw [List.getElem?_set] at h1
      by_cases c : i = k
      · subst c
        rw [if_pos rfl] at h1
        split at h1
        · cases h1; exact Or.inl ⟨0, rfl⟩
        · cases h1
      · rw [if_neg c] at h1
        exact Or.inr ⟨h1, fun hm => (List.mem_cons.mp hm).elim (fun e => c e.symm) h2⟩
theorem wput_P {D : va_G} {cl : List vw_C} {A : Nat → Prop} {w wc wc' : va_W} {H H1 : Heap} (hP : va_P D cl w H) (hD : va_D A w) (is : List Nat) (hC : is.map (fun i => w[i]?) = wc.map some) (ha : wc'.map Prod.fst = wc.map Prod.fst) (hk : ∀ q : Nat, q < H.size → ¬ va_A wc H.size q → H1[q]? = H[q]?) (hP1 : va_P D cl wc' H1) : va_P D cl (wput w is wc') H1 := by
  have hl : is.length = wc'.length := by
    have h1 := congrArg List.length hC
    have h2 := congrArg List.length ha
    simp only [List.length_map] at h1 h2
    omega
  intro k q hq
  rcases wput_get is wc' w hl k q hq with ⟨j, hj⟩ | ⟨h1, h2⟩
  · exact hP1 j q hj
  · have hat := hP k q h1
    refine hat.kept (hk q.1 hat.lt (fun hA => ?_))
    rcases hA with ⟨j, e0, hj⟩ | hsz
    · have h3 : (is.map (fun i => w[i]?))[j]? = some (some (q.1, e0)) := by rw [hC, List.getElem?_map, hj]; rfl
      rw [List.getElem?_map] at h3
      obtain ⟨i, hi, hwi⟩ := Option.map_eq_some_iff.mp h3
      have : i = k := hD.1 i k _ _ hwi h1 rfl
      subst this
      exact h2 (List.mem_of_getElem? hi)
    · exact absurd hat.lt (Nat.not_lt.mpr hsz)
/-- a contract's start -/
def cPre (D : va_G) (cy : Nat → ClassId) (sa : Nat → Nat) (av : List Value) (w : va_W) (sz : Nat) : Array Value → State → Prop :=
  va_Pc av (fun U => U.heap.size = sz ∧ va_P D vwCl w U.heap ∧ va_K D vwCl (TY cy) U ∧ va_D (fun _ => True) w ∧ SF sa (va_A w sz) U U.heap)
def CtI (l : Launch) (y : MethodName) (ws : List Cond) (rm : Room) (D : va_G) (cy : Nat → ClassId) (sa : Nat → Nat) (av : List Value) (w w' : va_W) (r : Int) : Prop :=
  ∀ sz, Met l y ws rm (cPre D cy sa av w sz) (va_Qi (fun r' (_ : Unit) => r' = zI r) (fun _ t => va_P D vwCl w' t.heap) (va_A w sz)) 0 0 (va_A w sz)
def CtL (l : Launch) (y : MethodName) (ws : List Cond) (rm : Room) (D : va_G) (cy : Nat → ClassId) (sa : Nat → Nat) (av : List Value) (w w' : va_W) (r : Int) : Prop :=
  ∀ sz, Met l y ws rm (cPre D cy sa av w sz) (va_Ql (fun r' (_ : Unit) => r' = zL r) (fun _ t => va_P D vwCl w' t.heap) (va_A w sz)) 0 0 (va_A w sz)
def CtV (l : Launch) (y : MethodName) (ws : List Cond) (rm : Room) (D : va_G) (cy : Nat → ClassId) (sa : Nat → Nat) (av : List Value) (w w' : va_W) : Prop :=
  ∀ sz, Met l y ws rm (cPre D cy sa av w sz) (va_Qv (fun (_ : Unit) => True) (fun _ t => va_P D vwCl w' t.heap) (va_A w sz)) 0 0 (va_A w sz)
def CtR (l : Launch) (y : MethodName) (ws : List Cond) (rm : Room) (D : va_G) (cy : Nat → ClassId) (sa : Nat → Nat) (av : List Value) (w w' : va_W) (r : Nat) : Prop :=
  ∀ sz, Met l y ws rm (cPre D cy sa av w sz) (va_Qr (fun (_ : Unit) => True) (fun _ a t => a = r ∧ va_P D vwCl w' t.heap) (va_A w sz)) 0 0 (va_A w sz)
theorem cPre_blind {D : va_G} {cy : Nat → ClassId} {sa : Nat → Nat} {av : List Value} {w : va_W} {sz : Nat} : FrameBlind (cPre D cy sa av w sz) := by
  intro a U g mk q
  obtain ⟨h0, h1, h2, h3, h4, h5⟩ := q
  exact ⟨h0, h1, h2, va_K.moved (u := U) (U := U.calling g mk a) (Vm.Alike.refl U.vm) h3, h4, h5.call⟩
theorem filter_of {w wc : va_W} {is : List Nat} (hC : is.map (fun i => w[i]?) = wc.map some) : is.filterMap (fun i => w[i]?) = wc := by
  have h : is.filterMap (fun i => w[i]?) = (is.map (fun i => w[i]?)).filterMap id := by rw [List.filterMap_map]; rfl
  rw [h, hC, List.filterMap_map]
  exact List.filterMap_some
theorem cPre_of {D : va_G} {cy : Nat → ClassId} {sa : Nat → Nat} {A : Nat → Prop} {av : List Value} {w wc : va_W} {H : Heap} {locs : List Loc} {s : State} (hE : Ev D cy sa A s) (hP : va_P D vwCl w H) (hD : va_D A w) (hS : va_S A s.heap H locs) (is : List Nat) (hC : is.map (fun i => w[i]?) = wc.map some) (hn : va_nd is = true) :
    (∀ q, va_A wc H.size q → A q) ∧ va_P D vwCl wc H ∧ ∀ U : State, U.heap = H → s.WarmedH U.vm → cPre D cy sa av wc H.size av.toArray U := by
  have hF := va_free hD hS hE.2.2 is hC
  have hPc := hP.sub is (filter_of hC)
  refine ⟨hF, hPc, fun U hU hW => ⟨rfl, by rw [hU], by rw [hU]; exact hPc, va_K.moved hW.alike hE.1, (hD.sub is hn hC).weaken (fun _ _ _ _ => trivial), hE.2.1.to hS hF hU hW⟩⟩
section CT
variable {l : Launch} {y : MethodName} {ws ws' : List Cond} {rm : Room} {D : va_G} {cy : Nat → ClassId} {sa : Nat → Nat} {av : List Value} {w w' : va_W} {cc : ByteArray} {maxL : Nat} {ret : Option FieldType}
theorem ct_body {Qc : (Nat → Prop) → Array Value → State → Outcome → State → Prop} (hy : plainFor y = true) (hw : ws = .code y cc maxL ret :: ws') (hl : (lg_sl av).length ≤ maxL)
    (body : ∀ p e s m below meth c A, p.tables.exec = Jvm.exec → c.code = cc → meth.sig.returnType = ret → c.maxLocals = maxL → s.vm.findClass y.cls = some m.cls → (∀ w ∈ ws, w.before av.toArray s = true) → meth.locks = false → Ev D cy sa A s → DD A (w.map Prod.fst) → va_P D vwCl w s.heap → ∀ ls, lv_has ls maxL (lv_args 0 av) →
      W p l e rm s m av.toArray below meth c s.heap [] 0 0 (MQ below (Qc A) av.toArray s 0 0 A) (F0 m 0 ls [])) : ∀ sz, Met l y ws rm (cPre D cy sa av w sz) (Qc (va_A w sz)) 0 0 (va_A w sz) := by
  intro sz
  refine va_MetF (cc := cc) (maxL := maxL) (ret := ret) hy hw ?_
  intro p e s m args below meth c s₁ B hml hv
  obtain ⟨rfl, hsz, hP, hK, hD0, hF⟩ := hv
  subst hsz
  rw [lg_entry_eq]
  exact body p e s m below meth c _ B.exec B.bytes B.returns hml (findClass_of_methodNamed B.named) (atoms_spec (ws := ws) B.pre) B.notSynchronized ⟨hK, hF, fun q h => Or.inr h⟩ (DD.of hD0.self) hP _ (lv_entry av (n := maxL) hl)

theorem ct_I {r : Int} (hy : plainFor y = true) (hw : ws = .code y cc maxL (some .int) :: ws') (hl : (lg_sl av).length ≤ maxL)
    (body : ∀ p e s m below meth c A args QQ, p.tables.exec = Jvm.exec → c.code = cc → c.maxLocals = maxL → s.vm.findClass y.cls = some m.cls → (∀ w ∈ ws, w.before args s = true) → Ev D cy sa A s → DD A (w.map Prod.fst) → va_P D vwCl w s.heap →
      (∀ (H : Heap) (locs : List Loc) (ls : Array Slot) (pc : Nat), va_P D vwCl w' H → va_S A s.heap H locs → decode cc pc = .ok (.ireturn, 1) → W p l e rm s m args below meth c H locs 0 0 QQ (F0 m pc ls [.int (zI r)])) →
      ∀ ls, lv_has ls maxL (lv_args 0 av) → W p l e rm s m args below meth c s.heap [] 0 0 QQ (F0 m 0 ls [])) : CtI l y ws rm D cy sa av w w' r :=
  ct_body (Qc := fun A => va_Qi (fun r' (_ : Unit) => r' = zI r) (fun _ t => va_P D vwCl w' t.heap) A) hy hw hl (fun p e s m below meth c A hx hb hr hml hown hts hlocks hE hDD hP ls hl => body p e s m below meth c A _ _ hx hb hml hown hts hE hDD hP (fun H locs ls pc hP hS d => W.iret hx hb hr (fun t ht hW => ⟨⟨zI r, (), rfl, rfl, by show va_P _ _ _ t.heap; rw [ht]; exact hP⟩, hS.F ht⟩) hS.2.2 d hlocks) ls hl)
theorem ct_Z {r : Int} {ty : FieldType} (hy : plainFor y = true) (hw : ws = .code y cc maxL (some ty) :: ws') (hl : (lg_sl av).length ≤ maxL)
    (body : ∀ p e s m below meth c A args QQ, p.tables.exec = Jvm.exec → c.code = cc → c.maxLocals = maxL → s.vm.findClass y.cls = some m.cls → (∀ w ∈ ws, w.before args s = true) → Ev D cy sa A s → DD A (w.map Prod.fst) → va_P D vwCl w s.heap →
      (∀ (H : Heap) (locs : List Loc) (ls : Array Slot) (pc : Nat), narrow ty (.int (zI r)) = .int (zI r) → va_P D vwCl w' H → va_S A s.heap H locs → decode cc pc = .ok (.ireturn, 1) → W p l e rm s m args below meth c H locs 0 0 QQ (F0 m pc ls [.int (zI r)])) →
      ∀ ls, lv_has ls maxL (lv_args 0 av) → W p l e rm s m args below meth c s.heap [] 0 0 QQ (F0 m 0 ls [])) : CtI l y ws rm D cy sa av w w' r :=
  ct_body (Qc := fun A => va_Qi (fun r' (_ : Unit) => r' = zI r) (fun _ t => va_P D vwCl w' t.heap) A) hy hw hl (fun p e s m below meth c A hx hb hr hml hown hts hlocks hE hDD hP ls hl => body p e s m below meth c A _ _ hx hb hml hown hts hE hDD hP (fun H locs ls pc hn hP hS d => W.zret hx hb hr hn (fun t ht hW => ⟨⟨zI r, (), rfl, rfl, by show va_P _ _ _ t.heap; rw [ht]; exact hP⟩, hS.F ht⟩) hS.2.2 d hlocks) ls hl)
theorem ct_L {r : Int} (hy : plainFor y = true) (hw : ws = .code y cc maxL (some .long) :: ws') (hl : (lg_sl av).length ≤ maxL)
    (body : ∀ p e s m below meth c A args QQ, p.tables.exec = Jvm.exec → c.code = cc → c.maxLocals = maxL → s.vm.findClass y.cls = some m.cls → (∀ w ∈ ws, w.before args s = true) → Ev D cy sa A s → DD A (w.map Prod.fst) → va_P D vwCl w s.heap →
      (∀ (H : Heap) (locs : List Loc) (ls : Array Slot) (pc : Nat), va_P D vwCl w' H → va_S A s.heap H locs → decode cc pc = .ok (.lreturn, 1) → W p l e rm s m args below meth c H locs 0 0 QQ (F0 m pc ls [.long (zL r)])) →
      ∀ ls, lv_has ls maxL (lv_args 0 av) → W p l e rm s m args below meth c s.heap [] 0 0 QQ (F0 m 0 ls [])) : CtL l y ws rm D cy sa av w w' r :=
  ct_body (Qc := fun A => va_Ql (fun r' (_ : Unit) => r' = zL r) (fun _ t => va_P D vwCl w' t.heap) A) hy hw hl (fun p e s m below meth c A hx hb hr hml hown hts hlocks hE hDD hP ls hl => body p e s m below meth c A _ _ hx hb hml hown hts hE hDD hP (fun H locs ls pc hP hS d => W.lret hx hb hr (fun t ht hW => ⟨⟨zL r, (), rfl, rfl, by show va_P _ _ _ t.heap; rw [ht]; exact hP⟩, hS.F ht⟩) hS.2.2 d hlocks) ls hl)
theorem ct_V (hy : plainFor y = true) (hw : ws = .code y cc maxL none :: ws') (hl : (lg_sl av).length ≤ maxL)
    (body : ∀ p e s m below meth c A args QQ, p.tables.exec = Jvm.exec → c.code = cc → c.maxLocals = maxL → s.vm.findClass y.cls = some m.cls → (∀ w ∈ ws, w.before args s = true) → Ev D cy sa A s → DD A (w.map Prod.fst) → va_P D vwCl w s.heap →
      (∀ (H : Heap) (locs : List Loc) (ls : Array Slot) (pc : Nat), va_P D vwCl w' H → va_S A s.heap H locs → decode cc pc = .ok (.return_, 1) → W p l e rm s m args below meth c H locs 0 0 QQ (F0 m pc ls [])) →
      ∀ ls, lv_has ls maxL (lv_args 0 av) → W p l e rm s m args below meth c s.heap [] 0 0 QQ (F0 m 0 ls [])) : CtV l y ws rm D cy sa av w w' :=
  ct_body (Qc := fun A => va_Qv (fun (_ : Unit) => True) (fun _ t => va_P D vwCl w' t.heap) A) hy hw hl (fun p e s m below meth c A hx hb hr hml hown hts hlocks hE hDD hP ls hl => body p e s m below meth c A _ _ hx hb hml hown hts hE hDD hP (fun H locs ls pc hP hS d => W.vret hx hb hr (fun t ht hW => ⟨⟨(), rfl, trivial, by show va_P _ _ _ t.heap; rw [ht]; exact hP⟩, hS.F ht⟩) hS.2.2 d hlocks) ls hl)
theorem ct_R {r : Nat} {C : String} (hy : plainFor y = true) (hw : ws = .code y cc maxL (some (.object C)) :: ws') (hl : (lg_sl av).length ≤ maxL)
    (body : ∀ p e s m below meth c A args QQ, p.tables.exec = Jvm.exec → c.code = cc → c.maxLocals = maxL → s.vm.findClass y.cls = some m.cls → (∀ w ∈ ws, w.before args s = true) → Ev D cy sa A s → DD A (w.map Prod.fst) → va_P D vwCl w s.heap →
      (∀ (H : Heap) (locs : List Loc) (ls : Array Slot) (pc : Nat), va_P D vwCl w' H → va_S A s.heap H locs → decode cc pc = .ok (.areturn, 1) → W p l e rm s m args below meth c H locs 0 0 QQ (F0 m pc ls [.ref r])) →
      ∀ ls, lv_has ls maxL (lv_args 0 av) → W p l e rm s m args below meth c s.heap [] 0 0 QQ (F0 m 0 ls [])) : CtR l y ws rm D cy sa av w w' r :=
  ct_body (Qc := fun A => va_Qr (fun (_ : Unit) => True) (fun _ a t => a = r ∧ va_P D vwCl w' t.heap) A) hy hw hl (fun p e s m below meth c A hx hb hr hml hown hts hlocks hE hDD hP ls hl => body p e s m below meth c A _ _ hx hb hml hown hts hE hDD hP (fun H locs ls pc hP hS d => W.aret hx hb hr (Or.inl ⟨C, rfl⟩) (Or.inr ⟨r, rfl⟩) (fun t ht hW => ⟨⟨(), r, rfl, trivial, rfl, by show va_P _ _ _ t.heap; rw [ht]; exact hP⟩, hS.F ht⟩) hS.2.2 d hlocks) ls hl)
end CT
theorem inR_ix {i : Int} {n : Nat} (h : 0 ≤ i ∧ i < (n : Int)) (hn : n < 2147483648) : inR i := by constructor <;> omega
theorem inL_of {i : Int} (h : inR i) : inL i := by constructor <;> omega
theorem inR_ite {c : Prop} [Decidable c] {a b : Int} (ha : inR a) (hb : inR b) : inR (if c then a else b) := by split <;> assumption
abbrev imF (a b : Nat) : Nat → Option Nat := va_up (va_up (fun _ => none) 0 (some a)) 1 (some b)
section WC
variable {p : Program} {l : Launch} {e : Env} {R : Room} {s : State} {m : MethodId} {args : Array Value} {below : List Frame} {meth : Method} {c : Code} {H : Heap} {locs : List Loc} {cells slots : Nat} {Q : State → Prop} {cc : ByteArray} {pc : Nat} {ls : Array Slot} {rest : List Value} {D : va_G} {cy : Nat → ClassId} {sa : Nat → Nat} {A : Nat → Prop} {w w2 wc wc' : va_W} {as : List Nat}

theorem wi_get (hx : p.tables.exec = Jvm.exec) (hb : c.code = cc) {own C : String} {T : u_T} {N ci index : Nat} {Ts : List Cond} (hts : ∀ w ∈ Ts, w.before args s = true) (hin : ∀ w ∈ u_ws C T N, w ∈ Ts) (hown : s.vm.findClass own = some m.cls) (hE : Ev D cy sa A s) (hP : va_P D vwCl w H) (q0 : Nat) {a : Nat} {fs : List Value} (he : w[q0]? = some (a, .inr (ci, fs))) (hc : vwCl[ci]? = some (C, T, N)) (k : Nat) (hk : k < N) (hlink : (Cond.fieldLink own index (T k).1 (T k).2.1 (T k).2.2.1).before args s = true) {v : Value} (hv : fs[k]? = some v) (d : decode cc pc = .ok (.getfield index, 3)) (k2 : W p l e R s m args below meth c H locs cells slots Q (F0 m (pc + 3) ls (v :: rest))) : W p l e R s m args below meth c H locs cells slots Q (F0 m pc ls (.ref a :: rest)) := va_get hx hb hts hin hown hE.1 hP q0 he hc k hk hlink (fun _ h => h) hv d k2
theorem wi_put (hx : p.tables.exec = Jvm.exec) (hb : c.code = cc) {own C : String} {T : u_T} {N ci index : Nat} {Ts : List Cond} (hts : ∀ w ∈ Ts, w.before args s = true) (hin : ∀ w ∈ u_ws C T N, w ∈ Ts) (ty0 : Nat → FieldType) (hty : ∀ k, k < N → parseFieldDescriptor (T k).2.2.1 = some (ty0 k)) (hnm : ∀ a, a < N → ∀ b, b < N → a ≠ b → (T a).2.1 ≠ (T b).2.1) (hown : s.vm.findClass own = some m.cls) (hE : Ev D cy sa A s) (hP : va_P D vwCl w H) (hDD : DD A as) (hw : w.map Prod.fst = as) (hS : va_S A s.heap H locs) (q0 : Nat) {a : Nat} {fs : List Value} (he : w[q0]? = some (a, .inr (ci, fs))) (hc : vwCl[ci]? = some (C, T, N)) (k : Nat) (hk : k < N) (hlink : (Cond.fieldLink own index (T k).1 (T k).2.1 (T k).2.2.1).before args s = true) (hfin : (T k).2.2.2 = false) {ty : FieldType} {v : Value} (hd : parseFieldDescriptor (T k).2.2.1 = some ty) (hn : narrow ty v = v) (hfit : fits ty v = true) (hl : k < fs.length) (d : decode cc pc = .ok (.putfield index, 3)) (hw2 : w.set q0 (a, .inr (ci, fs.set k v)) = w2) (kk : ∀ (H1 : Heap) (locs1 : List Loc), va_P D vwCl w2 H1 → va_S A s.heap H1 locs1 → W p l e R s m args below meth c H1 locs1 cells slots Q (F0 m (pc + 3) ls rest)) : W p l e R s m args below meth c H locs cells slots Q (F0 m pc ls (v :: .ref a :: rest)) := va_put hx hb hts hin ty0 hty hnm hown hE.1 hP (hDD.d hw) hS q0 he hc k hk hlink (fun _ h => h) hfin hd hn hfit hl d (fun H1 locs1 hP1 _ hS1 => kk H1 locs1 (hw2 ▸ hP1) hS1)
theorem wi_iald (hx : p.tables.exec = Jvm.exec) (hb : c.code = cc) (hE : Ev D cy sa A s) (hP : va_P D vwCl w H) (q0 : Nat) {a n : Nat} {f : Nat → Int} (ha : w[q0]? = some (a, .inl (cy 0, n, .inl (fun j => zI (f j))))) {i : Int} (hn : n < 2147483648) (hin : 0 ≤ i ∧ i < (n : Int)) (d : decode cc pc = .ok (.iaload, 1)) (k : W p l e R s m args below meth c H locs cells slots Q (F0 m (pc + 1) ls (.int (zI (f i.toNat)) :: rest))) : W p l e R s m args below meth c H locs cells slots Q (F0 m pc ls (.int (zI i) :: .ref a :: rest)) := va_iald hx hb hE.1 hP q0 0 ha rfl (zI_in hin hn) d (by rw [zI_cl hin hn]; exact k)
theorem wi_bald (hx : p.tables.exec = Jvm.exec) (hb : c.code = cc) (hE : Ev D cy sa A s) (hP : va_P D vwCl w H) (q0 : Nat) {a n : Nat} {f : Nat → Int} (ha : w[q0]? = some (a, .inl (cy 1, n, .inl (fun j => zI (f j))))) {i : Int} (hn : n < 2147483648) (hin : 0 ≤ i ∧ i < (n : Int)) (d : decode cc pc = .ok (.baload, 1)) (k : W p l e R s m args below meth c H locs cells slots Q (F0 m (pc + 1) ls (.int (zI (f i.toNat)) :: rest))) : W p l e R s m args below meth c H locs cells slots Q (F0 m pc ls (.int (zI i) :: .ref a :: rest)) := va_bald hx hb hE.1 hP q0 1 ha rfl (zI_in hin hn) d (by rw [zI_cl hin hn]; exact k)
theorem wi_zald (hx : p.tables.exec = Jvm.exec) (hb : c.code = cc) (hE : Ev D cy sa A s) (hP : va_P D vwCl w H) (q0 : Nat) {a n : Nat} {f : Nat → Int} (ha : w[q0]? = some (a, .inl (cy 3, n, .inl (fun j => zI (f j))))) {i : Int} (hn : n < 2147483648) (hin : 0 ≤ i ∧ i < (n : Int)) (d : decode cc pc = .ok (.baload, 1)) (k : W p l e R s m args below meth c H locs cells slots Q (F0 m (pc + 1) ls (.int (zI (f i.toNat)) :: rest))) : W p l e R s m args below meth c H locs cells slots Q (F0 m pc ls (.int (zI i) :: .ref a :: rest)) := va_zald hx hb hE.1 hP q0 3 ha rfl (zI_in hin hn) d (by rw [zI_cl hin hn]; exact k)
theorem wi_lald (hx : p.tables.exec = Jvm.exec) (hb : c.code = cc) (hE : Ev D cy sa A s) (hP : va_P D vwCl w H) (q0 : Nat) {a n : Nat} {f : Nat → Int} (ha : w[q0]? = some (a, .inl (cy 2, n, .inr (.inl (fun j => zL (f j)))))) {i : Int} (hn : n < 2147483648) (hin : 0 ≤ i ∧ i < (n : Int)) (d : decode cc pc = .ok (.laload, 1)) (k : W p l e R s m args below meth c H locs cells slots Q (F0 m (pc + 1) ls (.long (zL (f i.toNat)) :: rest))) : W p l e R s m args below meth c H locs cells slots Q (F0 m pc ls (.int (zI i) :: .ref a :: rest)) := va_lald hx hb hE.1 hP q0 2 ha rfl (zI_in hin hn) d (by rw [zI_cl hin hn]; exact k)
theorem wi_iast (hx : p.tables.exec = Jvm.exec) (hb : c.code = cc) (hE : Ev D cy sa A s) (hP : va_P D vwCl w H) (hDD : DD A as) (hw : w.map Prod.fst = as) (hS : va_S A s.heap H locs) (q0 : Nat) {a n : Nat} {f : Nat → Int} (ha : w[q0]? = some (a, .inl (cy 0, n, .inl (fun j => zI (f j))))) {i v : Int} (hn : n < 2147483648) (hin : 0 ≤ i ∧ i < (n : Int)) (d : decode cc pc = .ok (.iastore, 1)) (hw2 : w.set q0 (a, .inl (cy 0, n, .inl (fun j => zI (upZ f i.toNat v j)))) = w2) (kk : ∀ (H1 : Heap) (locs1 : List Loc), va_P D vwCl w2 H1 → va_S A s.heap H1 locs1 → W p l e R s m args below meth c H1 locs1 cells slots Q (F0 m (pc + 1) ls rest)) : W p l e R s m args below meth c H locs cells slots Q (F0 m pc ls (.int (zI v) :: .int (zI i) :: .ref a :: rest)) := va_iast hx hb hE.1 hP (hDD.d hw) hS q0 0 ha rfl (zI_in hin hn) d (fun H1 locs1 hP1 _ hS1 => kk H1 locs1 (by rw [zI_cl hin hn, upd_zI, hw2] at hP1; exact hP1) hS1)
theorem wi_last (hx : p.tables.exec = Jvm.exec) (hb : c.code = cc) (hE : Ev D cy sa A s) (hP : va_P D vwCl w H) (hDD : DD A as) (hw : w.map Prod.fst = as) (hS : va_S A s.heap H locs) (q0 : Nat) {a n : Nat} {f : Nat → Int} (ha : w[q0]? = some (a, .inl (cy 2, n, .inr (.inl (fun j => zL (f j)))))) {i v : Int} (hn : n < 2147483648) (hin : 0 ≤ i ∧ i < (n : Int)) (d : decode cc pc = .ok (.lastore, 1)) (hw2 : w.set q0 (a, .inl (cy 2, n, .inr (.inl (fun j => zL (upZ f i.toNat v j))))) = w2) (kk : ∀ (H1 : Heap) (locs1 : List Loc), va_P D vwCl w2 H1 → va_S A s.heap H1 locs1 → W p l e R s m args below meth c H1 locs1 cells slots Q (F0 m (pc + 1) ls rest)) : W p l e R s m args below meth c H locs cells slots Q (F0 m pc ls (.long (zL v) :: .int (zI i) :: .ref a :: rest)) := va_last hx hb hE.1 hP (hDD.d hw) hS q0 2 ha rfl (zI_in hin hn) d (fun H1 locs1 hP1 _ hS1 => kk H1 locs1 (by rw [zI_cl hin hn, updL_zL, hw2] at hP1; exact hP1) hS1)
theorem wi_bast (hx : p.tables.exec = Jvm.exec) (hb : c.code = cc) (hE : Ev D cy sa A s) (hP : va_P D vwCl w H) (hDD : DD A as) (hw : w.map Prod.fst = as) (hS : va_S A s.heap H locs) (q0 : Nat) {a n : Nat} {f : Nat → Int} (ha : w[q0]? = some (a, .inl (cy 1, n, .inl (fun j => zI (f j))))) {i v : Int} (hn : n < 2147483648) (hin : 0 ≤ i ∧ i < (n : Int)) (d : decode cc pc = .ok (.bastore, 1)) (hw2 : w.set q0 (a, .inl (cy 1, n, .inl (fun j => zI (upZ f i.toNat (z8 v) j)))) = w2) (kk : ∀ (H1 : Heap) (locs1 : List Loc), va_P D vwCl w2 H1 → va_S A s.heap H1 locs1 → W p l e R s m args below meth c H1 locs1 cells slots Q (F0 m (pc + 1) ls rest)) : W p l e R s m args below meth c H locs cells slots Q (F0 m pc ls (.int (zI v) :: .int (zI i) :: .ref a :: rest)) := va_bast hx hb hE.1 hP (hDD.d hw) hS q0 1 ha rfl (zI_in hin hn) d (fun H1 locs1 hP1 _ hS1 => kk H1 locs1 (by rw [zI_cl hin hn, nar_b, upd_zI, hw2] at hP1; exact hP1) hS1)
theorem wi_zast (hx : p.tables.exec = Jvm.exec) (hb : c.code = cc) (hE : Ev D cy sa A s) (hP : va_P D vwCl w H) (hDD : DD A as) (hw : w.map Prod.fst = as) (hS : va_S A s.heap H locs) (q0 : Nat) {a n : Nat} {f : Nat → Int} (ha : w[q0]? = some (a, .inl (cy 3, n, .inl (fun j => zI (f j))))) {i v : Int} (hn : n < 2147483648) (hin : 0 ≤ i ∧ i < (n : Int)) (hv : v = 0 ∨ v = 1) (d : decode cc pc = .ok (.bastore, 1)) (hw2 : w.set q0 (a, .inl (cy 3, n, .inl (fun j => zI (upZ f i.toNat v j)))) = w2) (kk : ∀ (H1 : Heap) (locs1 : List Loc), va_P D vwCl w2 H1 → va_S A s.heap H1 locs1 → W p l e R s m args below meth c H1 locs1 cells slots Q (F0 m (pc + 1) ls rest)) : W p l e R s m args below meth c H locs cells slots Q (F0 m pc ls (.int (zI v) :: .int (zI i) :: .ref a :: rest)) := va_zast hx hb hE.1 hP (hDD.d hw) hS q0 3 ha rfl (zI_in hin hn) d (fun H1 locs1 hP1 _ hS1 => kk H1 locs1 (by rw [zI_cl hin hn, nar_z hv, upd_zI, hw2] at hP1; exact hP1) hS1)
theorem wi_alen (hx : p.tables.exec = Jvm.exec) (hb : c.code = cc) (hE : Ev D cy sa A s) (hP : va_P D vwCl w H) (q0 t0 : Nat) {a : Nat} {cA : ClassId} {x : vp_A} (ha : w[q0]? = some (a, .inl (cA, x))) {ty : FieldType} (ht : (TY cy)[t0]? = some (cA, ty)) {n : Nat} (hx1 : x.1 = n) (d : decode cc pc = .ok (.arraylength, 1)) (k : W p l e R s m args below meth c H locs cells slots Q (F0 m (pc + 1) ls (.int (zI (n : Int)) :: rest))) : W p l e R s m args below meth c H locs cells slots Q (F0 m pc ls (.ref a :: rest)) := va_alen hx hb hE.1 hP q0 t0 ha ht (by rw [hx1]; exact (zI_nat n).symm) d k
theorem wi_ald (hx : p.tables.exec = Jvm.exec) (hb : c.code = cc) (hE : Ev D cy sa A s) (hP : va_P D vwCl w H) (q0 : Nat) {a x y : Nat} (ha : w[q0]? = some (a, .inl (cy 4, 2, .inr (.inr (.inr (.inr (imF x y))))))) {i : Int} (hin : 0 ≤ i ∧ i < 2) (d : decode cc pc = .ok (.aaload, 1)) (k0 : i = 0 → W p l e R s m args below meth c H locs cells slots Q (F0 m (pc + 1) ls (.ref x :: rest))) (k1 : ¬ i = 0 → W p l e R s m args below meth c H locs cells slots Q (F0 m (pc + 1) ls (.ref y :: rest))) : W p l e R s m args below meth c H locs cells slots Q (F0 m pc ls (.int (zI i) :: .ref a :: rest)) := by
  refine va_aldq hx hb hE.1 hP q0 4 ha rfl (zI_in (n := 2) hin (by decide)) d ?_
  rw [zI_cl (n := 2) hin (by decide)]
  rcases (show i = 0 ∨ i = 1 by omega) with rfl | rfl
  · exact k0 rfl
  · exact k1 (by decide)
theorem wi_copy (hx : p.tables.exec = Jvm.exec) (hb : c.code = cc) (hml : c.maxLocals = ls.size) {own : String} {index : Nat} (hown : s.vm.findClass own = some m.cls) (h1 : (Cond.methodLink own index arraycopyName).before args s = true) (h2 : (Cond.native arraycopyName).before args s = true) (h3 : (Cond.static arraycopyName).before args s = true) (h4 : (Cond.initialized "java/lang/System").before args s = true) (hE : Ev D cy sa A s) (hP : va_P D vwCl w H) (hDD : DD A as) (hw : w.map Prod.fst = as) (hS : va_S A s.heap H locs) (q0 q1 : Nat) {a0 a n : Nat} {f g : Nat → Int} (ha0 : w[q0]? = some (a0, .inl (cy 0, n, .inl (fun j => zI (f j))))) (ha1 : w[q1]? = some (a, .inl (cy 0, n, .inl (fun j => zI (g j))))) (hn : n < 2147483648) {k : Int} (hk : k = (n : Int)) (hframes : 1 ≤ R.frames) (hlocals : (rest.map fun v => v.category).sum + (nativeFrameWords "java/lang/System" "arraycopy" 5 + 11) ≤ R.locals) (d : decode cc pc = .ok (.invokestatic index, 3)) (hw2 : w.set q1 (a, .inl (cy 0, n, .inl (fun j => zI (cpZ f g n j)))) = w2) (kk : ∀ (H1 : Heap) (locs1 : List Loc), va_P D vwCl w2 H1 → va_S A s.heap H1 locs1 → W p l e R s m args below meth c H1 locs1 cells slots Q (F0 m (pc + 3) ls rest)) : W p l e R s m args below meth c H locs cells slots Q (F0 m pc ls (.int (zI k) :: .int (zI 0) :: .ref a :: .int (zI 0) :: .ref a0 :: rest)) := by
  subst hk
  have e0 : (zI 0).toNatClampNeg = 0 := rfl
  have en : (zI (n : Int)).toNatClampNeg = n := by rw [zI_nat]; exact nI_clamp (by omega)
  have z0 : ¬ zI 0 < 0 := by decide
  refine va_copyi hx hb hml hown h1 h2 h3 h4 hE.1 hP (hDD.d hw) hS q0 q1 0 0 ha0 ha1 rfl rfl rfl z0 z0 (by rw [zI_nat]; exact nI_pos (by omega)) (by rw [e0, en]; omega) (by rw [e0, en]; omega) (fun i _ => rfl) hframes hlocals d (fun H1 locs1 hP1 _ hS1 => kk H1 locs1 ?_ hS1)
  rw [e0, en, cpy_zI, hw2] at hP1
  exact hP1
theorem wi_max (hx : p.tables.exec = Jvm.exec) (hb : c.code = cc) (hml : c.maxLocals = ls.size) {own : String} {index : Nat} (hown : s.vm.findClass own = some m.cls) (h1 : (Cond.methodLink own index Lib.Math.max.name).before args s = true) (h2 : (Cond.static Lib.Math.max.name).before args s = true) (h3 : (Cond.initialized "java/lang/Math").before args s = true) (h4 : (Cond.code Lib.Math.max.name Lib.Math.max.code 2 (some .int)).before args s = true) (hframes : 1 ≤ R.frames) (hlocals : (rest.map fun v => v.category).sum + 13 ≤ R.locals) (hz : cells ≤ R.cells ∧ slots ≤ R.slots) {a b : Int} (ha : inR a) (hc : inR b) (d : decode cc pc = .ok (.invokestatic index, 3)) (k : W p l e R s m args below meth c H locs cells slots Q (F0 m (pc + 3) ls (.int (zI (if a < b then b else a)) :: rest))) : W p l e R s m args below meth c H locs cells slots Q (F0 m pc ls (.int (zI b) :: .int (zI a) :: rest)) := va_mmax hx hb hml hown h1 h2 h3 h4 hframes hlocals hz.1 hz.2 d (by
  have e : (if zI a < zI b then zI b else zI a) = zI (if a < b then b else a) := by
    by_cases q : a < b
    · rw [if_pos q, if_pos ((zI_lt ha hc).mpr q)]
    · rw [if_neg q, if_neg (fun r => q ((zI_lt ha hc).mp r))]
  rw [e]; exact k)
theorem wi_min (hx : p.tables.exec = Jvm.exec) (hb : c.code = cc) (hml : c.maxLocals = ls.size) {own : String} {index : Nat} (hown : s.vm.findClass own = some m.cls) (h1 : (Cond.methodLink own index Lib.Math.min.name).before args s = true) (h2 : (Cond.static Lib.Math.min.name).before args s = true) (h3 : (Cond.initialized "java/lang/Math").before args s = true) (h4 : (Cond.code Lib.Math.min.name Lib.Math.min.code 2 (some .int)).before args s = true) (hframes : 1 ≤ R.frames) (hlocals : (rest.map fun v => v.category).sum + 13 ≤ R.locals) (hz : cells ≤ R.cells ∧ slots ≤ R.slots) {a b : Int} (ha : inR a) (hc : inR b) (d : decode cc pc = .ok (.invokestatic index, 3)) (k : W p l e R s m args below meth c H locs cells slots Q (F0 m (pc + 3) ls (.int (zI (if b < a then b else a)) :: rest))) : W p l e R s m args below meth c H locs cells slots Q (F0 m pc ls (.int (zI b) :: .int (zI a) :: rest)) := va_mmin hx hb hml hown h1 h2 h3 h4 hframes hlocals hz.1 hz.2 d (by
  have e : (if zI b < zI a then zI b else zI a) = zI (if b < a then b else a) := by
    by_cases q : b < a
    · rw [if_pos q, if_pos ((zI_lt hc ha).mpr q)]
    · rw [if_neg q, if_neg (fun r => q ((zI_lt hc ha).mp r))]
  rw [e]; exact k)
theorem wi_gets (hx : p.tables.exec = Jvm.exec) (hb : c.code = cc) {C n d0 own : String} {v : Value} {index : Nat} (hZ : va_Z C n d0 v A s s.heap) (hS : va_S A s.heap H locs) (hown : s.vm.findClass own = some m.cls) (hlink : (Cond.fieldLink own index C n d0).before args s = true) (d : decode cc pc = .ok (.getstatic index, 3)) (k : W p l e R s m args below meth c H locs cells slots Q (F0 m (pc + 3) ls (v :: rest))) : W p l e R s m args below meth c H locs cells slots Q (F0 m pc ls rest) := va_gets hx hb hZ hS hown hlink (fun _ h => h) d k
theorem wi_ti (hx : p.tables.exec = Jvm.exec) (hb : c.code = cc) {t n : Nat} {f : Nat → Int} (hT : va_T .int t n (fun k => .int (zI (f k))) A s s.heap) (hS : va_S A s.heap H locs) {i : Int} (hn : n < 2147483648) (hin : 0 ≤ i ∧ i < (n : Int)) (d : decode cc pc = .ok (.iaload, 1)) (k : W p l e R s m args below meth c H locs cells slots Q (F0 m (pc + 1) ls (.int (zI (f i.toNat)) :: rest))) : W p l e R s m args below meth c H locs cells slots Q (F0 m pc ls (.int (zI i) :: .ref t :: rest)) := va_ti hx hb hT hS (zI_in hin hn) (by rw [zI_cl hin hn]) d k
theorem wi_tlen (hx : p.tables.exec = Jvm.exec) (hb : c.code = cc) {t n : Nat} {ty : FieldType} {f : Nat → Value} (hT : va_T ty t n f A s s.heap) (hS : va_S A s.heap H locs) (d : decode cc pc = .ok (.arraylength, 1)) (k : W p l e R s m args below meth c H locs cells slots Q (F0 m (pc + 1) ls (.int (zI (n : Int)) :: rest))) : W p l e R s m args below meth c H locs cells slots Q (F0 m pc ls (.ref t :: rest)) := va_tlen hx hb hT hS (zI_nat n).symm d k
theorem cV_i {y : MethodName} {bytes : ByteArray} {maxL nL n index : Nat} {ret : Option FieldType} {ws : List Cond} {rm : Room} {Ts : List Cond} {own : String} {As st0 : List Value} {b ci : Nat} {r : Int} (S : CallFix p m c cc nL s args Ts own) (hM : CtI l y ws rm D cy sa (.ref b :: As) wc wc' r) {C : String} {q : vw_C} {fs : List Value} {wc0 : va_W} (cw : CallW R s args own C index y bytes maxL ret ws rm 0 0 n) (hrec : wc = (b, .inr (ci, fs)) :: wc0) (hci : vwCl[ci]? = some q) (hq : q.1 = C) (hE : Ev D cy sa A s) (hP : va_P D vwCl w H) (hDD : DD A as) (hw : w.map Prod.fst = as) (hS : va_S A s.heap H locs) (is : List Nat) (hC : is.map (fun i => w[i]?) = wc.map some) (hn : va_nd is = true) (ha : wc'.map Prod.fst = wc.map Prod.fst) (hlen : As.length = n) (hsize : ls.size = nL) (hcat : (rest.map fun v => v.category).sum ≤ 8) (hz : cells ≤ R.cells ∧ slots ≤ R.slots) (hst : st0 = As.reverse ++ .ref b :: rest) (d : decode cc pc = .ok (.invokevirtual index, 3)) (hw2 : wput w is wc' = w2) (kk : ∀ (H1 : Heap) (locs1 : List Loc), va_P D vwCl w2 H1 → va_S A s.heap H1 locs1 → W p l e R s m args below meth c H1 locs1 cells slots Q (F0 m (pc + 3) ls (.int (zI r) :: rest))) : W p l e R s m args below meth c H locs cells slots Q (F0 m pc ls st0) := by
  have hD := hDD.d hw
  obtain ⟨hF, hPc, hU⟩ := cPre_of (av := (.ref b :: As)) hE hP hD hS is hC hn
  refine va_calli (va_runV (As := As) (rest := rest) S (hM H.size) cw ⟨cPre_blind, by subst hq; exact va_recv hE.1 hPc hci (q0 := 0) (by rw [hrec]; rfl), hU⟩ rfl hlen hsize hst (lv_room hcat) d ⟨by simpa using hz.1, by simpa using hz.2⟩) hS (fun q _ h => hF q h) hF (fun r1 u t H1 locs1 ht hvm hw1 hB hz1 hk1 hS1 => ?_)
  rw [ht] at hB
  subst hw1
  exact kk H1 locs1 (hw2 ▸ wput_P hP hD is hC ha hk1 hB) hS1
theorem cV_l {y : MethodName} {bytes : ByteArray} {maxL nL n index : Nat} {ret : Option FieldType} {ws : List Cond} {rm : Room} {Ts : List Cond} {own : String} {As st0 : List Value} {b ci : Nat} {r : Int} (S : CallFix p m c cc nL s args Ts own) (hM : CtL l y ws rm D cy sa (.ref b :: As) wc wc' r) {C : String} {q : vw_C} {fs : List Value} {wc0 : va_W} (cw : CallW R s args own C index y bytes maxL ret ws rm 0 0 n) (hrec : wc = (b, .inr (ci, fs)) :: wc0) (hci : vwCl[ci]? = some q) (hq : q.1 = C) (hE : Ev D cy sa A s) (hP : va_P D vwCl w H) (hDD : DD A as) (hw : w.map Prod.fst = as) (hS : va_S A s.heap H locs) (is : List Nat) (hC : is.map (fun i => w[i]?) = wc.map some) (hn : va_nd is = true) (ha : wc'.map Prod.fst = wc.map Prod.fst) (hlen : As.length = n) (hsize : ls.size = nL) (hcat : (rest.map fun v => v.category).sum ≤ 8) (hz : cells ≤ R.cells ∧ slots ≤ R.slots) (hst : st0 = As.reverse ++ .ref b :: rest) (d : decode cc pc = .ok (.invokevirtual index, 3)) (hw2 : wput w is wc' = w2) (kk : ∀ (H1 : Heap) (locs1 : List Loc), va_P D vwCl w2 H1 → va_S A s.heap H1 locs1 → W p l e R s m args below meth c H1 locs1 cells slots Q (F0 m (pc + 3) ls (.long (zL r) :: rest))) : W p l e R s m args below meth c H locs cells slots Q (F0 m pc ls st0) := by
  have hD := hDD.d hw
  obtain ⟨hF, hPc, hU⟩ := cPre_of (av := (.ref b :: As)) hE hP hD hS is hC hn
  refine va_calll (va_runV (As := As) (rest := rest) S (hM H.size) cw ⟨cPre_blind, by subst hq; exact va_recv hE.1 hPc hci (q0 := 0) (by rw [hrec]; rfl), hU⟩ rfl hlen hsize hst (lv_room hcat) d ⟨by simpa using hz.1, by simpa using hz.2⟩) hS (fun q _ h => hF q h) hF (fun r1 u t H1 locs1 ht hvm hw1 hB hz1 hk1 hS1 => ?_)
  rw [ht] at hB
  subst hw1
  exact kk H1 locs1 (hw2 ▸ wput_P hP hD is hC ha hk1 hB) hS1
theorem cV_v {y : MethodName} {bytes : ByteArray} {maxL nL n index : Nat} {ret : Option FieldType} {ws : List Cond} {rm : Room} {Ts : List Cond} {own : String} {As st0 : List Value} {b ci : Nat}  (S : CallFix p m c cc nL s args Ts own) (hM : CtV l y ws rm D cy sa (.ref b :: As) wc wc' ) {C : String} {q : vw_C} {fs : List Value} {wc0 : va_W} (cw : CallW R s args own C index y bytes maxL ret ws rm 0 0 n) (hrec : wc = (b, .inr (ci, fs)) :: wc0) (hci : vwCl[ci]? = some q) (hq : q.1 = C) (hE : Ev D cy sa A s) (hP : va_P D vwCl w H) (hDD : DD A as) (hw : w.map Prod.fst = as) (hS : va_S A s.heap H locs) (is : List Nat) (hC : is.map (fun i => w[i]?) = wc.map some) (hn : va_nd is = true) (ha : wc'.map Prod.fst = wc.map Prod.fst) (hlen : As.length = n) (hsize : ls.size = nL) (hcat : (rest.map fun v => v.category).sum ≤ 8) (hz : cells ≤ R.cells ∧ slots ≤ R.slots) (hst : st0 = As.reverse ++ .ref b :: rest) (d : decode cc pc = .ok (.invokevirtual index, 3)) (hw2 : wput w is wc' = w2) (kk : ∀ (H1 : Heap) (locs1 : List Loc), va_P D vwCl w2 H1 → va_S A s.heap H1 locs1 → W p l e R s m args below meth c H1 locs1 cells slots Q (F0 m (pc + 3) ls (rest))) : W p l e R s m args below meth c H locs cells slots Q (F0 m pc ls st0) := by
  have hD := hDD.d hw
  obtain ⟨hF, hPc, hU⟩ := cPre_of (av := (.ref b :: As)) hE hP hD hS is hC hn
  refine va_callv (va_runV (As := As) (rest := rest) S (hM H.size) cw ⟨cPre_blind, by subst hq; exact va_recv hE.1 hPc hci (q0 := 0) (by rw [hrec]; rfl), hU⟩ rfl hlen hsize hst (lv_room hcat) d ⟨by simpa using hz.1, by simpa using hz.2⟩) hS (fun q _ h => hF q h) hF (fun u t H1 locs1 ht hvm hw1 hB hz1 hk1 hS1 => ?_)
  rw [ht] at hB
  exact kk H1 locs1 (hw2 ▸ wput_P hP hD is hC ha hk1 hB) hS1
theorem cV_r {y : MethodName} {bytes : ByteArray} {maxL nL n index : Nat} {ret : Option FieldType} {ws : List Cond} {rm : Room} {Ts : List Cond} {own : String} {As st0 : List Value} {b ci : Nat} {r : Nat} (S : CallFix p m c cc nL s args Ts own) (hM : CtR l y ws rm D cy sa (.ref b :: As) wc wc' r) {C : String} {q : vw_C} {fs : List Value} {wc0 : va_W} (cw : CallW R s args own C index y bytes maxL ret ws rm 0 0 n) (hrec : wc = (b, .inr (ci, fs)) :: wc0) (hci : vwCl[ci]? = some q) (hq : q.1 = C) (hE : Ev D cy sa A s) (hP : va_P D vwCl w H) (hDD : DD A as) (hw : w.map Prod.fst = as) (hS : va_S A s.heap H locs) (is : List Nat) (hC : is.map (fun i => w[i]?) = wc.map some) (hn : va_nd is = true) (ha : wc'.map Prod.fst = wc.map Prod.fst) (hlen : As.length = n) (hsize : ls.size = nL) (hcat : (rest.map fun v => v.category).sum ≤ 8) (hz : cells ≤ R.cells ∧ slots ≤ R.slots) (hst : st0 = As.reverse ++ .ref b :: rest) (d : decode cc pc = .ok (.invokevirtual index, 3)) (hw2 : wput w is wc' = w2) (kk : ∀ (H1 : Heap) (locs1 : List Loc), va_P D vwCl w2 H1 → va_S A s.heap H1 locs1 → W p l e R s m args below meth c H1 locs1 cells slots Q (F0 m (pc + 3) ls (.ref r :: rest))) : W p l e R s m args below meth c H locs cells slots Q (F0 m pc ls st0) := by
  have hD := hDD.d hw
  obtain ⟨hF, hPc, hU⟩ := cPre_of (av := (.ref b :: As)) hE hP hD hS is hC hn
  refine va_callr (va_runV (As := As) (rest := rest) S (hM H.size) cw ⟨cPre_blind, by subst hq; exact va_recv hE.1 hPc hci (q0 := 0) (by rw [hrec]; rfl), hU⟩ rfl hlen hsize hst (lv_room hcat) d ⟨by simpa using hz.1, by simpa using hz.2⟩) hS (fun q _ h => hF q h) hF (fun u r1 t H1 locs1 ht hvm hw1 hB hz1 hk1 hS1 => ?_)
  obtain ⟨hr1, hB⟩ := hB
  rw [ht] at hB
  subst hr1
  exact kk H1 locs1 (hw2 ▸ wput_P hP hD is hC ha hk1 hB) hS1
theorem cS_i {y : MethodName} {bytes : ByteArray} {maxL nL n index : Nat} {ret : Option FieldType} {ws : List Cond} {rm : Room} {Ts : List Cond} {own : String} {As st0 : List Value} {r : Int} (S : CallFix p m c cc nL s args Ts own) (hM : CtI l y ws rm D cy sa As wc wc' r) (cw : CallB R s args own index y bytes maxL ret ws rm 0 0 n ∧ (Cond.static y).before args s = true) (hE : Ev D cy sa A s) (hP : va_P D vwCl w H) (hDD : DD A as) (hw : w.map Prod.fst = as) (hS : va_S A s.heap H locs) (is : List Nat) (hC : is.map (fun i => w[i]?) = wc.map some) (hn : va_nd is = true) (ha : wc'.map Prod.fst = wc.map Prod.fst) (hlen : As.length = n) (hsize : ls.size = nL) (hcat : (rest.map fun v => v.category).sum ≤ 8) (hz : cells ≤ R.cells ∧ slots ≤ R.slots) (hst : st0 = As.reverse ++ rest) (d : decode cc pc = .ok (.invokestatic index, 3)) (hw2 : wput w is wc' = w2) (kk : ∀ (H1 : Heap) (locs1 : List Loc), va_P D vwCl w2 H1 → va_S A s.heap H1 locs1 → W p l e R s m args below meth c H1 locs1 cells slots Q (F0 m (pc + 3) ls (.int (zI r) :: rest))) : W p l e R s m args below meth c H locs cells slots Q (F0 m pc ls st0) := by
  have hD := hDD.d hw
  obtain ⟨hF, hPc, hU⟩ := cPre_of (av := As) hE hP hD hS is hC hn
  refine va_calli (va_runS (As := As) (rest := rest) S (hM H.size) cw ⟨cPre_blind, hU⟩ rfl hlen hsize hst (lv_room hcat) d ⟨by simpa using hz.1, by simpa using hz.2⟩) hS (fun q _ h => hF q h) hF (fun r1 u t H1 locs1 ht hvm hw1 hB hz1 hk1 hS1 => ?_)
  rw [ht] at hB
  subst hw1
  exact kk H1 locs1 (hw2 ▸ wput_P hP hD is hC ha hk1 hB) hS1
theorem cS_l {y : MethodName} {bytes : ByteArray} {maxL nL n index : Nat} {ret : Option FieldType} {ws : List Cond} {rm : Room} {Ts : List Cond} {own : String} {As st0 : List Value} {r : Int} (S : CallFix p m c cc nL s args Ts own) (hM : CtL l y ws rm D cy sa As wc wc' r) (cw : CallB R s args own index y bytes maxL ret ws rm 0 0 n ∧ (Cond.static y).before args s = true) (hE : Ev D cy sa A s) (hP : va_P D vwCl w H) (hDD : DD A as) (hw : w.map Prod.fst = as) (hS : va_S A s.heap H locs) (is : List Nat) (hC : is.map (fun i => w[i]?) = wc.map some) (hn : va_nd is = true) (ha : wc'.map Prod.fst = wc.map Prod.fst) (hlen : As.length = n) (hsize : ls.size = nL) (hcat : (rest.map fun v => v.category).sum ≤ 8) (hz : cells ≤ R.cells ∧ slots ≤ R.slots) (hst : st0 = As.reverse ++ rest) (d : decode cc pc = .ok (.invokestatic index, 3)) (hw2 : wput w is wc' = w2) (kk : ∀ (H1 : Heap) (locs1 : List Loc), va_P D vwCl w2 H1 → va_S A s.heap H1 locs1 → W p l e R s m args below meth c H1 locs1 cells slots Q (F0 m (pc + 3) ls (.long (zL r) :: rest))) : W p l e R s m args below meth c H locs cells slots Q (F0 m pc ls st0) := by
  have hD := hDD.d hw
  obtain ⟨hF, hPc, hU⟩ := cPre_of (av := As) hE hP hD hS is hC hn
  refine va_calll (va_runS (As := As) (rest := rest) S (hM H.size) cw ⟨cPre_blind, hU⟩ rfl hlen hsize hst (lv_room hcat) d ⟨by simpa using hz.1, by simpa using hz.2⟩) hS (fun q _ h => hF q h) hF (fun r1 u t H1 locs1 ht hvm hw1 hB hz1 hk1 hS1 => ?_)
  rw [ht] at hB
  subst hw1
  exact kk H1 locs1 (hw2 ▸ wput_P hP hD is hC ha hk1 hB) hS1
theorem cS_v {y : MethodName} {bytes : ByteArray} {maxL nL n index : Nat} {ret : Option FieldType} {ws : List Cond} {rm : Room} {Ts : List Cond} {own : String} {As st0 : List Value}  (S : CallFix p m c cc nL s args Ts own) (hM : CtV l y ws rm D cy sa As wc wc' ) (cw : CallB R s args own index y bytes maxL ret ws rm 0 0 n ∧ (Cond.static y).before args s = true) (hE : Ev D cy sa A s) (hP : va_P D vwCl w H) (hDD : DD A as) (hw : w.map Prod.fst = as) (hS : va_S A s.heap H locs) (is : List Nat) (hC : is.map (fun i => w[i]?) = wc.map some) (hn : va_nd is = true) (ha : wc'.map Prod.fst = wc.map Prod.fst) (hlen : As.length = n) (hsize : ls.size = nL) (hcat : (rest.map fun v => v.category).sum ≤ 8) (hz : cells ≤ R.cells ∧ slots ≤ R.slots) (hst : st0 = As.reverse ++ rest) (d : decode cc pc = .ok (.invokestatic index, 3)) (hw2 : wput w is wc' = w2) (kk : ∀ (H1 : Heap) (locs1 : List Loc), va_P D vwCl w2 H1 → va_S A s.heap H1 locs1 → W p l e R s m args below meth c H1 locs1 cells slots Q (F0 m (pc + 3) ls (rest))) : W p l e R s m args below meth c H locs cells slots Q (F0 m pc ls st0) := by
  have hD := hDD.d hw
  obtain ⟨hF, hPc, hU⟩ := cPre_of (av := As) hE hP hD hS is hC hn
  refine va_callv (va_runS (As := As) (rest := rest) S (hM H.size) cw ⟨cPre_blind, hU⟩ rfl hlen hsize hst (lv_room hcat) d ⟨by simpa using hz.1, by simpa using hz.2⟩) hS (fun q _ h => hF q h) hF (fun u t H1 locs1 ht hvm hw1 hB hz1 hk1 hS1 => ?_)
  rw [ht] at hB
  exact kk H1 locs1 (hw2 ▸ wput_P hP hD is hC ha hk1 hB) hS1
theorem cN_i {y : MethodName} {bytes : ByteArray} {maxL nL n index : Nat} {ret : Option FieldType} {ws : List Cond} {rm : Room} {Ts : List Cond} {own : String} {As st0 : List Value} {r : Int} (S : CallFix p m c cc nL s args Ts own) (hM : CtI l y ws rm D cy sa As wc wc' r) {host : String} (cw : va_CN R s args own index y host bytes maxL ret ws rm 0 0 n ∧ (Cond.static y).before args s = true ∧ True) (hE : Ev D cy sa A s) (hP : va_P D vwCl w H) (hDD : DD A as) (hw : w.map Prod.fst = as) (hS : va_S A s.heap H locs) (is : List Nat) (hC : is.map (fun i => w[i]?) = wc.map some) (hn : va_nd is = true) (ha : wc'.map Prod.fst = wc.map Prod.fst) (hlen : As.length = n) (hsize : ls.size = nL) (hcat : (rest.map fun v => v.category).sum ≤ 8) (hz : cells ≤ R.cells ∧ slots ≤ R.slots) (hst : st0 = As.reverse ++ rest) (d : decode cc pc = .ok (.invokestatic index, 3)) (hw2 : wput w is wc' = w2) (kk : ∀ (H1 : Heap) (locs1 : List Loc), va_P D vwCl w2 H1 → va_S A s.heap H1 locs1 → W p l e R s m args below meth c H1 locs1 cells slots Q (F0 m (pc + 3) ls (.int (zI r) :: rest))) : W p l e R s m args below meth c H locs cells slots Q (F0 m pc ls st0) := by
  have hD := hDD.d hw
  obtain ⟨hF, hPc, hU⟩ := cPre_of (av := As) hE hP hD hS is hC hn
  refine va_calli (va_runSN (As := As) (rest := rest) S (hM H.size) cw ⟨cPre_blind, hU⟩ rfl hlen hsize hst (lv_room hcat) d ⟨by simpa using hz.1, by simpa using hz.2⟩) hS (fun q _ h => hF q h) hF (fun r1 u t H1 locs1 ht hvm hw1 hB hz1 hk1 hS1 => ?_)
  rw [ht] at hB
  subst hw1
  exact kk H1 locs1 (hw2 ▸ wput_P hP hD is hC ha hk1 hB) hS1
theorem cN_l {y : MethodName} {bytes : ByteArray} {maxL nL n index : Nat} {ret : Option FieldType} {ws : List Cond} {rm : Room} {Ts : List Cond} {own : String} {As st0 : List Value} {r : Int} (S : CallFix p m c cc nL s args Ts own) (hM : CtL l y ws rm D cy sa As wc wc' r) {host : String} (cw : va_CN R s args own index y host bytes maxL ret ws rm 0 0 n ∧ (Cond.static y).before args s = true ∧ True) (hE : Ev D cy sa A s) (hP : va_P D vwCl w H) (hDD : DD A as) (hw : w.map Prod.fst = as) (hS : va_S A s.heap H locs) (is : List Nat) (hC : is.map (fun i => w[i]?) = wc.map some) (hn : va_nd is = true) (ha : wc'.map Prod.fst = wc.map Prod.fst) (hlen : As.length = n) (hsize : ls.size = nL) (hcat : (rest.map fun v => v.category).sum ≤ 8) (hz : cells ≤ R.cells ∧ slots ≤ R.slots) (hst : st0 = As.reverse ++ rest) (d : decode cc pc = .ok (.invokestatic index, 3)) (hw2 : wput w is wc' = w2) (kk : ∀ (H1 : Heap) (locs1 : List Loc), va_P D vwCl w2 H1 → va_S A s.heap H1 locs1 → W p l e R s m args below meth c H1 locs1 cells slots Q (F0 m (pc + 3) ls (.long (zL r) :: rest))) : W p l e R s m args below meth c H locs cells slots Q (F0 m pc ls st0) := by
  have hD := hDD.d hw
  obtain ⟨hF, hPc, hU⟩ := cPre_of (av := As) hE hP hD hS is hC hn
  refine va_calll (va_runSN (As := As) (rest := rest) S (hM H.size) cw ⟨cPre_blind, hU⟩ rfl hlen hsize hst (lv_room hcat) d ⟨by simpa using hz.1, by simpa using hz.2⟩) hS (fun q _ h => hF q h) hF (fun r1 u t H1 locs1 ht hvm hw1 hB hz1 hk1 hS1 => ?_)
  rw [ht] at hB
  subst hw1
  exact kk H1 locs1 (hw2 ▸ wput_P hP hD is hC ha hk1 hB) hS1
theorem cN_v {y : MethodName} {bytes : ByteArray} {maxL nL n index : Nat} {ret : Option FieldType} {ws : List Cond} {rm : Room} {Ts : List Cond} {own : String} {As st0 : List Value}  (S : CallFix p m c cc nL s args Ts own) (hM : CtV l y ws rm D cy sa As wc wc' ) {host : String} (cw : va_CN R s args own index y host bytes maxL ret ws rm 0 0 n ∧ (Cond.static y).before args s = true ∧ True) (hE : Ev D cy sa A s) (hP : va_P D vwCl w H) (hDD : DD A as) (hw : w.map Prod.fst = as) (hS : va_S A s.heap H locs) (is : List Nat) (hC : is.map (fun i => w[i]?) = wc.map some) (hn : va_nd is = true) (ha : wc'.map Prod.fst = wc.map Prod.fst) (hlen : As.length = n) (hsize : ls.size = nL) (hcat : (rest.map fun v => v.category).sum ≤ 8) (hz : cells ≤ R.cells ∧ slots ≤ R.slots) (hst : st0 = As.reverse ++ rest) (d : decode cc pc = .ok (.invokestatic index, 3)) (hw2 : wput w is wc' = w2) (kk : ∀ (H1 : Heap) (locs1 : List Loc), va_P D vwCl w2 H1 → va_S A s.heap H1 locs1 → W p l e R s m args below meth c H1 locs1 cells slots Q (F0 m (pc + 3) ls (rest))) : W p l e R s m args below meth c H locs cells slots Q (F0 m pc ls st0) := by
  have hD := hDD.d hw
  obtain ⟨hF, hPc, hU⟩ := cPre_of (av := As) hE hP hD hS is hC hn
  refine va_callv (va_runSN (As := As) (rest := rest) S (hM H.size) cw ⟨cPre_blind, hU⟩ rfl hlen hsize hst (lv_room hcat) d ⟨by simpa using hz.1, by simpa using hz.2⟩) hS (fun q _ h => hF q h) hF (fun u t H1 locs1 ht hvm hw1 hB hz1 hk1 hS1 => ?_)
  rw [ht] at hB
  exact kk H1 locs1 (hw2 ▸ wput_P hP hD is hC ha hk1 hB) hS1
theorem cT_i {y : MethodName} {bytes : ByteArray} {maxL nL n index : Nat} {ret : Option FieldType} {ws : List Cond} {rm : Room} {Ts : List Cond} {own : String} {As st0 : List Value} {r : Int} {k : Nat} (S : CallFix p m c cc nL s args Ts own) (hM : CtI l y ws rm D cy sa (.ref (sa (10 + k)) :: As) wc wc' r) (cw : CallW R s args own "java/lang/String" index y bytes maxL ret ws rm 0 0 n) (hk : k < 6) (hE : Ev D cy sa A s) (hP : va_P D vwCl w H) (hDD : DD A as) (hw : w.map Prod.fst = as) (hS : va_S A s.heap H locs) (is : List Nat) (hC : is.map (fun i => w[i]?) = wc.map some) (hn : va_nd is = true) (ha : wc'.map Prod.fst = wc.map Prod.fst) (hlen : As.length = n) (hsize : ls.size = nL) (hcat : (rest.map fun v => v.category).sum ≤ 8) (hz : cells ≤ R.cells ∧ slots ≤ R.slots) (hst : st0 = As.reverse ++ .ref (sa (10 + k)) :: rest) (d : decode cc pc = .ok (.invokevirtual index, 3)) (hw2 : wput w is wc' = w2) (kk : ∀ (H1 : Heap) (locs1 : List Loc), va_P D vwCl w2 H1 → va_S A s.heap H1 locs1 → W p l e R s m args below meth c H1 locs1 cells slots Q (F0 m (pc + 3) ls (.int (zI r) :: rest))) : W p l e R s m args below meth c H locs cells slots Q (F0 m pc ls st0) := by
  have hD := hDD.d hw
  obtain ⟨hF, hPc, hU⟩ := cPre_of (av := (.ref (sa (10 + k)) :: As)) hE hP hD hS is hC hn
  refine va_calli (va_runV (As := As) (rest := rest) S (hM H.size) cw ⟨cPre_blind, vk_recv hE.2.1.2.2.2.2.2.1 hk hS, hU⟩ rfl hlen hsize hst (lv_room hcat) d ⟨by simpa using hz.1, by simpa using hz.2⟩) hS (fun q _ h => hF q h) hF (fun r1 u t H1 locs1 ht hvm hw1 hB hz1 hk1 hS1 => ?_)
  rw [ht] at hB
  subst hw1
  exact kk H1 locs1 (hw2 ▸ wput_P hP hD is hC ha hk1 hB) hS1
end WC
