section WL
variable {p : Program} {l : Launch} {e : Env} {R : Room} {s : State} {m : MethodId} {args : Array Value} {below : List Frame} {meth : Method} {c : Code} {H : Heap} {locs : List Loc} {cells slots : Nat} {Q : State → Prop} {cc : ByteArray} {pc : Nat} {ls : Array Slot} {rest : List Value} {D : va_G} {cy : Nat → ClassId} {sa : Nat → Nat} {A : Nat → Prop} {w w2 wc wc' : va_W} {as : List Nat}

theorem inR_s {i sL : Int} (h : 0 ≤ i ∧ i < sL) (hs : inR sL) : inR i := by constructor <;> omega
theorem wi_sld (hx : p.tables.exec = Jvm.exec) (hb : c.code = cc) {b L : Nat} {sc : Nat → Int} {sL : Int} (hX : va_X b L (fun k => zI (sc k)) s s.heap) (hbl : b < s.heap.size) (hbA : ¬ A b) (hS : va_S A s.heap H locs) (hsL : sL = (L : Int)) (hsr : inR sL) {i : Int} (hin : 0 ≤ i ∧ i < sL) (d : decode cc pc = .ok (.iaload, 1)) (k : W p l e R s m args below meth c H locs cells slots Q (F0 m (pc + 1) ls (.int (zI (sc i.toNat)) :: rest))) : W p l e R s m args below meth c H locs cells slots Q (F0 m pc ls (.int (zI i) :: .ref b :: rest)) := by
  subst hsL
  refine va_sld hx hb hX hbl hbA hS (zI_in hin (by omega)) d ?_
  rw [zI_cl hin (by omega)]
  exact k
theorem wi_slen (hx : p.tables.exec = Jvm.exec) (hb : c.code = cc) {b L : Nat} {sc : Nat → Int} {sL : Int} (hX : va_X b L (fun k => zI (sc k)) s s.heap) (hbl : b < s.heap.size) (hbA : ¬ A b) (hS : va_S A s.heap H locs) (hsL : sL = (L : Int)) (d : decode cc pc = .ok (.arraylength, 1)) (k : W p l e R s m args below meth c H locs cells slots Q (F0 m (pc + 1) ls (.int (zI sL) :: rest))) : W p l e R s m args below meth c H locs cells slots Q (F0 m pc ls (.ref b :: rest)) := by
  subst hsL
  refine va_slen hx hb hX hbl hbA hS d ?_
  have e9 : Int32.ofNat L = zI (L : Int) := (zI_nat L).symm
  rw [e9]
  exact k
end WL
