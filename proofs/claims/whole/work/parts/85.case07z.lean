theorem wput_c {w w1 w2 : va_W} {i : Nat} {is : List Nat} {q : Nat × va_E} {qs : va_W} (h : w.set i q = w1) (k : wput w1 is qs = w2) : wput w (i :: is) (q :: qs) = w2 := by
  subst h; exact k
