theorem m2_t (M : wMem) (s : pS) (t : Nat → Int32) : wI (mem2 M s t) 258 = t := by unfold mem2; rw [wF_I, if_pos rfl]
theorem m2_o (M : wMem) (s : pS) (t : Nat → Int32) {q : Nat} (h1 : q ≠ 252) (h2 : q ≠ 258) : wI (mem2 M s t) q = wI M q := by unfold mem2 setP; rw [wF_I, if_neg h2, wF_I, if_neg h1]
/-! know -/
def knS (M : wMem) : pS × Int32 := tl (wI M 257) (lenM M) (0, false)
def knW (M : wMem) : Bool := (knS M).1.2 || decide ((knS M).1.1 < lenM M)
def knM0 (M : wMem) : wMem := mem2 M (knS M).1 (wI M 258)
def knM (M : wMem) (b : Int32) : wMem := addM (wSetI (knM0 M) 252 6 0) 0 b (knS M).2
def qKnow (v : Nat → Int32) (w : Bool) (b : Int32) : Int32 := if inB b 0 9 = true then (if w = true then -3 else if nW v = 12 then -4 else v 6) else -2