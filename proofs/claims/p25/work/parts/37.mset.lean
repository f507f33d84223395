def layM (M : wMem) (j : Nat) (x : Int32) : wMem := wSetF (recM M) 253 (up1 (wI M 253) j x)
def seLo (a : Int32) : Int32 := if a = 0 then 10 else 0
def seHi (a : Int32) : Int32 := if a = 0 then 400 else if a = 1 then 200 else if a = 2 then 9 else if a = 3 then 60 else if a = 4 then 20 else 50
def okSet (a x : Int32) : Bool := inB a 0 5 && inB x (seLo a) (seHi a)
def okTr (a x : Int32) : Bool := inB a 0 5 && inB x 0 100
def zroN (v : Nat → Int32) (b n : Nat) : Nat → Int32 := fun j => if b ≤ j ∧ j < b + n then 0 else v j
theorem zroN_0 (v : Nat → Int32) (b : Nat) : zroN v b 0 = v := by funext j; simp only [zroN]; rw [if_neg (by omega)]
theorem zroN_s (v : Nat → Int32) (b n : Nat) : up1 (zroN v b n) (b + n) 0 = zroN v b (n + 1) := by
  funext j
  simp only [up1, zroN]
  by_cases h1 : j = b + n
  · subst h1; simp
  · by_cases h2 : b ≤ j ∧ j < b + n
    · simp [h1, h2, show j < b + (n + 1) by omega]
    · rw [if_neg h1, if_neg h2, if_neg (by omega)]
def addV (v : Nat → Int32) (n : Nat) (kd bend code : Int32) : Nat → Int32 := up1 (up1 (up1 (zroN (up1 v 6 (nI (n + 1))) (36 + 6 * n) 6) (36 + 6 * n) kd) (37 + 6 * n) bend) (38 + 6 * n) code
def addM (M : wMem) (kd bend code : Int32) : wMem := wSetF (recM M) 253 (addV (wI M 253) (nW (wI M 253)) kd bend code)
def AG (M : wMem) : Prop := KG M ∧ wI M 253 6 = nI (nW (wI M 253)) ∧ nW (wI M 253) < 12
theorem zx1 (k j : Nat) : nI (36 + 6 * k) + nI j = nI (36 + 6 * k + j) := nI_add _ _
def qAdd (v : Nat → Int32) (b : Int32) : Int32 := if inB b 0 9 = true then (if nW v = 12 then -4 else v 6) else -2