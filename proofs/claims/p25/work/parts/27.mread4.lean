theorem nI_ne6 {k : Nat} (h : k < 2 ^ 31) : (nI k = -6) = False := eq_false (nI_m6 h)
theorem nI_eqF {a b : Nat} (ha : a < 2 ^ 31) (hb : b < 2 ^ 31) : (nI a = nI b) = (a = b) := propext (nI_eq ha hb)
theorem nI_ltF {a b : Nat} (ha : a < 2 ^ 31) (hb : b < 2 ^ 31) : (nI a < nI b) = (a < b) := propext (nI_ltI ha hb)
/-- the last one -/
def lstP (p : Nat → Bool) : Nat → Option Nat
  | 0 => none
  | k + 1 => if p k = true then some k else lstP p k