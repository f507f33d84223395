theorem cntP_s (p : Nat → Bool) (k : Nat) : cntP p (k + 1) = cntP p k + (if p k = true then 1 else 0) := rfl
def plP (f g : Nat → Int32) (j : Nat) (k : Nat) : Bool := decide (f k = f j ∧ (g j < g k ∨ g k = g j ∧ k < j))
def sT (v : Nat → Int32) (k : Nat) : Int32 := v (12 + 4 * k)
def plS (g : Nat → Int32) (j : Nat) (k : Nat) : Bool := decide (g j < g k ∨ g k = g j ∧ k < j)
def sumF (f : Nat → Int32) : Nat → Int32
  | 0 => 0
  | k + 1 => sumF f k + f k
def nW (v : Nat → Int32) : Nat := (v 6).toNatClampNeg
def MH (M : wMem) : Prop := MG M ∧ wI M 253 6 = nI (nW (wI M 253)) ∧ nW (wI M 253) ≤ 12
def wK (v : Nat → Int32) (k : Nat) : Int32 := v (36 + 6 * k)