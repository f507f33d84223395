/-- from the last to the first: the one that p takes, a later found one stays only if c says so -/
def dwn (p : Nat → Bool) (c : Nat → Nat → Bool) (n : Nat) : Nat → Option Nat
  | 0 => none
  | j + 1 => match dwn p c n j with
    | none => if p (n - 1 - j) = true then some (n - 1 - j) else none
    | some f => if p (n - 1 - j) = true ∧ c (n - 1 - j) f = true then some (n - 1 - j) else some f
theorem dwn_lt {p : Nat → Bool} {c : Nat → Nat → Bool} {n : Nat} : ∀ {j f : Nat}, j ≤ n → dwn p c n j = some f → f < n
  | 0, f, _, h => by cases h
  | j + 1, f, hj, h => by
    simp only [dwn] at h
    split at h
    · split at h
      · cases h; omega
      · cases h
    · next e =>
      split at h
      · cases h; omega
      · cases h; exact dwn_lt (by omega) e
def mmP (v : Nat → Int32) (k : Nat) : Bool := decide ((v (36 + 6 * k) = 0 ∨ v (36 + 6 * k) = 2) ∧ 0 < v (39 + 6 * k))
def mmC (v : Nat → Int32) (k f : Nat) : Bool := decide (¬ v (39 + 6 * k) < v (39 + 6 * f))
def qMm (v : Nat → Int32) : Option Nat := dwn (mmP v) (mmC v) (nW v) (nW v)
def nrP (v : Nat → Int32) (k : Nat) : Bool := decide (v (36 + 6 * k) = 1)
def nrC (v : Nat → Int32) (k f : Nat) : Bool := decide (¬ mLck v f < mLck v k)
def qNr (v : Nat → Int32) : Option Nat := dwn (nrP v) (nrC v) (nW v) (nW v)