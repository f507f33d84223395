theorem b2i_T {h : Decidable True} : @b2i True h = 1 := by simp [b2i]
theorem b2i_F {h : Decidable False} : @b2i False h = 0 := by simp [b2i]
def isIx (w : Int32) (n : Nat) : Prop := w = nI w.toNatClampNeg ∧ w.toNatClampNeg < n
theorem isIx_t {k n : Nat} (h : k < n) (hn : n < 2 ^ 31) : isIx (nI k) n = True := eq_true ⟨by rw [nI_clamp (by omega)], by rw [nI_clamp (by omega)]; exact h⟩
theorem isIx_k {w : Int32} {n : Nat} (h : isIx w n) : ∃ k, k < n ∧ w = nI k := ⟨w.toNatClampNeg, h.2, h.1⟩
def isW (v : Nat → Int32) (w : Int32) : Bool := decide (0 ≤ w ∧ w ≤ v 6 - 1)
def mDue (v : Nat → Int32) (k : Nat) : Int32 := v 0 + 10 * v (37 + 6 * k)
def mAgr (v : Nat → Int32) (k : Nat) (a b : Int32) : Bool := decide (¬ a < mDue v k ∧ ¬ b < v 1)
def mBec (v : Nat → Int32) (a b : Int32) : Int32 := if v 2 < a ∧ ¬ meanI b a < v 3 then 2 else 3
def mLck (v : Nat → Int32) (k : Nat) : Int32 := iMax 0 (iMax (v 1 - mLo v (nI k)) (mDue v k - mWt v (nI k)))