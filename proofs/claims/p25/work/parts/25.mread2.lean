/-! ===== the reference: the leading answer, its weight, its lead, the places ===== -/
theorem loopD {P : Nat → Prop} {n : Nat} (h0 : P n) (h : ∀ k, k < n → P (k + 1) → P k) : ∀ k, k ≤ n → P k :=
  loopN (fun k hk ih => if q : k < n then h k q (ih q) else by rw [show k = n by omega]; exact h0)
theorem i_leF (x y : Int32) : (x ≤ y) = ¬ (y < x) := propext ⟨fun h => i_nlt.mpr h, fun h => i_nlt.mp h⟩
def mLead (v : Nat → Int32) (w : Int32) : Option Nat := leadO (eO v) (eW v) w (sN v)
def mWt (v : Nat → Int32) (w : Int32) : Int32 := oV (mLead v w) (eW v)
def mLo (v : Nat → Int32) (w : Int32) : Int32 := mWt v w - othM (eO v) (eW v) w (mLead v w) (sN v)