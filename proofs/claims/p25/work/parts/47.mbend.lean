def bendV (v : Nat → Int32) (k : Nat) (b : Int32) : Nat → Int32 := up1 (up1 (zroN (fgA v (nI k) 0) (36 + 6 * k) 6) (36 + 6 * k) 1) (37 + 6 * k) b
def qBend (v : Nat → Int32) (w b : Int32) : Int32 := if isW v w = true then (if inB b 0 9 = true then (if v (36 + 6 * w.toNatClampNeg) = 0 then -5 else v (36 + 6 * w.toNatClampNeg)) else -2) else -1
def bendOk (v : Nat → Int32) (w b : Int32) : Bool := decide (isW v w = true ∧ inB b 0 9 = true ∧ ¬ v (36 + 6 * w.toNatClampNeg) = 0)
theorem recM_s (M : wMem) : wI (recM M) 253 = wI M 253 := rec_o M (by decide) (by decide)
def shN (u : Nat → Int32) (b m : Nat) : Nat → Int32 := fun j => if b ≤ j ∧ j < b + m then u (j + 6) else u j
theorem shN_0 (u : Nat → Int32) (b : Nat) : shN u b 0 = u := by funext j; simp only [shN]; rw [if_neg (by omega)]
theorem shN_r (u : Nat → Int32) (b m : Nat) : shN u b m (b + m + 6) = u (b + m + 6) := by simp only [shN]; rw [if_neg (by omega)]
theorem shN_s (u : Nat → Int32) (b m : Nat) : up1 (shN u b m) (b + m) (u (b + m + 6)) = shN u b (m + 1) := by
  funext j
  simp only [up1, shN]
  by_cases h1 : j = b + m
  · subst h1; simp
  · by_cases h2 : b ≤ j ∧ j < b + m
    · simp [h1, h2, show j < b + (m + 1) by omega]
    · rw [if_neg h1, if_neg h2, if_neg (by omega)]
def drop6 (v : Nat → Int32) (k n : Nat) : Nat → Int32 := up1 (fgA v (nI k) 1) 6 (nI (n - 1))
def dropV (v : Nat → Int32) (k n : Nat) : Nat → Int32 := zroN (shN (drop6 v k n) (36 + 6 * k) (6 * (n - 1 - k))) (36 + 6 * (n - 1)) 6
def qDrop (v : Nat → Int32) (w : Int32) : Int32 := if isW v w = true then v (36 + 6 * w.toNatClampNeg) else -1
theorem fgA_lo (v : Nat → Int32) (w d : Int32) {j : Nat} (h : j < 108) (h2 : j ≠ 11) : fgA v w d j = v j := by
  unfold fgA
  rw [up1_ne _ _ _ h2]
  simp only [zroN]
  rw [if_neg (by omega), fgV_hi _ _ _ _ _ (Or.inr h)]