/-! ===== the reference: votes of a word go ===== -/
def entW (u : Nat → Int32) (n : Nat) (o h m x : Int32) : Nat → Int32 := up1 (up1 (up1 (up1 u (108 + 4 * n) o) (109 + 4 * n) h) (110 + 4 * n) m) (111 + 4 * n) x
def dcO (w d o : Int32) : Int32 := if ¬ d = 0 ∧ w < o then o - 1 else o
def kpP (v : Nat → Int32) (w : Int32) (k : Nat) : Bool := decide (¬ eO v k = w)
def fgV (v : Nat → Int32) (w d : Int32) : Nat → (Nat → Int32)
  | 0 => v
  | k + 1 => if eO v k = w then fgV v w d k else entW (fgV v w d k) (cntP (kpP v w) k) (dcO w d (eO v k)) (eH v k) (eM v k) (eW v k)
theorem fgV_hi (v : Nat → Int32) (w d : Int32) : ∀ k j, 108 + 4 * cntP (kpP v w) k ≤ j ∨ j < 108 → fgV v w d k j = v j
  | 0, j, _ => rfl
  | k + 1, j, h => by
    simp only [cntP] at h
    simp only [fgV]
    by_cases hk : eO v k = w
    · rw [if_pos hk]
      refine fgV_hi v w d k j ?_
      rw [if_neg (by simp [kpP, hk])] at h
      omega
    · rw [if_neg hk]
      rw [if_pos (by simp [kpP, hk])] at h
      simp only [entW]
      rw [up1_ne _ _ _ (by omega), up1_ne _ _ _ (by omega), up1_ne _ _ _ (by omega), up1_ne _ _ _ (by omega)]
      exact fgV_hi v w d k j (by omega)
def fgA (v : Nat → Int32) (w d : Int32) : Nat → Int32 := up1 (zroN (fgV v w d (sN v)) (108 + 4 * cntP (kpP v w) (sN v)) (4 * (sN v - cntP (kpP v w) (sN v)))) 11 (nI (cntP (kpP v w) (sN v)))
theorem z108 : (108 : Int32) = nI 108 := rfl