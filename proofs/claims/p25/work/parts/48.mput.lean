/-! ===== the reference: characters are put ===== -/
/-- the number without its k last characters, and its last one then -/
def chS (x : Int64) (k : Nat) : Int64 := (x.toUInt64 >>> ((8 * nI k : Int32).toInt64.toUInt64 &&& Int64.toUInt64 63)).toInt64
def chC (x : Int64) (k : Nat) : Int32 := (chS x k &&& 255).toInt32
def chZ (x : Int64) (k : Nat) : Bool := decide (0 < k ∧ chS x k = 0)
def chO (x : Int64) (k : Nat) : Bool := inB (chC x k) 33 126
def ptM (x : Int64) : Nat → Nat
  | 0 => 0
  | k + 1 => if chZ x k = true then ptM x k else ptM x k + 1
def ptB (x : Int64) : Nat → Bool
  | 0 => false
  | k + 1 => ptB x k || (!chZ x k && !chO x k)
theorem ptM_le (x : Int64) : ∀ k, ptM x k ≤ k
  | 0 => Nat.le_refl 0
  | k + 1 => by
    have := ptM_le x k
    simp only [ptM]
    split <;> omega
def ptF (f : Nat → Int32) (x : Int64) (L n : Nat) (k : Nat) : Nat → Int32 := fun j => if L + n - k ≤ j ∧ j < L + n then chC x (L + n - 1 - j) else f j
theorem ptF_0 (f : Nat → Int32) (x : Int64) (L n : Nat) : ptF f x L n 0 = f := by funext j; simp only [ptF]; rw [if_neg (by omega)]
theorem ptF_s (f : Nat → Int32) (x : Int64) (L n k : Nat) (hk : k < n) : up1 (ptF f x L n k) (L + n - 1 - k) (chC x k) = ptF f x L n (k + 1) := by
  funext j
  simp only [up1, ptF]
  by_cases h1 : j = L + n - 1 - k
  · subst h1
    rw [if_pos rfl, if_pos (by omega)]
    congr 1
    omega
  · by_cases h2 : L + n - k ≤ j ∧ j < L + n
    · rw [if_neg h1, if_pos h2, if_pos (by omega)]
    · rw [if_neg h1, if_neg h2, if_neg (by omega)]
def qPut (x : Int64) (L : Nat) : Int32 := if ptB x 8 = true then -2 else if 60 < L + ptM x 8 then -4 else nI (L + ptM x 8)
def putOk (x : Int64) (L : Nat) : Bool := decide (ptB x 8 = false ∧ ¬ 60 < L + ptM x 8)
def putM (M : wMem) (x : Int64) : wMem := wSetF (wSetF M 252 (up1 (wI M 252) 6 (nI (lenM M + ptM x 8)))) 257 (ptF (wI M 257) x (lenM M) (ptM x 8) (ptM x 8))
theorem lcmp0 (y : Int64) : (lg_cmp y (Int64.ofNat 0) = 0) = (y = 0) := by
  show (lg_cmp y 0 = 0) = (y = 0)
  by_cases h0 : y = 0
  · subst h0; decide
  · refine propext ⟨fun h => ?_, fun h => absurd h h0⟩
    unfold lg_cmp at h
    rw [if_neg h0] at h
    split at h
    · exact absurd h (by decide)
    · exact absurd h (by decide)