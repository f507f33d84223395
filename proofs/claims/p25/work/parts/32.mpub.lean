/-! ===== the reference: the calls that change nothing ===== -/
def MC (v : Nat → Int32) : Prop := (∀ k, k < nW v → isC 27 (v (38 + 6 * k))) ∧ (∀ k, k < sN v → isC 27 (eH v k))
theorem isW_k {v : Nat → Int32} {w : Int32} (h6 : v 6 = nI (nW v)) (h7 : nW v ≤ 12) (h : isW v w = true) : ∃ k, k < nW v ∧ w = nI k := by
  have h := of_decide_eq_true h
  obtain ⟨k, hk, rfl⟩ := nI_of (x := w) (i_nlt.mpr h.1)
  refine ⟨k, ?_, rfl⟩
  have h2 := h.2
  rw [h6] at h2
  by_cases hz : nW v = 0
  · rw [hz] at h2
    exact absurd (Int32.lt_of_le_of_lt h2 (show nI 0 - 1 < 0 by decide)) (nI_pos hk)
  · rw [nI_pr (by omega)] at h2
    have := (nI_leI hk (by omega)).mp h2
    omega
theorem isW_nI {v : Nat → Int32} {k : Nat} (h6 : v 6 = nI (nW v)) (h7 : nW v ≤ 12) (h : k < nW v) : isW v (nI k) = true := by
  refine decide_eq_true ⟨nI_pos' (by omega), ?_⟩
  rw [h6, nI_pr (by omega)]
  exact nI_le (by omega) (by omega)
theorem oi_6 : Int32.ofInt 6 = 6 := rfl
theorem oi_7 : Int32.ofInt 7 = 7 := rfl
theorem oi_8 : Int32.ofInt 8 = 8 := rfl
theorem oi_9 : Int32.ofInt 9 = 9 := rfl
theorem oi_10 : Int32.ofInt 10 = 10 := rfl
theorem oi_11 : Int32.ofInt 11 = 11 := rfl
theorem oi_12 : Int32.ofInt 12 = 12 := rfl
theorem oi_13 : Int32.ofInt 13 = 13 := rfl
theorem oi_14 : Int32.ofInt 14 = 14 := rfl
theorem oi_15 : Int32.ofInt 15 = 15 := rfl
theorem oi_16 : Int32.ofInt 16 = 16 := rfl
theorem oi_17 : Int32.ofInt 17 = 17 := rfl
theorem oi_18 : Int32.ofInt 18 = 18 := rfl
theorem oi_19 : Int32.ofInt 19 = 19 := rfl
theorem oi_20 : Int32.ofInt 20 = 20 := rfl
theorem oi_21 : Int32.ofInt 21 = 21 := rfl
theorem neL {x : Int32} {c : Int} (h : x.toInt < 0 ∨ c < x.toInt) (d : Int32) (hd : 0 ≤ d.toInt ∧ d.toInt ≤ c) : (x = d) = False := eq_false (fun e => by subst e; omega)
def qWord (v : Nat → Int32) (w x : Int32) : Int32 :=
  if isW v w = true then
    if x = 0 then v (36 + 6 * w.toNatClampNeg)
    else if x = 1 then v (37 + 6 * w.toNatClampNeg)
    else if x = 2 then v (40 + 6 * w.toNatClampNeg)
    else if x = 3 then nI (cntP (fun k => decide (eO v k = w)) (sN v))
    else if x = 4 then mWt v w
    else if x = 5 then mLo v w
    else if x = 6 then meanI (v (41 + 6 * w.toNatClampNeg)) (v (40 + 6 * w.toNatClampNeg))
    else if x = 7 then v (39 + 6 * w.toNatClampNeg)
    else if x = 8 then (if v (38 + 6 * w.toNatClampNeg) = 0 then -6 else lMany (dlc 27 (v (38 + 6 * w.toNatClampNeg))))
    else if x < 0 then -2 else lAt (dlc 27 (v (38 + 6 * w.toNatClampNeg))) (x - 9).toNatClampNeg
  else -1
theorem sw_rng {x : Int32} {c : Int} (n : Nat) (hn : n < 2 ^ 31) (hc : c = n) : (x.toInt < 0 ∨ c < x.toInt) → x < 0 ∨ ∃ k, k < 2 ^ 31 ∧ n < k ∧ x = nI k := by
  intro h
  by_cases h0 : x < 0
  · exact Or.inl h0
  · obtain ⟨k, hk, rfl⟩ := nI_of h0
    rw [nI_toInt hk] at h
    exact Or.inr ⟨k, hk, by omega, rfl⟩
theorem nI_subF {a b : Nat} (h : b ≤ a) : nI a - nI b = nI (a - b) := pk_sub h