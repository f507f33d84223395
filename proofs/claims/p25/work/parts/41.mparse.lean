/-! ===== the reference: the pad is read ===== -/
abbrev pS : Type := Nat × Bool
def tkC (f : Nat → Int32) (L : Nat) (s : pS) : Int32 := if s.1 < L then f s.1 else 0
def tk (f : Nat → Int32) (L : Nat) (s : pS) (lo hi : Int32) : pS := if s.2 = false ∧ inB (tkC f L s) lo hi = true then (s.1 + 1, false) else (s.1, true)
def nx (f : Nat → Int32) (L : Nat) (s : pS) (lo hi : Int32) : Bool := !s.2 && decide (s.1 < L) && inB (f s.1) lo hi
def stOf (M : wMem) : pS := ((wI M 252 7).toNatClampNeg, decide (¬ wI M 252 8 = 0))
def lenM (M : wMem) : Nat := (wI M 252 6).toNatClampNeg
def TG (M : wMem) : Prop := MLay M ∧ wI M 252 7 = nI (stOf M).1 ∧ (stOf M).1 ≤ 60 ∧ wI M 252 8 = b2i ((stOf M).2 = true) ∧ wI M 252 6 = nI (lenM M) ∧ lenM M ≤ 60
def setP (M : wMem) (s : pS) : wMem := wSetF M 252 (up1 (up1 (wI M 252) 8 (b2i (s.2 = true))) 7 (nI s.1))
/-! memories along a reading -/
theorem tk_le {f : Nat → Int32} {L : Nat} {s : pS} {lo hi : Int32} (hL : L ≤ 60) (hlo : 0 < lo) (h : s.1 ≤ 60) : (tk f L s lo hi).1 ≤ 60 := by
  unfold tk
  split
  · next hc =>
    by_cases hs : s.1 < L
    · simp only; omega
    · have := hc.2
      simp only [tkC, if_neg hs] at this
      have := (of_decide_eq_true this).1
      exact absurd hlo (i_nlt.mpr this)
  · exact h
theorem stOf_set {M : wMem} {s : pS} (h : s.1 ≤ 60) : stOf (setP M s) = s := by
  obtain ⟨p, w⟩ := s
  simp only at h
  unfold stOf setP
  rw [wF_I, if_pos rfl, up1_eq, up1_ne _ _ _ (by decide), up1_eq, nI_clamp (by omega)]
  cases w <;> simp [b2i]
theorem lenM_set {M : wMem} {s : pS} : lenM (setP M s) = lenM M := by
  unfold lenM setP
  rw [wF_I, if_pos rfl, up1_ne _ _ _ (by decide), up1_ne _ _ _ (by decide)]
theorem pad_set {M : wMem} {s : pS} : wI (setP M s) 257 = wI M 257 := by unfold setP; rw [wF_I, if_neg (by decide)]
theorem set_set {M : wMem} {s s' : pS} : setP (setP M s) s' = setP M s' := by
  unfold setP
  rw [wF_I, if_pos rfl, wF_F]
  congr 1
  funext j
  simp only [up1]
  repeat' split
  all_goals first | rfl | omega
theorem TG_set {M : wMem} {s : pS} (h : TG M) (hs : s.1 ≤ 60) : TG (setP M s) := by
  refine ⟨h.1, ?_, ?_, ?_, ?_, ?_⟩
  · rw [stOf_set hs]; simp [setP, wF_I, up1]
  · rw [stOf_set hs]; exact hs
  · rw [stOf_set hs]; simp [setP, wF_I, up1]
  · rw [lenM_set]; simpa [setP, wF_I, up1] using h.2.2.2.2.1
  · rw [lenM_set]; exact h.2.2.2.2.2
