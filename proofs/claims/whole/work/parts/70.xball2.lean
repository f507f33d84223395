def bal4 (M : wMem) (f0 f1 f2 f3 : Nat → Int32) : wMem := wSetF (wSetF (wSetF (wSetF M 11 f0) 12 f1) 13 f2) 14 f3
theorem b4_S (M : wMem) (f0 f1 f2 f3 : Nat → Int32) : wS (bal4 M f0 f1 f2 f3) = wS M := by unfold bal4; rw [wF_S, wF_S, wF_S, wF_S]
theorem b4_P (M : wMem) (f0 f1 f2 f3 : Nat → Int32) : wP (bal4 M f0 f1 f2 f3) = wP M := by unfold bal4; rw [wF_P, wF_P, wF_P, wF_P]
theorem b4_I (M : wMem) (f0 f1 f2 f3 : Nat → Int32) (q : Nat) : wI (bal4 M f0 f1 f2 f3) q = if q = 11 then f0 else if q = 12 then f1 else if q = 13 then f2 else if q = 14 then f3 else wI M q := by
  unfold bal4
  rw [wF_I, wF_I, wF_I, wF_I]
  by_cases h1 : q = 11
  · subst h1; simp
  · by_cases h2 : q = 12
    · subst h2; simp
    · by_cases h3 : q = 13
      · subst h3; simp
      · by_cases h4 : q = 14
        · subst h4; simp
        · simp [h1, h2, h3, h4]
theorem b4_Z (M : wMem) (f0 f1 f2 f3 : Nat → Int32) : wZ (bal4 M f0 f1 f2 f3) = wZ M := by unfold bal4; rw [wF_Z, wF_Z, wF_Z, wF_Z]
theorem wS_si (M : wMem) (a k : Nat) (x : Int32) : wS (wSetI M a k x) = wS M := rfl
theorem wP_si (M : wMem) (a k : Nat) (x : Int32) : wP (wSetI M a k x) = wP M := rfl
theorem b4_w (M : wMem) (f0 f1 f2 f3 : Nat → Int32) (k : Nat) (x : Int32) : wSetI (bal4 M f0 f1 f2 f3) 11 k x = bal4 M (up1 f0 k x) f1 f2 f3 := by
  refine wM_ext (by rw [wZ_setI, b4_Z, b4_Z]) (by rw [wS_si, b4_S, b4_S]) (fun q j => ?_) (by rw [wP_si, b4_P, b4_P])
  rw [wI_setI, b4_I, b4_I]
  by_cases h1 : q = 11
  · subst h1; by_cases h : j = k <;> simp [h, up1]
  · simp [h1]
theorem b4_l (M : wMem) (f0 f1 f2 f3 : Nat → Int32) (k : Nat) (x : Int32) : wSetI (bal4 M f0 f1 f2 f3) 12 k x = bal4 M f0 (up1 f1 k x) f2 f3 := by
  refine wM_ext (by rw [wZ_setI, b4_Z, b4_Z]) (by rw [wS_si, b4_S, b4_S]) (fun q j => ?_) (by rw [wP_si, b4_P, b4_P])
  rw [wI_setI, b4_I, b4_I]
  by_cases h1 : q = 12
  · subst h1; by_cases h : j = k <;> simp [h, up1]
  · simp [h1]
theorem b4_v (M : wMem) (f0 f1 f2 f3 : Nat → Int32) (k : Nat) (x : Int32) : wSetI (bal4 M f0 f1 f2 f3) 13 k x = bal4 M f0 f1 (up1 f2 k x) f3 := by
  refine wM_ext (by rw [wZ_setI, b4_Z, b4_Z]) (by rw [wS_si, b4_S, b4_S]) (fun q j => ?_) (by rw [wP_si, b4_P, b4_P])
  rw [wI_setI, b4_I, b4_I]
  by_cases h1 : q = 13
  · subst h1; by_cases h : j = k <;> simp [h, up1]
  · simp [h1]
theorem b4_g (M : wMem) (f0 f1 f2 f3 : Nat → Int32) (k : Nat) (x : Int32) : wSetI (bal4 M f0 f1 f2 f3) 14 k x = bal4 M f0 f1 f2 (up1 f3 k x) := by
  refine wM_ext (by rw [wZ_setI, b4_Z, b4_Z]) (by rw [wS_si, b4_S, b4_S]) (fun q j => ?_) (by rw [wP_si, b4_P, b4_P])
  rw [wI_setI, b4_I, b4_I]
  by_cases h1 : q = 14
  · subst h1; by_cases h : j = k <;> simp [h, up1]
  · simp [h1]
theorem b4_id (M : wMem) : bal4 M (wI M 11) (wI M 12) (wI M 13) (wI M 14) = M := by
  refine wM_ext (b4_Z _ _ _ _ _) (b4_S _ _ _ _ _) (fun q j => ?_) (b4_P _ _ _ _ _)
  rw [b4_I]
  by_cases h1 : q = 11
  · subst h1; simp
  · by_cases h2 : q = 12
    · subst h2; simp
    · by_cases h3 : q = 13
      · subst h3; simp
      · by_cases h4 : q = 14
        · subst h4; simp
        · simp [h1, h2, h3, h4]
