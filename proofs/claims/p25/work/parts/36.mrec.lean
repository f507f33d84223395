/-! ===== the reference: calls that change; memories as rows laid over rows ===== -/
def wSetF (M : wMem) (a : Nat) (f : Nat → Int32) : wMem := (wZ M, wS M, fun q j => if q = a then f j else wI M q j, wP M)
def up1 (f : Nat → Int32) (k : Nat) (x : Int32) : Nat → Int32 := fun j => if j = k then x else f j
theorem up1_e (f : Nat → Int32) (k : Nat) (x : Int32) (j : Nat) : up1 f k x j = if j = k then x else f j := rfl
theorem up1_eq (f : Nat → Int32) (k : Nat) (x : Int32) : up1 f k x k = x := by simp [up1]
theorem up1_ne (f : Nat → Int32) (k : Nat) (x : Int32) {j : Nat} (h : j ≠ k) : up1 f k x j = f j := by simp [up1, h]
theorem up1_upd (f : Nat → Int32) (k : Nat) (x y : Int32) : up1 (up1 f k x) k y = up1 f k y := by funext j; simp only [up1]; split <;> rfl
theorem wM_ext {M N : wMem} (h1 : wZ M = wZ N) (h2 : wS M = wS N) (h3 : ∀ q j, wI M q j = wI N q j) (h4 : wP M = wP N) : M = N := by
  obtain ⟨z, s, i, p⟩ := M
  obtain ⟨z', s', i', p'⟩ := N
  have e1 : z = z' := h1
  have e2 : s = s' := h2
  have e3 : i = i' := funext fun q => funext fun j => h3 q j
  have e4 : p = p' := h4
  rw [e1, e2, e3, e4]
theorem wF_a (M : wMem) (a : Nat) (f : Nat → Int32) (q j : Nat) : wI (wSetF M a f) q j = if q = a then f j else wI M q j := rfl
theorem wSetI_F (M : wMem) (a k : Nat) (x : Int32) : wSetI M a k x = wSetF M a (up1 (wI M a) k x) := by
  refine wM_ext rfl rfl (fun q j => ?_) rfl
  rw [wF_a, wI_setI]
  by_cases h : q = a
  · subst h; simp [up1]
  · simp [h]
theorem wF_I (M : wMem) (a : Nat) (f : Nat → Int32) (q : Nat) : wI (wSetF M a f) q = if q = a then f else wI M q := by
  funext j
  rw [wF_a]
  split <;> rfl
theorem wF_S (M : wMem) (a : Nat) (f : Nat → Int32) : wS (wSetF M a f) = wS M := rfl
theorem wF_P (M : wMem) (a : Nat) (f : Nat → Int32) : wP (wSetF M a f) = wP M := rfl
theorem wF_Z (M : wMem) (a : Nat) (f : Nat → Int32) : wZ (wSetF M a f) = wZ M := rfl
theorem wF_F (M : wMem) (a : Nat) (f g : Nat → Int32) : wSetF (wSetF M a f) a g = wSetF M a g := by
  refine wM_ext rfl rfl (fun q j => ?_) rfl
  rw [wF_a, wF_a, wF_a]
  split <;> rfl
theorem wF_C (M : wMem) (a b : Nat) (f g : Nat → Int32) (h : b < a) : wSetF (wSetF M a f) b g = wSetF (wSetF M b g) a f := by
  refine wM_ext rfl rfl (fun q j => ?_) rfl
  rw [wF_a, wF_a, wF_a, wF_a]
  by_cases h1 : q = b
  · subst h1; simp [show ¬ q = a by omega]
  · simp [h1]
theorem wF_id (M : wMem) (a : Nat) : wSetF M a (wI M a) = M := by
  refine wM_ext rfl rfl (fun q j => ?_) rfl
  rw [wF_a]
  by_cases h : q = a
  · subst h; simp
  · simp [h]
theorem iDup_r (K : wKt) (pc : Nat) (ls : wLs) (M : wMem) (k n a : Nat) (r : List Value) : iDup K pc ls (.ref a :: r) M k n = K (pc + 1) ls (.ref a :: .ref a :: r) M k n := iDup_e K pc ls M k n (.ref a) r rfl
theorem iDup_i (K : wKt) (pc : Nat) (ls : wLs) (M : wMem) (k n : Nat) (a : Int32) (r : List Value) : iDup K pc ls (.int a :: r) M k n = K (pc + 1) ls (.int a :: .int a :: r) M k n := iDup_e K pc ls M k n (.int a) r rfl
theorem iDup2_ir (K : wKt) (pc : Nat) (ls : wLs) (M : wMem) (k n : Nat) (x : Int32) (a : Nat) (r : List Value) : iDup2 K pc ls (.int x :: .ref a :: r) M k n = K (pc + 1) ls (.int x :: .ref a :: .int x :: .ref a :: r) M k n := iDup2_e K pc ls M k n (.int x) (.ref a) r rfl rfl
def mK (M : wMem) : Nat := (wI M 252 2).toNatClampNeg
def KG (M : wMem) : Prop := MLay M ∧ wI M 252 2 = nI (mK M) ∧ mK M ≤ 6
def hShift (n : Nat) (h : Nat → Int32) : Nat → Int32 := fun j => if j < n then h (j + 828) else h j
def hPut (n : Nat) (h s : Nat → Int32) (K : Nat) : Nat → Int32 := fun j => if 828 * K ≤ j ∧ j < 828 * K + n then s (j - 828 * K) else h j
def segN (n : Nat) (h v : Nat → Int32) (K : Nat) : Nat → Int32 := fun j => if j < n then h (828 * K + j) else v j
def rcH (h s : Nat → Int32) (K : Nat) : Nat → Int32 := if K = 6 then hPut 828 (hShift 4140 h) s 5 else hPut 828 h s K
def rcK (K : Nat) : Nat := if K = 6 then 6 else K + 1
def recM (M : wMem) : wMem := wSetF (wSetF M 252 (up1 (wI M 252) 2 (nI (rcK (mK M))))) 254 (rcH (wI M 254) (wI M 253) (mK M))
theorem hShift_0 (h : Nat → Int32) : hShift 0 h = h := by funext j; simp [hShift]
theorem hShift_r (n : Nat) (h : Nat → Int32) : hShift n h (n + 828) = h (n + 828) := by simp only [hShift]; rw [if_neg (by omega)]
theorem hShift_s (n : Nat) (h : Nat → Int32) : up1 (hShift n h) n (h (n + 828)) = hShift (n + 1) h := by
  funext j
  simp only [up1, hShift]
  by_cases h1 : j = n
  · subst h1; simp
  · by_cases h2 : j < n
    · simp [h1, h2, show j < n + 1 by omega]
    · simp [h1, h2, show ¬ j < n + 1 by omega]
theorem hPut_0 (h s : Nat → Int32) (K : Nat) : hPut 0 h s K = h := by funext j; simp only [hPut]; rw [if_neg (by omega)]
theorem hPut_s (n : Nat) (h s : Nat → Int32) (K : Nat) : up1 (hPut n h s K) (828 * K + n) (s n) = hPut (n + 1) h s K := by
  funext j
  simp only [up1, hPut]
  by_cases h1 : j = 828 * K + n
  · subst h1; simp
  · by_cases h2 : 828 * K ≤ j ∧ j < 828 * K + n
    · simp [h1, h2, show j < 828 * K + (n + 1) by omega]
    · rw [if_neg h1, if_neg h2, if_neg (by omega)]
theorem segN_0 (h v : Nat → Int32) (K : Nat) : segN 0 h v K = v := by funext j; simp [segN]
theorem segN_s (n : Nat) (h v : Nat → Int32) (K : Nat) : up1 (segN n h v K) n (h (828 * K + n)) = segN (n + 1) h v K := by
  funext j
  simp only [up1, segN]
  by_cases h1 : j = n
  · subst h1; simp
  · by_cases h2 : j < n
    · simp [h1, h2, show j < n + 1 by omega]
    · simp [h1, h2, show ¬ j < n + 1 by omega]
theorem m828 (K : Nat) : (828 : Int32) * nI K = nI (828 * K) := pk_mul 828 K
theorem a828 (K : Nat) : nI K + (828 : Int32) = nI (K + 828) := nI_add K 828
theorem six_p : (6 : Int32) - 1 = 5 := rfl
theorem nI_1s (k : Nat) : nI k + 1 = nI (k + 1) := nI_1 k