/-! ===== the class: drop ===== -/
def rotK (p : Nat → Option Nat) (k i : Nat) : Nat → Option Nat := fun j => if k ≤ j ∧ j + 1 < i then p (j + 1) else p j
theorem rotK_0 (p : Nat → Option Nat) (k : Nat) : rotK p k (k + 1) = p := by funext j; simp only [rotK]; rw [if_neg (by omega)]
theorem rotK_r (p : Nat → Option Nat) (k i : Nat) : rotK p k i i = p i := by simp only [rotK]; rw [if_neg (by omega)]
theorem rotK_s (p : Nat → Option Nat) {k i : Nat} (hi : k + 1 ≤ i) : (fun j => if j = i - 1 then p i else rotK p k i j) = rotK p k (i + 1) := by
  funext j
  simp only [rotK]
  by_cases h : j = i - 1
  · subst h
    rw [if_pos rfl, if_pos (by omega)]
    congr 1
    omega
  · rw [if_neg h]
    by_cases h2 : k ≤ j ∧ j + 1 < i
    · rw [if_pos h2, if_pos (by omega)]
    · rw [if_neg h2, if_neg (by omega)]
theorem wPI_sw (M : wMem) (a i b j : Nat) (x : Int32) (y : Option Nat) : wSetP (wSetI M a i x) b j y = wSetI (wSetP M b j y) a i x := Eq.trans rfl rfl
def rmM (M : wMem) (k n q : Nat) : wMem := wSetI (wSetQ M 9 (fun j => if j = n - 1 then some q else rotK (wP M 9) k n j)) 6 4 (nI (n - 1))
def dr1 (v : Nat → Int32) (k n : Nat) : Nat → Int32 := fun j => if j = 6 then nI (n - 1) else if 36 + 6 * k ≤ j ∧ j < 36 + 6 * (n - 1) then v (j + 6) else if 36 + 6 * (n - 1) ≤ j ∧ j < 42 + 6 * (n - 1) then 0 else v j
theorem dr1_o {v : Nat → Int32} {k n : Nat} {j : Nat} (h6 : j ≠ 6) (h : ¬ (36 + 6 * k ≤ j ∧ j < 42 + 6 * (n - 1))) (hk : k < n) : dr1 v k n j = v j := by
  unfold dr1
  rw [if_neg h6, if_neg (by omega), if_neg (by omega)]
theorem dr1_s {v : Nat → Int32} {k n : Nat} {j : Nat} (h1 : 36 + 6 * k ≤ j) (h2 : j < 36 + 6 * (n - 1)) : dr1 v k n j = v (j + 6) := by
  unfold dr1
  rw [if_neg (by omega), if_pos ⟨h1, h2⟩]
theorem dr1_6 {v : Nat → Int32} {k n : Nat} : dr1 v k n 6 = nI (n - 1) := by
  unfold dr1
  rw [if_pos rfl]
theorem drop_lo {v : Nat → Int32} {k n : Nat} (hk : k < n) {j : Nat} (h : j < 108) (h2 : j ≠ 11) (hn : n ≤ 12) : dropV v k n j = dr1 v k n j := by
  unfold dropV drop6 dr1
  simp only [zroN, shN, up1]
  by_cases h6 : j = 6
  · subst h6
    rw [if_neg (by omega), if_neg (by omega), if_pos rfl, if_pos rfl]
  · rw [if_neg h6, if_neg h6]
    by_cases a : 36 + 6 * k ≤ j ∧ j < 36 + 6 * (n - 1)
    · rw [if_neg (by omega), if_pos (by omega), if_neg (by omega), if_pos a, fgA_lo _ _ _ (by omega) (by omega)]
    · rw [if_neg a]
      by_cases b : 36 + 6 * (n - 1) ≤ j ∧ j < 42 + 6 * (n - 1)
      · rw [if_pos (by omega), if_pos b]
      · rw [if_neg (by omega), if_neg (by omega), if_neg b, fgA_lo _ _ _ (by omega) (by omega)]
theorem drop_hi {v : Nat → Int32} {k n : Nat} (hk : k < n) (hn : n ≤ 12) {j : Nat} (h : 108 ≤ j ∨ j = 11) : dropV v k n j = fgA v (nI k) 1 j := by
  unfold dropV drop6
  simp only [zroN, shN, up1]
  rw [if_neg (by omega), if_neg (by omega), if_neg (by omega)]
theorem drop_c {v : Nat → Int32} {k : Nat} (hk : k < nW v) (h : cntOk v) : cntOk (dropV v k (nW v)) ∧ nW (dropV v k (nW v)) = nW v - 1 ∧ sN (dropV v k (nW v)) = fgN v (nI k) := by
  have h12 := h.2.1
  have e6 : dropV v k (nW v) 6 = nI (nW v - 1) := by rw [drop_lo hk (by decide) (by decide) h12, dr1_6]
  have e11 : dropV v k (nW v) 11 = fgA v (nI k) 1 11 := drop_hi hk h12 (Or.inr rfl)
  obtain ⟨f1, f2, f3⟩ := fgA_n v (nI k) 1 h.2.2.2
  have eN : nW (dropV v k (nW v)) = nW v - 1 := by
    show (dropV v k (nW v) 6).toNatClampNeg = _
    rw [e6, nI_clamp (by omega)]
  have eS : sN (dropV v k (nW v)) = fgN v (nI k) := by rw [← f2]; unfold sN; rw [e11]
  exact ⟨⟨by rw [e6, eN], by rw [eN]; omega, by rw [e11, eS]; exact f1, by rw [eS]; have := h.2.2.2; omega⟩, eN, eS⟩
theorem drop_e {v : Nat → Int32} {k : Nat} (hk : k < nW v) (h12 : nW v ≤ 12) {i : Nat} (hi : i < fgN v (nI k)) : eO (dropV v k (nW v)) i = dcO (nI k) 1 (eO v (kidx (kpP v (nI k)) (sN v) i)) ∧ eH (dropV v k (nW v)) i = eH v (kidx (kpP v (nI k)) (sN v) i) ∧ eM (dropV v k (nW v)) i = eM v (kidx (kpP v (nI k)) (sN v) i) ∧ eW (dropV v k (nW v)) i = eW v (kidx (kpP v (nI k)) (sN v) i) := by
  have h := fgA_e v (nI k) 1 hi
  generalize hnn : nW v = n at *
  unfold eO eH eM eW at *
  rw [drop_hi hk h12 (Or.inl (by omega)), drop_hi hk h12 (Or.inl (by omega)), drop_hi hk h12 (Or.inl (by omega)), drop_hi hk h12 (Or.inl (by omega))]
  exact h
theorem dr1_c {v : Nat → Int32} {k : Nat} (hk : k < nW v) (h : cntOk v) : cntOk (dr1 v k (nW v)) ∧ nW (dr1 v k (nW v)) = nW v - 1 ∧ sN (dr1 v k (nW v)) = sN v := by
  have h12 := h.2.1
  have e6 : dr1 v k (nW v) 6 = nI (nW v - 1) := dr1_6
  have e11 : dr1 v k (nW v) 11 = v 11 := dr1_o (by decide) (by omega) hk
  have eN : nW (dr1 v k (nW v)) = nW v - 1 := by
    show (dr1 v k (nW v) 6).toNatClampNeg = _
    rw [e6, nI_clamp (by omega)]
  have eS : sN (dr1 v k (nW v)) = sN v := by unfold sN; rw [e11]
  exact ⟨⟨by rw [e6, eN], by rw [eN]; omega, by rw [e11, eS]; exact h.2.2.1, by rw [eS]; exact h.2.2.2⟩, eN, eS⟩
theorem dr1_eb {v : Nat → Int32} {k n : Nat} (hk : k < n) (hn : n ≤ 12) (i : Nat) : eO (dr1 v k n) i = eO v i ∧ eH (dr1 v k n) i = eH v i ∧ eM (dr1 v k n) i = eM v i ∧ eW (dr1 v k n) i = eW v i := by
  unfold eO eH eM eW
  exact ⟨dr1_o (by omega) (by omega) hk, dr1_o (by omega) (by omega) hk, dr1_o (by omega) (by omega) hk, dr1_o (by omega) (by omega) hk⟩
theorem dr1_k {v : Nat → Int32} {k n : Nat} (hk : k < n) (hn : n ≤ 12) (w : Int32) : kpP (dr1 v k n) w = kpP v w := by
  funext i
  unfold kpP
  rw [(dr1_eb hk hn i).1]
def pxD (k n j : Nat) : Nat := if j = n - 1 then k else if k ≤ j ∧ j < n - 1 then j + 1 else j
theorem px_lt {k n j : Nat} (hk : k < n) (hn : n ≤ 12) (hj : j < 12) : pxD k n j < 12 := by
  unfold pxD
  split
  · omega
  · split <;> omega
theorem px_inj {k n i j : Nat} (hk : k < n) (h : pxD k n i = pxD k n j) : i = j := by
  unfold pxD at h
  by_cases a : i = n - 1
  · rw [if_pos a] at h
    by_cases b : j = n - 1
    · omega
    · rw [if_neg b] at h
      split at h <;> omega
  · rw [if_neg a] at h
    by_cases b : j = n - 1
    · rw [if_pos b] at h
      split at h <;> omega
    · rw [if_neg b] at h
      split at h <;> split at h <;> omega
/-- the words one place on, and the one that goes behind them -/
theorem rm_RV {M : wMem} {v : Nat → Int32} (hS : SL 6 M) (hV : RV 6 M v) {k q : Nat} (hk : k < nW v) (hq : wP M 9 k = some q) : SL 6 (rmM M k (nW v) q) ∧ RV 6 (rmM M k (nW v) q) (dr1 v k (nW v)) ∧ FRn M (rmM M k (nW v) q) := by
  obtain ⟨k1, k2, k3⟩ := dr1_c hk hV.1
  have h12 := hV.1.2.1
  have wss : wS (rmM M k (nW v) q) = wS M := by unfold rmM; rw [nS_f, wQ_S]
  have wi : ∀ a, a ≠ 6 → wI (rmM M k (nW v) q) a = wI M a := fun a ha => by unfold rmM; rw [nI_o _ _ _ _ ha, wQ_I]
  have wi4 : ∀ j, j ≠ 4 → wI (rmM M k (nW v) q) 6 j = wI M 6 j := fun j hj => by unfold rmM; rw [nI_s, if_neg (by omega), wQ_I]
  have w4 : wI (rmM M k (nW v) q) 6 4 = nI (nW v - 1) := by unfold rmM; rw [nI_s, if_pos ⟨rfl, rfl⟩]
  have wpp : ∀ a, a ≠ 9 → wP (rmM M k (nW v) q) a = wP M a := fun a ha => by unfold rmM; funext b; rw [nP_f, wQ_a, if_neg ha]
  have wpw : ∀ j, wP (rmM M k (nW v) q) 9 j = if j = nW v - 1 then some q else rotK (wP M 9) k (nW v) j := fun j => by unfold rmM; rw [nP_f, wQ_a, if_pos rfl]
  have hFR : FRn M (rmM M k (nW v) q) := ⟨by unfold rmM; rw [wZ_setI]; rfl, wss, fun a ha => ⟨wi a (by omega), wpp a (by omega)⟩⟩
  generalize rmM M k (nW v) q = N at *
  generalize hn : nW v = n at *
  have pw : ∀ j, j < 12 → wP N 9 j = wP M 9 (pxD k n j) := by
    intro j hj
    unfold pxD
    rw [wpw]
    by_cases e : j = n - 1
    · rw [if_pos e, if_pos e, hq]
    · rw [if_neg e, if_neg e]
      simp only [rotK]
      by_cases e2 : k ≤ j ∧ j < n - 1
      · rw [if_pos (by omega), if_pos e2]
      · rw [if_neg (by omega), if_neg e2]
  have hSN : SL 6 N := by
    obtain ⟨⟨a1, a2, a3, a4, a5⟩, ⟨b1, b2, b3⟩, d, e, f, g⟩ := hS
    refine ⟨?_, ?_, ?_, ?_, ?_, ?_⟩
    · rw [wss, wpp _ (by decide)]; exact ⟨a1, a2, a3, a4, a5⟩
    · rw [wss]; exact ⟨b1, b2, b3⟩
    · rw [wss, wpp _ (by decide)]; exact d
    · rw [wss, wpp _ (by decide)]; exact e
    · intro i hi
      show ∃ r, r < 12 ∧ wP N 9 i = _ ∧ _
      rw [pw i hi, wss]
      exact f _ (px_lt hk h12 hi)
    · intro i j hi hj hij
      have hij : wP N 9 i = wP N 9 j := hij
      rw [pw i hi, pw j hj] at hij
      exact px_inj hk (g _ _ (px_lt hk h12 hi) (px_lt hk h12 hj) hij)
  refine ⟨hSN, ?_, hFR⟩
  obtain ⟨g0, g1, ⟨g2, g3, g4⟩, g5, g6, g7, g8⟩ := hV
  have do' : ∀ j, j < 36 → j ≠ 6 → dr1 v k n j = v j := fun j h1 h2 => dr1_o h2 (by omega) hk
  refine ⟨k1, fun i hi => ?_, ⟨?_, ?_, ?_⟩, fun i hi => ?_, fun i hi q2 hq2 => ?_, ?_, fun i hi => ?_⟩
  · rw [wi _ (by omega), do' _ (by omega) (by omega)]; exact g1 i hi
  · rw [dr1_6]; exact w4
  · rw [wi4 _ (by decide), do' _ (by omega) (by omega)]; exact g3
  · rw [wi4 _ (by decide), do' _ (by omega) (by omega)]; exact g4
  · have := g5 i hi
    unfold RVs at *
    rw [wi _ (by omega), do' _ (by omega) (by omega), do' _ (by omega) (by omega), do' _ (by omega) (by omega), do' _ (by omega) (by omega)]
    exact this
  · rw [k2] at hi
    have hq2 : wP N 9 i = some q2 := hq2
    rw [pw i (by omega), pxD, if_neg (by omega)] at hq2
    have hlt : (if k ≤ i ∧ i < n - 1 then i + 1 else i) < n := by split <;> omega
    obtain ⟨r, hr, e1, -⟩ := hS.2.2.2.2.1 _ (show (if k ≤ i ∧ i < n - 1 then i + 1 else i) < 12 by omega)
    have e2 : q2 = 6 + 15 + r := Option.some.inj (hq2.symm.trans e1)
    have := g6 _ (by rw [hn]; exact hlt) q2 hq2
    unfold RVw at *
    rw [wi _ (by omega)]
    by_cases e : k ≤ i
    · rw [if_pos ⟨e, hi⟩] at this
      rw [dr1_s (by omega) (by omega), dr1_s (by omega) (by omega), dr1_s (by omega) (by omega), dr1_s (by omega) (by omega), dr1_s (by omega) (by omega), dr1_s (by omega) (by omega)]
      exact this
    · rw [if_neg (by omega)] at this
      rw [dr1_o (by omega) (by omega) hk, dr1_o (by omega) (by omega) hk, dr1_o (by omega) (by omega) hk, dr1_o (by omega) (by omega) hk, dr1_o (by omega) (by omega) hk, dr1_o (by omega) (by omega) hk]
      exact this
  · rw [wi _ (by omega), do' _ (by omega) (by omega)]; exact g7
  · rw [k3] at hi
    have := g8 i hi
    obtain ⟨t1, t2, t3, t4⟩ := dr1_eb (v := v) hk h12 i
    unfold RVe at *
    rw [wi _ (by omega), wi _ (by omega), wi _ (by omega), wi _ (by omega), t1, t2, t3, t4]
    exact this
