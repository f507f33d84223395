theorem dcO_inj {k : Nat} (hk : k < 12) {o o' : Int32} (h1 : ¬ o = nI k) (h2 : ¬ o' = nI k) (h : dcO (nI k) 1 o = dcO (nI k) 1 o') : o = o' := by
  have one : ¬ (1 : Int32) = 0 := by decide
  have up : ∀ x : Int32, nI k < x → ∃ a, k < a ∧ a < 2 ^ 31 ∧ x = nI a := by
    intro x hx
    have h0 : ¬ x < 0 := fun q => by
      have h3 := Int32.lt_trans hx q
      exact i_nlt.mpr (nI_pos' (show k < 2 ^ 31 by omega)) h3
    obtain ⟨a, ha, rfl⟩ := nI_of h0
    refine ⟨a, ?_, ha, rfl⟩
    apply Nat.lt_of_not_le
    intro hle
    exact absurd hx (i_nlt.mpr ((nI_leI ha (by omega)).mpr hle))
  unfold dcO at h
  by_cases g1 : nI k < o
  · obtain ⟨a, ha, ha2, rfl⟩ := up o g1
    rw [if_pos ⟨one, g1⟩, nI_pr (by omega)] at h
    by_cases g2 : nI k < o'
    · obtain ⟨b, hb, hb2, rfl⟩ := up o' g2
      rw [if_pos ⟨one, g2⟩, nI_pr (by omega)] at h
      have := (nI_eq (by omega) (by omega)).mp h
      congr 1
      omega
    · rw [if_neg (fun q => g2 q.2)] at h
      exfalso
      have g3 : nI k ≤ nI (a - 1) := (nI_leI (by omega) (by omega)).mpr (by omega)
      rw [h] at g3
      exact h2 (Int32.le_antisymm (i_nlt.mp g2) g3)
  · rw [if_neg (fun q => g1 q.2)] at h
    by_cases g2 : nI k < o'
    · obtain ⟨b, hb, hb2, rfl⟩ := up o' g2
      rw [if_pos ⟨one, g2⟩, nI_pr (by omega)] at h
      exfalso
      have g3 : nI k ≤ nI (b - 1) := (nI_leI (by omega) (by omega)).mpr (by omega)
      rw [← h] at g3
      exact h1 (Int32.le_antisymm (i_nlt.mp g1) g3)
    · rw [if_neg (fun q => g2 q.2)] at h
      exact h
theorem IV_drop {T : Nat} {v : Nat → Int32} {k : Nat} (h : IV T v) (hc : cntOk v) (hk : k < nW v) : IV T (dropV v k (nW v)) := by
  have h12 := hc.2.1
  obtain ⟨d1, d2, d3⟩ := drop_c hk hc
  have hle := (fgA_n v (nI k) 1 hc.2.2.2).2.2
  have bo : ∀ j, j < 36 → j ≠ 6 → j ≠ 11 → dropV v k (nW v) j = v j := fun j h1 h2 h3 => by rw [drop_lo hk (by omega) h3 h12, dr1_o h2 (by omega) hk]
  obtain ⟨⟨a1, a2, a3, a4, a5, a6⟩, b', c', d, e, f, g, i⟩ := h
  refine ⟨?_, fun i hi => ?_, fun i hi => ?_, fun l hl => ?_, fun i j hi hj h1 h2 => ?_, ?_, ?_, by rw [d3]; omega⟩
  · rw [bo _ (by omega) (by omega) (by omega), bo _ (by omega) (by omega) (by omega), bo _ (by omega) (by omega) (by omega), bo _ (by omega) (by omega) (by omega), bo _ (by omega) (by omega) (by omega), bo _ (by omega) (by omega) (by omega)]
    exact ⟨a1, a2, a3, a4, a5, a6⟩
  · rw [bo _ (by omega) (by omega) (by omega)]; exact b' i hi
  · rw [d2] at hi
    rw [drop_lo hk (by omega) (by omega) h12, drop_lo hk (by omega) (by omega) h12, drop_lo hk (by omega) (by omega) h12]
    by_cases hik : k ≤ i
    · rw [dr1_s (by omega) (by omega), dr1_s (by omega) (by omega), dr1_s (by omega) (by omega)]
      exact c' (i + 1) (by omega)
    · rw [dr1_o (by omega) (by omega) hk, dr1_o (by omega) (by omega) hk, dr1_o (by omega) (by omega) hk]
      exact c' i (by omega)
  · rw [d3] at hl
    obtain ⟨s1, s2, s3, s4⟩ := drop_e hk h12 hl
    rw [s2, s4]
    exact d _ (kidx_ok (p := kpP v (nI k)) (g := fun _ => 0) hl).2.1
  · rw [d3] at hi hj
    obtain ⟨s1, s2, s3, s4⟩ := drop_e hk h12 hi
    obtain ⟨t1, t2, t3, t4⟩ := drop_e hk h12 hj
    rw [s1, t1] at h1
    rw [s2, t2] at h2
    have ki := (kidx_ok (p := kpP v (nI k)) (g := fun _ => 0) hi).2
    have kj := (kidx_ok (p := kpP v (nI k)) (g := fun _ => 0) hj).2
    exact kidx_inj hi hj (e _ _ ki.1 kj.1 (dcO_inj (by omega) (of_decide_eq_true ki.2) (of_decide_eq_true kj.2) h1) h2)
  · rw [bo _ (by omega) (by omega) (by omega), ← f]
    exact sumF_c fun i hi => bo _ (by omega) (by omega) (by omega)
  · rw [bo _ (by omega) (by omega) (by omega), ← g]
    exact sumF_c fun i hi => bo _ (by omega) (by omega) (by omega)
