/-! ===== the rows of the reference stay sound ===== -/
theorem inB_is {x : Int32} {a b : Int32} {n m : Nat} (ha : a = nI n) (hb : b = nI m) (hm : m < 2 ^ 31) (hn : n < 2 ^ 31) (h : inB x a b = true) : isIx x (m + 1) := by
  have h := of_decide_eq_true h
  have h0 : ¬ x < 0 := fun q => i_nlt.mpr h.1 (Int32.lt_of_lt_of_le q (by rw [ha]; exact nI_pos' hn))
  obtain ⟨k, hk, rfl⟩ := nI_of h0
  have h2 := h.2
  rw [hb] at h2
  have h2 := (nI_leI hk hm).mp h2
  exact ⟨by rw [nI_clamp hk], by rw [nI_clamp hk]; omega⟩
theorem IV_set {T : Nat} {v : Nat → Int32} {a x : Int32} (h : IV T v) (hc : cntOk v) (ho : okSet a x = true) : IV T (up1 v a.toNatClampNeg x) := by
  have h12 := hc.2.1
  have h17 := hc.2.2.2
  have ho : inB a 0 5 = true ∧ inB x (seLo a) (seHi a) = true := by simpa [okSet] using ho
  obtain ⟨j, hj, rfl⟩ := inB_k (c := 5) (by decide) ho.1
  rw [nI_clamp (show j < 2 ^ 31 by omega)]
  obtain ⟨d1, d2, d3⟩ := cnt_u (x := x) hc (show j ≠ 6 by omega) (show j ≠ 11 by omega)
  obtain ⟨⟨a1, a2, a3, a4, a5, a6⟩, b, c, d, e, f, g, i⟩ := h
  refine ⟨?_, fun i hi => ?_, fun i hi => ?_, fun k hk => ?_, ?_, ?_, ?_, by rw [d3]; exact i⟩
  · have h2 := ho.2
    have : j = 0 ∨ j = 1 ∨ j = 2 ∨ j = 3 ∨ j = 4 ∨ j = 5 := by omega
    rcases this with rfl | rfl | rfl | rfl | rfl | rfl
    · exact ⟨by rw [up1_eq]; exact inB_is (n := 10) (m := 400) rfl rfl (by decide) (by decide) h2, a2, a3, a4, a5, a6⟩
    · exact ⟨a1, by rw [up1_eq]; exact inB_is (n := 0) (m := 200) rfl rfl (by decide) (by decide) h2, a3, a4, a5, a6⟩
    · exact ⟨a1, a2, by rw [up1_eq]; exact inB_is (n := 0) (m := 9) rfl rfl (by decide) (by decide) h2, a4, a5, a6⟩
    · exact ⟨a1, a2, a3, by rw [up1_eq]; exact inB_is (n := 0) (m := 60) rfl rfl (by decide) (by decide) h2, a5, a6⟩
    · exact ⟨a1, a2, a3, a4, by rw [up1_eq]; exact inB_is (n := 0) (m := 20) rfl rfl (by decide) (by decide) h2, a6⟩
    · exact ⟨a1, a2, a3, a4, a5, by rw [up1_eq]; exact inB_is (n := 0) (m := 50) rfl rfl (by decide) (by decide) h2⟩
  · rw [up1_ne _ _ _ (by omega)]; exact b i hi
  · rw [d2] at hi
    rw [up1_ne _ _ _ (by omega), up1_ne _ _ _ (by omega), up1_ne _ _ _ (by omega)]
    exact c i hi
  · rw [d3] at hk
    rw [eW_u (by omega), eH_u (by omega)]
    exact d k hk
  · rw [d3, eO_u (by omega), eH_u (by omega)]; exact e
  · rw [up1_ne _ _ _ (by omega), ← f]
    exact sumF_c fun i hi => up1_ne _ _ _ (by omega)
  · rw [up1_ne _ _ _ (by omega), ← g]
    exact sumF_c fun i hi => up1_ne _ _ _ (by omega)
theorem IV_trust {T : Nat} {v : Nat → Int32} {a x : Int32} (h : IV T v) (hc : cntOk v) (ho : okTr a x = true) : IV T (up1 v (12 + 4 * a.toNatClampNeg) x) := by
  have h12 := hc.2.1
  have ho : inB a 0 5 = true ∧ inB x 0 100 = true := by simpa [okTr] using ho
  obtain ⟨j, hj, rfl⟩ := inB_k (c := 5) (by decide) ho.1
  rw [nI_clamp (show j < 2 ^ 31 by omega)]
  obtain ⟨d1, d2, d3⟩ := cnt_u (x := x) hc (show 12 + 4 * j ≠ 6 by omega) (show 12 + 4 * j ≠ 11 by omega)
  have hx : isIx x 101 := inB_is (n := 0) (m := 100) rfl rfl (by decide) (by decide) ho.2
  refine IV_o h (fun i hi => up1_ne _ _ _ (by omega)) d2 d3 (fun i hi => ?_) (fun i hi => ?_) (fun i hi => up1_ne _ _ _ (by omega)) ?_ ?_
  · by_cases hij : i = j
    · subst hij; rw [up1_eq]; exact hx
    · rw [up1_ne _ _ _ (by omega)]; exact h.2.1 i hi
  · rw [up1_ne _ _ _ (by omega), up1_ne _ _ _ (by omega), up1_ne _ _ _ (by omega)]
    exact ⟨rfl, fun q => ⟨q, rfl⟩⟩
  · rw [up1_ne _ _ _ (by omega), ← h.2.2.2.2.2.1]
    exact sumF_c fun i hi => up1_ne _ _ _ (by omega)
  · rw [up1_ne _ _ _ (by omega), ← h.2.2.2.2.2.2.1]
    exact sumF_c fun i hi => up1_ne _ _ _ (by omega)
theorem IV_add {T : Nat} {v : Nat → Int32} {kd b c : Int32} (h : IV T v) (hc : cntOk v) (hn : nW v < 12) (hb : isIx b 10) (hk : kd = 1 → c = 0) : IV T (addV v (nW v) kd b c) := by
  obtain ⟨e1, e2⟩ := addV_n (v := v) (kd := kd) (b := b) (c := c) hn
  have ao : ∀ j, j ≠ 6 → ¬ (36 + 6 * nW v ≤ j ∧ j < 42 + 6 * nW v) → addV v (nW v) kd b c j = v j := fun j => addV_o
  obtain ⟨⟨a1, a2, a3, a4, a5, a6⟩, b', c', d, e, f, g, i⟩ := h
  have eo : ∀ k, eO (addV v (nW v) kd b c) k = eO v k := fun k => ao _ (by omega) (by omega)
  have eh : ∀ k, eH (addV v (nW v) kd b c) k = eH v k := fun k => ao _ (by omega) (by omega)
  have ew : ∀ k, eW (addV v (nW v) kd b c) k = eW v k := fun k => ao _ (by omega) (by omega)
  refine ⟨?_, fun i hi => ?_, fun i hi => ?_, fun k hk => ?_, fun i j hi hj => ?_, ?_, ?_, by rw [e2]; exact i⟩
  · rw [ao _ (by omega) (by omega), ao _ (by omega) (by omega), ao _ (by omega) (by omega), ao _ (by omega) (by omega), ao _ (by omega) (by omega), ao _ (by omega) (by omega)]
    exact ⟨a1, a2, a3, a4, a5, a6⟩
  · rw [ao _ (by omega) (by omega)]; exact b' i hi
  · rw [e1] at hi
    by_cases hin : i = nW v
    · subst hin
      rw [addV_1, addV_0, addV_2]
      exact ⟨hb, hk⟩
    · rw [ao _ (by omega) (by omega), ao _ (by omega) (by omega), ao _ (by omega) (by omega)]
      exact c' i (by omega)
  · rw [e2] at hk
    rw [ew, eh]; exact d k hk
  · rw [e2] at hi hj
    rw [eo, eo, eh, eh]; exact e i j hi hj
  · rw [ao _ (by omega) (by omega), ← f]
    exact sumF_c fun i hi => ao _ (by omega) (by omega)
  · rw [ao _ (by omega) (by omega), ← g]
    exact sumF_c fun i hi => ao _ (by omega) (by omega)
theorem IV_bend {T : Nat} {v : Nat → Int32} {k : Nat} {b : Int32} (h : IV T v) (hc : cntOk v) (hk : k < nW v) (hb : isIx b 10) : IV T (bendV v k b) := by
  have h12 := hc.2.1
  obtain ⟨d1, d2, d3⟩ := bend_c (b := b) (show k < 12 by omega) hc
  have hle := (fgA_n v (nI k) 0 hc.2.2.2).2.2
  have bo : ∀ j, j < 108 → j ≠ 11 → ¬ (36 + 6 * k ≤ j ∧ j < 42 + 6 * k) → bendV v k b j = v j := fun j h1 h2 h3 => by rw [bend_lo h1 h2, bgV_o h3]
  obtain ⟨⟨a1, a2, a3, a4, a5, a6⟩, b', c', d, e, f, g, i⟩ := h
  refine ⟨?_, fun i hi => ?_, fun i hi => ?_, fun l hl => ?_, fun i j hi hj h1 h2 => ?_, ?_, ?_, by rw [d3]; omega⟩
  · rw [bo _ (by omega) (by omega) (by omega), bo _ (by omega) (by omega) (by omega), bo _ (by omega) (by omega) (by omega), bo _ (by omega) (by omega) (by omega), bo _ (by omega) (by omega) (by omega), bo _ (by omega) (by omega) (by omega)]
    exact ⟨a1, a2, a3, a4, a5, a6⟩
  · rw [bo _ (by omega) (by omega) (by omega)]; exact b' i hi
  · rw [d2] at hi
    by_cases hik : i = k
    · subst hik
      rw [bend_lo (by omega) (by omega), bend_lo (by omega) (by omega), bend_lo (by omega) (by omega), bgV_1, bgV_0, bgV_z (by omega) (by omega)]
      exact ⟨hb, fun _ => rfl⟩
    · rw [bo _ (by omega) (by omega) (by omega), bo _ (by omega) (by omega) (by omega), bo _ (by omega) (by omega) (by omega)]
      exact c' i hi
  · rw [d3] at hl
    obtain ⟨s1, s2, s3, s4⟩ := bend_e (b := b) (show k < 12 by omega) hl
    rw [s2, s4]
    exact d _ (kidx_ok (p := kpP v (nI k)) (g := fun _ => 0) hl).2.1
  · rw [d3] at hi hj
    obtain ⟨s1, s2, s3, s4⟩ := bend_e (b := b) (show k < 12 by omega) hi
    obtain ⟨t1, t2, t3, t4⟩ := bend_e (b := b) (show k < 12 by omega) hj
    rw [s1, t1] at h1
    rw [s2, t2] at h2
    exact kidx_inj hi hj (e _ _ (kidx_ok (p := kpP v (nI k)) (g := fun _ => 0) hi).2.1 (kidx_ok (p := kpP v (nI k)) (g := fun _ => 0) hj).2.1 h1 h2)
  · rw [bo _ (by omega) (by omega) (by omega), ← f]
    exact sumF_c fun i hi => bo _ (by omega) (by omega) (by omega)
  · rw [bo _ (by omega) (by omega) (by omega), ← g]
    exact sumF_c fun i hi => bo _ (by omega) (by omega) (by omega)
theorem IV_row0 : IV 0 row0 := by
  have n0 : nW row0 = 0 := by decide
  have n1 : sN row0 = 0 := by decide
  refine ⟨⟨?_, ?_, ?_, ?_, ?_, ?_⟩, fun i hi => ?_, fun i hi => by omega, fun k hk => by omega, fun i j hi => by omega, by decide, by decide, by omega⟩
  · exact ⟨by decide, by decide⟩
  · exact ⟨by decide, by decide⟩
  · exact ⟨by decide, by decide⟩
  · exact ⟨by decide, by decide⟩
  · exact ⟨by decide, by decide⟩
  · exact ⟨by decide, by decide⟩
  · have e : row0 (12 + 4 * i) = 50 := by unfold row0; rw [if_neg (by omega), if_pos (by omega)]
    rw [e]
    exact ⟨by decide, by decide⟩
