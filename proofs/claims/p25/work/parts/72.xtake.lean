theorem cntOk_o {v v' : Nat → Int32} (h : cntOk v) (h6 : v' 6 = v 6) (h11 : v' 11 = v 11) : cntOk v' ∧ nW v' = nW v ∧ sN v' = sN v := by
  have e1 : nW v' = nW v := by unfold nW; rw [h6]
  have e2 : sN v' = sN v := by unfold sN; rw [h11]
  exact ⟨⟨by rw [h6, e1]; exact h.1, by rw [e1]; exact h.2.1, by rw [h11, e2]; exact h.2.2.1, by rw [e2]; exact h.2.2.2⟩, e1, e2⟩
theorem RV_wd {M N : wMem} {v v' : Nat → Int32} (hS : SL 6 M) (hV : RV 6 M v) {k q : Nat} (hk : k < nW v) (hq : wP M 9 k = some q) (hNp : wP N = wP M) (hN : ∀ p, p ≠ q → p ≠ 6 → wI N p = wI M p)
    (h6 : wI N 6 4 = wI M 6 4 ∧ wI N 6 5 = v' 9 ∧ wI N 6 6 = v' 10) (ho : ∀ j, ¬ (36 + 6 * k ≤ j ∧ j < 42 + 6 * k) → j ≠ 9 → j ≠ 10 → v' j = v j) (hw : RVw N q v' k) : RV 6 N v' := by
  obtain ⟨g0, g1, ⟨g2, g3, g4⟩, g5, g6, g7, g8⟩ := hV
  have h12 := g0.2.1
  obtain ⟨c1, c2, c3⟩ := cntOk_o (v' := v') g0 (ho 6 (by omega) (by decide) (by decide)) (ho 11 (by omega) (by decide) (by decide))
  have hsw := hS.2.2.2.2.1
  obtain ⟨r, hr, e1, -⟩ := hsw k (by omega)
  have eq : q = 6 + 15 + r := Option.some.inj (hq.symm.trans e1)
  refine ⟨c1, fun i hi => ?_, ⟨?_, h6.2.1, h6.2.2⟩, fun i hi => ?_, fun i hi q2 hq2 => ?_, ?_, fun j hj => ?_⟩
  · rw [hN _ (by omega) (by omega), ho _ (by omega) (by omega) (by omega)]; exact g1 i hi
  · rw [h6.1, ho _ (by omega) (by omega) (by omega)]; exact g2
  · have := g5 i hi
    unfold RVs at *
    rw [hN _ (by omega) (by omega), ho _ (by omega) (by omega) (by omega), ho _ (by omega) (by omega) (by omega), ho _ (by omega) (by omega) (by omega), ho _ (by omega) (by omega) (by omega)]
    exact this
  · rw [c2] at hi
    rw [hNp] at hq2
    have hq2 : wP M 9 i = some q2 := hq2
    by_cases hik : i = k
    · subst hik
      have e2 : q2 = q := Option.some.inj (hq2.symm.trans hq)
      rw [e2]
      exact hw
    · obtain ⟨r2, hr2, e3, -⟩ := hsw i (by omega)
      have e4 : q2 = 6 + 15 + r2 := Option.some.inj (hq2.symm.trans e3)
      have hne : q2 ≠ q := by
        intro e
        rw [e] at hq2
        exact hik (hS.2.2.2.2.2 i k (by omega) (by omega) (hq2.trans hq.symm))
      have := g6 i hi q2 hq2
      unfold RVw at *
      rw [hN _ hne (by omega), ho _ (by omega) (by omega) (by omega), ho _ (by omega) (by omega) (by omega), ho _ (by omega) (by omega) (by omega), ho _ (by omega) (by omega) (by omega), ho _ (by omega) (by omega) (by omega), ho _ (by omega) (by omega) (by omega)]
      exact this
  · rw [hN _ (by omega) (by omega), ho _ (by omega) (by omega) (by omega)]; exact g7
  · rw [c3] at hj
    have h17 := g0.2.2.2
    have := g8 j hj
    unfold RVe eO eH eM eW at *
    rw [hN _ (by omega) (by omega), hN _ (by omega) (by omega), hN _ (by omega) (by omega), hN _ (by omega) (by omega), ho _ (by omega) (by omega) (by omega), ho _ (by omega) (by omega) (by omega), ho _ (by omega) (by omega) (by omega), ho _ (by omega) (by omega) (by omega)]
    exact this
theorem RV_sol {M N : wMem} {v v' : Nat → Int32} (hS : SL 6 M) (hV : RV 6 M v) {s : Nat} (hs : s < 6) (hNp : wP N = wP M) (hN : ∀ p, p ≠ 15 + s → wI N p = wI M p) (ho : ∀ j, ¬ (12 + 4 * s ≤ j ∧ j < 16 + 4 * s) → j ≠ 7 → j ≠ 8 → v' j = v j) (hw : RVs N (15 + s) v' s) : RV 6 N v' := by
  obtain ⟨g0, g1, ⟨g2, g3, g4⟩, g5, g6, g7, g8⟩ := hV
  have h12 := g0.2.1
  obtain ⟨c1, c2, c3⟩ := cntOk_o (v' := v') g0 (ho 6 (by omega) (by decide) (by decide)) (ho 11 (by omega) (by decide) (by decide))
  refine ⟨c1, fun i hi => ?_, ⟨?_, ?_, ?_⟩, fun i hi => ?_, fun i hi q2 hq2 => ?_, ?_, fun j hj => ?_⟩
  · rw [hN _ (by omega), ho _ (by omega) (by omega) (by omega)]; exact g1 i hi
  · rw [hN _ (by omega), ho _ (by omega) (by omega) (by omega)]; exact g2
  · rw [hN _ (by omega), ho _ (by omega) (by omega) (by omega)]; exact g3
  · rw [hN _ (by omega), ho _ (by omega) (by omega) (by omega)]; exact g4
  · by_cases his : i = s
    · subst his; exact hw
    · have := g5 i hi
      unfold RVs at *
      rw [hN _ (by omega), ho _ (by omega) (by omega) (by omega), ho _ (by omega) (by omega) (by omega), ho _ (by omega) (by omega) (by omega), ho _ (by omega) (by omega) (by omega)]
      exact this
  · rw [c2] at hi
    rw [hNp] at hq2
    obtain ⟨r2, hr2, e3, -⟩ := hS.2.2.2.2.1 i (by omega)
    have e4 : q2 = 6 + 15 + r2 := Option.some.inj (hq2.symm.trans e3)
    have := g6 i hi q2 hq2
    unfold RVw at *
    rw [hN _ (by omega), ho _ (by omega) (by omega) (by omega), ho _ (by omega) (by omega) (by omega), ho _ (by omega) (by omega) (by omega), ho _ (by omega) (by omega) (by omega), ho _ (by omega) (by omega) (by omega), ho _ (by omega) (by omega) (by omega)]
    exact this
  · rw [hN _ (by omega), ho _ (by omega) (by omega) (by omega)]; exact g7
  · rw [c3] at hj
    have h17 := g0.2.2.2
    have := g8 j hj
    unfold RVe eO eH eM eW at *
    rw [hN _ (by omega), hN _ (by omega), hN _ (by omega), hN _ (by omega), ho _ (by omega) (by omega) (by omega), ho _ (by omega) (by omega) (by omega), ho _ (by omega) (by omega) (by omega), ho _ (by omega) (by omega) (by omega)]
    exact this
theorem SL_n {M N : wMem} (hS : SL 6 M) (hs : wS N = wS M) (hp : wP N = wP M) : SL 6 N := SL_of hS hs (fun _ _ _ => by rw [hp])
theorem mBec_23 (v : Nat → Int32) (a b : Int32) : mBec v a b = 2 ∨ mBec v a b = 3 := by unfold mBec; split <;> simp
