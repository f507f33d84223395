/-! ===== what holds between two calls ===== -/
def INV (t : Nat) (M : wMem) : Prop := ∃ K U, RX M (wI M 253) (wI M 254) K (wI M 255) (wI M 256) ∧ wI M 252 2 = nI K ∧ PD M ∧ MLay M ∧ wZ M = 259 ∧ U + (lenM M + 7) / 8 ≤ t ∧ GR U (wI M 253) ∧ GH U (wI M 254) K ∧ GS U (wI M 255) (wI M 256)
theorem INV_0 {N M P : wMem} (hX : XF N) (hM : AGb 252 N M) (hP : MF M P 6) : INV 0 P := by
  obtain ⟨⟨⟨⟨⟨a1, a2, a3, a4, a5⟩, ⟨b1, b2, b3, b4, b5⟩, ⟨d1, d2, d3, d4, d5, d6⟩, e1, e2⟩, f1, f2, f3⟩, g1, g2, g3⟩, h1, h2, h3, h4⟩ := hX
  obtain ⟨m1, m2, m3, m4, m5, m6, m7⟩ := hP
  have aS : ∀ q, q < 252 → wS P q = wS N q := fun q hq => (m1 q hq).1.trans (hM q hq).1
  have aI : ∀ q, q < 252 → wI P q = wI N q := fun q hq => (m1 q hq).2.1.trans (hM q hq).2.1
  have aP : ∀ q, q < 252 → wP P q = wP N q := fun q hq => (m1 q hq).2.2.trans (hM q hq).2.2
  have sl : ∀ B, B + 27 ≤ 252 → SL B N → SL B P := fun B hB h => SL_lo h (fun q _ _ => aS q (by omega)) (fun q _ _ => aP q (by omega))
  have hlen : lenM P = 0 := by unfold lenM; rw [m5]; rfl
  rw [rowI_6] at m4
  have s0 : wI P 256 0 = 0 := m6 0
  have s1 : wI P 256 1 = 0 := m6 1
  have c0 : cntOk row0 := ⟨by decide, by decide, by decide, by decide⟩
  refine ⟨0, 0, ⟨⟨?_, ?_, ?_, ?_⟩, sl 6 (by omega) e1, ?_, ⟨?_, by omega, fun q hq => sl _ (by omega) (f3 q hq).2, fun i hi => ⟨i, hi, ?_⟩, fun i j hi hj hij => ?_, fun i hi => by omega⟩, ⟨sl _ (by omega) (g3 0 (by omega)).2, sl _ (by omega) (g3 1 (by omega)).2, ⟨?_, ?_⟩, fun q => absurd s0 q, fun q => absurd s1 q⟩⟩, by rw [m5]; rfl, ⟨?_, ?_, by omega, ?_, ?_⟩, m2, m3, by omega, ?_, ⟨by omega, fun i hi => by omega⟩, ⟨fun q => absurd s0 q, fun q => absurd s1 q⟩⟩
  · rw [aS _ (by omega), aP _ (by omega)]; exact ⟨a1, a2, a3, a4, f1, g1, h2⟩
  · rw [aS _ (by omega), aS _ (by omega), aP _ (by omega)]; exact ⟨b1, b2, b3⟩
  · rw [aS _ (by omega), aS _ (by omega), aS _ (by omega), aP _ (by omega)]; exact ⟨d1, d2, d3, d4, d5, d6⟩
  · rw [aS _ (by omega), aS _ (by omega), aS _ (by omega), aP _ (by omega)]; exact ⟨f2, g2, (g3 0 (by omega)).1, (g3 1 (by omega)).1, h3⟩
  · rw [m4]; exact RV_of e1 e2 (fun q _ _ => aP q (by omega)) (fun q _ _ => aI q (by omega))
  · rw [aI _ (by omega), a5]; rfl
  · rw [aP _ (by omega)]; exact (f3 i hi).1
  · rw [aP _ (by omega), (f3 i hi).1, (f3 j hj).1] at hij
    have := Option.some.inj hij
    omega
  · rw [aI _ (by omega), h4, m6]
  · rw [aI _ (by omega), h4, m6]
  · rw [aI _ (by omega), b4, m5]
  · rw [m5, hlen]; rfl
  · rw [aI _ (by omega), b5, m7]
  · rw [hlen]; exact fun i hi => absurd hi (Nat.not_lt_zero i)
  · rw [m4]; exact ⟨IV_row0, c0⟩
