/-- after a call of the class that may have emptied the pad (length L' on both sides) -/
theorem INV_k {M N P : wMem} {v h : Nat → Int32} {K U t L' : Nat} (hD : PD M) (hL : MLay M) (hZ : wZ M = 259) (hR : RX N v h K (wI M 255) (wI M 256)) (hF : FRk M N) (hS : wS P = wS N) (hP : wP P = wP N) (hz : wZ P = wZ N) (hi : ∀ q, q < 252 → wI P q = wI N q)
    (e1 : wI P 253 = v) (e2 : wI P 254 = h) (e3 : wI P 255 = wI N 255) (e4 : wI P 256 = wI N 256) (e5 : wI P 257 = wI N 257) (hk : wI P 252 2 = nI K) (hl1 : wI N 2 1 = nI L') (hl2 : wI P 252 6 = nI L') (hl : L' = 0 ∨ L' = lenM M) (hU : U + (L' + 7) / 8 ≤ t) (gv : GR U v) (gh : GH U h K) (gs : GS U (wI M 255) (wI M 256)) : INV t P := by
  obtain ⟨p1, p2, p3, p4, p5⟩ := hD
  have hlP : lenM P = L' := by unfold lenM; rw [hl2, nI_clamp (by omega)]
  refine INV_mk hR hS hP (by rw [hz, hF.1]; exact hZ) hi e1 e2 (by rw [e3]; exact FRk_i hF (by decide)) (by rw [e4]; exact FRk_i hF (by decide)) hk ⟨?_, ?_, by omega, ?_, ?_⟩ ?_ (U := U) (by rw [hlP]; exact hU) gv gh gs
  · rw [hi _ (by decide), hl1, hl2]
  · rw [hl2, hlP]
  · rw [hi _ (by decide), e5, hF.2.2.1, FRk_i hF (by decide)]; exact p4
  · rw [e5, hlP, FRk_i hF (by decide)]
    rcases hl with rfl | rfl
    · exact fun i hi => absurd hi (Nat.not_lt_zero i)
    · exact p5
  · have := FRk_L hF hL
    unfold MLay at *
    rw [hS, hP]; exact this
