theorem sim_answer (G : wG) (M : wMem) (t : Nat) (hI : INV t M) (ht : t ≤ 511) : SIM G 54 119 [] t M := by
  have hI2 := hI
  obtain ⟨K, U, hR, hk, hD, hL, hZ, hU, hv, hh, hs⟩ := hI
  have h3 := hv.1.2.2.2.2.2.2.2
  have step : ∀ T, IV T (wI M 253) → ((rdE (wI M 257) (lenM M)).2 = false → 3 * sN (wI M 253) + 2 ≤ T) → T ≤ 511 → ((rdE (wI M 257) (lenM M)).2 = false → T + 1 ≤ t + 1) → SIM G 54 119 [] t M := by
    intro T hT1 hT2 hT3 hT4
    refine CT.mono (ct_xanswer G M _ _ _ _ K T hR hD hT1 hT2 hT3) ?_
    rintro o N ⟨rfl, h1, hF⟩
    have hM := MH_N hL hv hF
    have i1 : ∀ q, 252 ≤ q → wI N q = wI M q := fun q hq => FRk_i hF hq
    have hlN : lenM N = lenM M := by unfold lenM; rw [i1 _ (by decide)]
    have es : wI N 253 = wI M 253 := i1 _ (by decide)
    have h6 : wI N 252 6 = nI (lenM M) := by rw [i1 _ (by decide)]; exact hD.2.1
    have hKG := KG_N hL hk hh.1 hF
    have hmK : mK N = K := by have := hh.1; unfold mK; rw [i1 _ (by decide), hk, nI_clamp (by omega)]
    refine ⟨_, rfl, CT.mono (ct_manswer G N hKG ⟨hKG.1, by rw [hlN]; exact h6, by rw [hlN]; exact hD.2.2.1⟩ hM (by rw [es]; have := hv.2.2.2.2; omega)) ?_⟩
    rintro o P ⟨rfl, rfl⟩
    sorry
  cases hr : (rdE (wI M 257) (lenM M)).2 with
  | true => exact step U hv.1 (fun q => by rw [hr] at q; cases q) (by omega) (fun q => by rw [hr] at q; cases q)
  | false =>
    have := rd_len hr
    exact step (U + 2) (IV_mono hv.1 (by omega)) (fun _ => by omega) (by omega) (fun _ => by omega)
