theorem sim_undo (G : wG) (M : wMem) (t : Nat) (hI : INV t M) : SIM G 70 139 [] t M := by
  have hI2 := hI
  obtain ⟨K, U, hR, hk, hD, hL, hZ, hU, hv, hh, hs⟩ := hI
  refine CT.mono (ct_xundo G M _ _ _ _ K hR) ?_
  rintro o N ⟨rfl, h1, hF⟩
  have hK6 := hh.1
  have i1 : ∀ q, 252 ≤ q → wI N q = wI M q := fun q hq => (hF.2.2 q (by omega)).1
  have hmK : mK N = K := by unfold mK; rw [i1 _ (by decide), hk, nI_clamp (by omega)]
  refine ⟨_, rfl, (FRk_L (FRk_c hF) hL).1, CT.mono (ct_mundo G N (KG_N hL hk hh.1 (FRk_c hF))) ?_⟩
  rintro o P ⟨rfl, rfl⟩
  rw [hmK]
  refine ⟨rfl, ?_⟩
  by_cases h0 : K = 0
  · rw [if_pos h0] at h1 ⊢
    rw [h1]
    exact INV_up hI2 (by omega)
  · rw [if_neg h0] at h1 ⊢
    have om : wI (undoM N) 252 = up1 (wI M 252) 2 (nI (K - 1)) := by unfold undoM; rw [wF_I, if_neg (by decide), wF_I, if_pos rfl, hmK, i1 _ (by decide)]
    have os : wI (undoM N) 253 = segN 828 (wI M 254) (wI M 253) (K - 1) := by unfold undoM; rw [wF_I, if_pos rfl, hmK, i1 _ (by decide), i1 _ (by decide)]
    have o' : ∀ q, q ≠ 252 → q ≠ 253 → wI (undoM N) q = wI N q := fun q h1 h2 => by unfold undoM; rw [wF_I, if_neg h2, wF_I, if_neg h1]
    have oS : wS (undoM N) = wS N := by unfold undoM; rw [wF_S, wF_S]
    have oP : wP (undoM N) = wP N := by unfold undoM; rw [wF_P, wF_P]
    have hlen : lenM (undoM N) = lenM M := by unfold lenM; rw [om, up1_ne _ _ _ (by decide)]
    refine INV_mk h1 oS oP ?_ (fun q hq => o' q (by omega) (by omega)) os ?_ ?_ ?_ ?_ ?_ ?_ (U := U) (by rw [hlen]; omega) (GR_seg (hh.2 (K - 1) (by omega))) ⟨by omega, fun i hi => hh.2 i (by omega)⟩ hs
    · unfold undoM; rw [wF_Z, wF_Z, hF.1]; exact hZ
    · rw [o' _ (by decide) (by decide)]; exact i1 _ (by decide)
    · rw [o' _ (by decide) (by decide)]; exact i1 _ (by decide)
    · rw [o' _ (by decide) (by decide)]; exact i1 _ (by decide)
    · rw [om, up1_eq]
    · obtain ⟨p1, p2, p3, p4, p5⟩ := hD
      refine ⟨?_, ?_, by rw [hlen]; exact p3, ?_, ?_⟩
      · rw [o' _ (by decide) (by decide), (hF.2.2 2 (by omega)).1, om, up1_ne _ _ _ (by decide)]; exact p1
      · rw [om, up1_ne _ _ _ (by decide), hlen]; exact p2
      · rw [o' _ (by decide) (by decide), o' _ (by decide) (by decide), (hF.2.2 3 (by omega)).1, i1 _ (by decide)]; exact p4
      · rw [o' _ (by decide) (by decide), i1 _ (by decide), hlen]; exact p5
    · have := FRk_L (FRk_c hF) hL
      unfold MLay at *
      rw [oS, oP]; exact this
theorem sim_wipe (G : wG) (M : wMem) (t : Nat) (hI : INV t M) : SIM G 68 138 [] t M := by
  obtain ⟨K, U, hR, hk, hD, hL, hZ, hU, hv, hh, hs⟩ := hI
  refine CT.mono (ct_xwipe G M hR.1) ?_
  rintro o N ⟨rfl, rfl⟩
  have hLN : MLay (wSetI M 2 1 0) := by unfold MLay at *; rw [nS_f, nP_f]; exact hL
  refine ⟨_, rfl, hLN.1, CT.mono (ct_mwipe G _ hLN) ?_⟩
  rintro o P ⟨rfl, rfl⟩
  obtain ⟨p1, p2, p3, p4, p5⟩ := hD
  refine ⟨by rw [nI_o _ _ _ _ (by decide), p1], ?_⟩
  have hlen : lenM (wSetI (wSetI M 2 1 0) 252 6 0) = 0 := by unfold lenM; rw [nI_s, if_pos ⟨rfl, rfl⟩]; rfl
  have o' : ∀ q, q ≠ 2 → q ≠ 252 → wI (wSetI (wSetI M 2 1 0) 252 6 0) q = wI M q := fun q h1 h2 => by rw [nI_o _ _ _ _ h2, nI_o _ _ _ _ h1]
  have hR2 : RX (wSetI M 2 1 0) (wI M 253) (wI M 254) K (wI M 255) (wI M 256) := RX_low hR (by rw [nS_f]) (by rw [nP_f]) (fun q hq => nI_o _ _ _ _ (by omega))
  refine INV_mk hR2 (by rw [nS_f]) (by rw [nP_f]) (by rw [wZ_setI, wZ_setI]; exact hZ) (fun q hq => nI_o _ _ _ _ (by omega)) (o' _ (by decide) (by decide)) (o' _ (by decide) (by decide)) (o' _ (by decide) (by decide)) (o' _ (by decide) (by decide)) ?_ ⟨?_, ?_, by omega, ?_, ?_⟩ (by unfold MLay at *; rw [nS_f, nP_f]; exact hLN) (U := U) (by rw [hlen]; omega) hv hh hs
  · rw [nI_s, if_neg (by decide), nI_o _ _ _ _ (by decide)]; exact hk
  · rw [nI_o _ _ _ _ (by decide), nI_s, if_pos ⟨rfl, rfl⟩, nI_s, if_pos ⟨rfl, rfl⟩]
  · rw [nI_s, if_pos ⟨rfl, rfl⟩, hlen]; rfl
  · rw [o' _ (by decide) (by decide), o' _ (by decide) (by decide)]; exact p4
  · rw [hlen]; exact fun i hi => absurd hi (Nat.not_lt_zero i)
