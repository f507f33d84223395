theorem sim_know (G : wG) (M : wMem) (t : Nat) (b : Int32) (hI : INV t M) : SIM G 52 112 [.int b] t M := by
  obtain ⟨K, U, hR, hk, hD, hL, hZ, hU, hv, hh, hs⟩ := hI
  refine CT.mono (ct_xknow G M b _ _ _ _ K hR hD) ?_
  rintro o N ⟨rfl, h1, hF⟩
  have hM := MH_N hL hv hF
  have i1 : ∀ q, 252 ≤ q → wI N q = wI M q := fun q hq => FRk_i hF hq
  have hlN : lenM N = lenM M := by unfold lenM; rw [i1 _ (by decide)]
  have eS : knS N = knS M := by unfold knS; rw [hlN, i1 _ (by decide)]
  have eW : knW N = knW M := by unfold knW; rw [hlN, eS]
  have es : wI N 253 = wI M 253 := i1 _ (by decide)
  have hKG := KG_N hL hk hh.1 hF
  have hmK : mK N = K := by have := hh.1; unfold mK; rw [i1 _ (by decide), hk, nI_clamp (by omega)]
  have h6 : wI N 252 6 = nI (lenM M) := by rw [i1 _ (by decide)]; exact hD.2.1
  refine ⟨_, rfl, CT.mono (ct_mknow G N b hKG ⟨hKG.1, by rw [hlN]; exact h6, by rw [hlN]; exact hD.2.2.1⟩ hM.2.1 hM.2.2) ?_⟩
  rintro o P ⟨rfl, rfl⟩
  rw [es, eW]
  refine ⟨rfl, ?_⟩
  by_cases hb : inB b 0 9 = true
  · rw [if_pos hb]
    by_cases ho : knW M = false ∧ nW (wI M 253) < 12
    · rw [if_pos ⟨hb, ho.1, ho.2⟩] at h1
      rw [if_pos ho]
      sorry
    · rw [if_neg (fun q => ho q.2)] at h1
      rw [if_neg ho]
      refine INV_k hD hL hZ h1.1 hF (m2_S _ _ _) (m2_P _ _ _) (by unfold knM0 mem2 setP; rw [wF_Z, wF_Z]) (fun q hq => m2_o _ _ _ (by omega) (by omega)) ((m2_o _ _ _ (by decide) (by decide)).trans es) ((m2_o _ _ _ (by decide) (by decide)).trans (i1 _ (by decide))) (m2_o _ _ _ (by decide) (by decide)) (m2_o _ _ _ (by decide) (by decide)) (m2_pad _ _ _) ?_ (h1.2.trans (hD.1.trans hD.2.1)) ((m2_i6 _ _ _).trans h6) (Or.inr rfl) (U := U) (by omega) hv hh hs
      sorry
  · rw [if_neg hb]
    rw [if_neg (fun q => hb q.1)] at h1
    exact INV_k hD hL hZ h1.1 hF rfl rfl rfl (fun q hq => rfl) es (i1 _ (by decide)) rfl rfl rfl (by rw [i1 _ (by decide)]; exact hk) (h1.2.trans (hD.1.trans hD.2.1)) h6 (Or.inr rfl) (U := U) (by omega) hv hh hs
