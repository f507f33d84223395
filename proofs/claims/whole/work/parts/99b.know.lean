theorem sim_know (G : wG) (M : wMem) (t : Nat) (b : Int32) (hI : INV t M) : SIM G 52 112 [.int b] t M := by
  obtain ⟨K, U, hR, hk, hD, hL, hZ, hU, hv, hh, hs⟩ := hI
  refine CT.mono (ct_xknow G M b _ _ _ _ K hR hD) ?_
  rintro o N ⟨rfl, h1, hF⟩
  have hM := MH_N hL hv hF
  have i1 : ∀ q, 252 ≤ q → wI N q = wI M q := fun q hq => FRk_i hF hq
  have hlN : lenM N = lenM M := by unfold lenM; rw [i1 _ (by decide)]
  have eS : knS N = knS M := by unfold knS; rw [hlN, i1 _ (by decide)]
  have eW : knW N = knW M := by unfold knW; rw [hlN, eS]
  have es : wI N 253 = wI M 253 := i1 _ (by decide)
  have hKG := KG_N hL hk hh.1 hF
  have hmK : mK N = K := by have := hh.1; unfold mK; rw [i1 _ (by decide), hk, nI_clamp (by omega)]
  have h6 : wI N 252 6 = nI (lenM M) := by rw [i1 _ (by decide)]; exact hD.2.1
  refine ⟨_, rfl, hKG.1.1, CT.mono (ct_mknow G N b hKG ⟨hKG.1, by rw [hlN]; exact h6, by rw [hlN]; exact hD.2.2.1⟩ hM.2.1 hM.2.2) ?_⟩
  rintro o P ⟨rfl, rfl⟩
  rw [es, eW]
  refine ⟨rfl, ?_⟩
  by_cases hb : inB b 0 9 = true
  · rw [if_pos hb]
    by_cases ho : knW M = false ∧ nW (wI M 253) < 12
    · rw [if_pos ⟨hb, ho.1, ho.2⟩] at h1
      rw [if_pos ho]
      have q2 : wI (wSetI (knM0 N) 252 6 0) 252 2 = nI K := by
        rw [nI_s, if_neg (by decide)]
        unfold knM0 mem2 setP
        rw [wF_I, if_neg (by decide), wF_I, if_pos rfl, up1_ne _ _ _ (by decide), up1_ne _ _ _ (by decide), i1 _ (by decide)]; exact hk
      have qK : mK (wSetI (knM0 N) 252 6 0) = K := by have := hh.1; unfold mK; rw [q2, nI_clamp (by omega)]
      have qo : ∀ q, q ≠ 252 → q ≠ 258 → wI (wSetI (knM0 N) 252 6 0) q = wI N q := fun q h1 h2 => by rw [nI_o _ _ _ _ h1]; exact m2_o _ _ _ h1 h2
      have qs : wI (wSetI (knM0 N) 252 6 0) 253 = wI M 253 := (qo _ (by decide) (by decide)).trans es
      have q6 : wI (wSetI (knM0 N) 252 6 0) 252 6 = 0 := by rw [nI_s, if_pos ⟨rfl, rfl⟩]
      have qS : wS (wSetI (knM0 N) 252 6 0) = wS N := by rw [nS_f]; exact m2_S _ _ _
      have qP : wP (wSetI (knM0 N) 252 6 0) = wP N := by rw [nP_f]; exact m2_P _ _ _
      have qZ : wZ (wSetI (knM0 N) 252 6 0) = wZ N := by rw [wZ_setI]; unfold knM0 mem2 setP; rw [wF_Z, wF_Z]
      unfold knM addM
      rw [qs, eS]
      generalize wSetI (knM0 N) 252 6 0 = Q at *
      have o : ∀ q, q ≠ 252 → q ≠ 253 → q ≠ 254 → wI (wSetF (recM Q) 253 (addV (wI M 253) (nW (wI M 253)) 0 b (knS M).2)) q = wI Q q := fun q h1 h2 h3 => by rw [wF_I, if_neg h2, rec_o _ h1 h3]
      have om : wI (wSetF (recM Q) 253 (addV (wI M 253) (nW (wI M 253)) 0 b (knS M).2)) 252 = up1 (wI Q 252) 2 (nI (rcK K)) := by
        rw [wF_I, if_neg (by decide)]
        unfold recM
        rw [wF_I, if_neg (by decide), wF_I, if_pos rfl, qK]
      refine INV_k hD hL hZ h1.1 hF (by rw [wF_S, rec_S]; exact qS) (by rw [wF_P, rec_P]; exact qP) ?_ (fun q hq => (o q (by omega) (by omega) (by omega)).trans (qo q (by omega) (by omega))) (by rw [wF_I, if_pos rfl]) ?_ ((o _ (by decide) (by decide) (by decide)).trans (qo _ (by decide) (by decide))) ((o _ (by decide) (by decide) (by decide)).trans (qo _ (by decide) (by decide))) ((o _ (by decide) (by decide) (by decide)).trans (qo _ (by decide) (by decide))) (by rw [om, up1_eq]) (L' := 0) h1.2 (by rw [om, up1_ne _ _ _ (by decide), q6]; rfl) (Or.inl rfl) (U := U) (by omega) ⟨IV_add hv.1 hv.2 ho.2 (inB_is (n := 0) (m := 9) rfl rfl (by decide) (by decide) hb) (fun q => absurd q (by decide)), h1.1.2.2.1.1⟩ (GH_rc hh hv) hs
      · rw [wF_Z]; unfold recM; rw [wF_Z, wF_Z]; exact qZ
      · rw [wF_I, if_neg (by decide)]; unfold recM; rw [wF_I, if_pos rfl, qK, qs, qo _ (by decide) (by decide), i1 _ (by decide)]
    · rw [if_neg (fun q => ho q.2)] at h1
      rw [if_neg ho]
      refine INV_k hD hL hZ h1.1 hF (m2_S _ _ _) (m2_P _ _ _) (by unfold knM0 mem2 setP; rw [wF_Z, wF_Z]) (fun q hq => m2_o _ _ _ (by omega) (by omega)) ((m2_o _ _ _ (by decide) (by decide)).trans es) ((m2_o _ _ _ (by decide) (by decide)).trans (i1 _ (by decide))) (m2_o _ _ _ (by decide) (by decide)) (m2_o _ _ _ (by decide) (by decide)) (m2_pad _ _ _) ?_ (h1.2.trans (hD.1.trans hD.2.1)) ((m2_i6 _ _ _).trans h6) (Or.inr rfl) (U := U) (by omega) hv hh hs
      unfold knM0 mem2 setP
      rw [wF_I, if_neg (by decide), wF_I, if_pos rfl, up1_ne _ _ _ (by decide), up1_ne _ _ _ (by decide), i1 _ (by decide)]; exact hk
  · rw [if_neg hb]
    rw [if_neg (fun q => hb q.1)] at h1
    exact INV_k hD hL hZ h1.1 hF rfl rfl rfl (fun q hq => rfl) es (i1 _ (by decide)) rfl rfl rfl (by rw [i1 _ (by decide)]; exact hk) (h1.2.trans (hD.1.trans hD.2.1)) h6 (Or.inr rfl) (U := U) (by omega) hv hh hs
