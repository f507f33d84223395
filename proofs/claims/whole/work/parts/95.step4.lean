theorem sim_add (G : wG) (M : wMem) (t : Nat) (b : Int32) (hI : INV t M) : SIM G 53 113 [.int b] t M := by
  have hI2 := hI
  obtain ⟨K, U, hR, hk, hD, hL, hZ, hU, hv, hh, hs⟩ := hI
  refine CT.mono (ct_xadd G M b _ _ _ _ K hR) ?_
  rintro o N ⟨rfl, h1, hF⟩
  have hM := MH_N hL hv (FRk_c hF)
  refine ⟨_, rfl, (FRk_L (FRk_c hF) hL).1, CT.mono (ct_madd G N b (KG_N hL hk hh.1 (FRk_c hF)) hM.2.1 hM.2.2) ?_⟩
  rintro o P ⟨rfl, rfl⟩
  have es : wI N 253 = wI M 253 := (hF.2.2 253 (by omega)).1
  rw [es]
  refine ⟨rfl, ?_⟩
  by_cases ho : inB b 0 9 = true ∧ nW (wI M 253) < 12
  · rw [if_pos ho] at h1 ⊢
    unfold addM
    rw [es]
    exact INV_rec hk hD hL hZ hU hv hh hs h1 hF ⟨IV_add hv.1 hv.2 ho.2 (inB_is (n := 0) (m := 9) rfl rfl (by decide) (by decide) ho.1) (fun _ => rfl), h1.2.2.1.1⟩
  · rw [if_neg ho] at h1 ⊢
    rw [h1]
    exact INV_up hI2 (by omega)
theorem GS_at {U : Nat} {sl sv : Nat → Int32} (g : GS U sl sv) {a : Nat} (ha : a < 2) (h : ¬ sv a = 0) : GR U (hseg sl a) := by
  have : a = 0 ∨ a = 1 := by omega
  rcases this with rfl | rfl
  · exact g.1 h
  · exact g.2 h
theorem sim_restore (G : wG) (M : wMem) (t : Nat) (a : Int32) (hI : INV t M) : SIM G 72 141 [.int a] t M := by
  have hI2 := hI
  obtain ⟨K, U, hR, hk, hD, hL, hZ, hU, hv, hh, hs⟩ := hI
  refine CT.mono (ct_xrestore G M a _ _ _ _ K hR) ?_
  rintro o N ⟨rfl, h1, hF⟩
  refine ⟨_, rfl, (FRk_L (FRk_c hF) hL).1, CT.mono (ct_mrestore G N a (KG_N hL hk hh.1 (FRk_c hF))) ?_⟩
  rintro o P ⟨rfl, rfl⟩
  have es : wI N 253 = wI M 253 := (hF.2.2 253 (by omega)).1
  have el : wI N 255 = wI M 255 := (hF.2.2 255 (by omega)).1
  have ev : wI N 256 = wI M 256 := (hF.2.2 256 (by omega)).1
  rw [es, el, ev]
  refine ⟨rfl, ?_⟩
  by_cases ho : inB a 0 1 = true ∧ ¬ wI M 256 a.toNatClampNeg = 0
  · rw [if_pos ho] at h1 ⊢
    unfold restM
    rw [es, el]
    obtain ⟨j, hj, rfl⟩ := inB_k (c := 1) (by decide) ho.1
    have h2 := ho.2
    rw [nI_clamp (show j < 2 ^ 31 by omega)] at h1 h2 ⊢
    exact INV_rec hk hD hL hZ hU hv hh hs h1 hF (GR_seg (GS_at hs (by omega) h2))
  · rw [if_neg ho] at h1 ⊢
    rw [h1]
    exact INV_up hI2 (by omega)
theorem sim_save (G : wG) (M : wMem) (t : Nat) (a : Int32) (hI : INV t M) : SIM G 71 140 [.int a] t M := by
  have hI2 := hI
  obtain ⟨K, U, hR, hk, hD, hL, hZ, hU, hv, hh, hs⟩ := hI
  refine CT.mono (ct_xsave G M a _ _ _ _ K hR) ?_
  rintro o N ⟨rfl, h1, hF⟩
  refine ⟨_, rfl, (FRk_L (FRk_c hF) hL).1, CT.mono (ct_msave G N a (FRk_L (FRk_c hF) hL)) ?_⟩
  rintro o P ⟨rfl, rfl⟩
  have i1 : ∀ q, 252 ≤ q → wI N q = wI M q := fun q hq => (hF.2.2 q (by omega)).1
  rw [i1 253 (by decide)]
  refine ⟨rfl, ?_⟩
  cases ho : inB a 0 1 with
  | false =>
    rw [ho] at h1
    simp only [Bool.false_eq_true, if_false] at h1 ⊢
    rw [h1]
    exact INV_up hI2 (by omega)
  | true =>
    rw [ho] at h1
    simp only [if_true] at h1 ⊢
    obtain ⟨j, hj, rfl⟩ := inB_k (c := 1) (by decide) ho
    rw [nI_clamp (show j < 2 ^ 31 by omega)] at h1 ⊢
    have o' : ∀ q, q ≠ 255 → q ≠ 256 → wI (saveM N j) q = wI N q := fun q h1 h2 => by unfold saveM; rw [wF_I, if_neg h2, wF_I, if_neg h1]
    have ol : wI (saveM N j) 255 = hPut 828 (wI M 255) (wI M 253) j := by unfold saveM; rw [wF_I, if_neg (by decide), wF_I, if_pos rfl, i1 _ (by decide), i1 _ (by decide)]
    have ov : wI (saveM N j) 256 = up1 (wI M 256) j 1 := by unfold saveM; rw [wF_I, if_pos rfl, i1 _ (by decide)]
    have oS : wS (saveM N j) = wS N := by unfold saveM; rw [wF_S, wF_S]
    have oP : wP (saveM N j) = wP N := by unfold saveM; rw [wF_P, wF_P]
    have hlen : lenM (saveM N j) = lenM M := by unfold lenM; rw [o' _ (by decide) (by decide), i1 _ (by decide)]
    refine INV_mk h1 oS oP ?_ (fun q hq => o' q (by omega) (by omega)) ?_ ?_ ol ov ?_ ?_ ?_ (U := U) (by rw [hlen]; omega) hv hh (GS_put (by omega) hs hv)
    · unfold saveM; rw [wF_Z, wF_Z, hF.1]; exact hZ
    · rw [o' _ (by decide) (by decide)]; exact i1 _ (by decide)
    · rw [o' _ (by decide) (by decide)]; exact i1 _ (by decide)
    · rw [o' _ (by decide) (by decide), i1 _ (by decide)]; exact hk
    · obtain ⟨p1, p2, p3, p4, p5⟩ := hD
      refine ⟨?_, ?_, by rw [hlen]; exact p3, ?_, ?_⟩
      · rw [o' _ (by decide) (by decide), o' _ (by decide) (by decide), (hF.2.2 2 (by omega)).1, i1 _ (by decide)]; exact p1
      · rw [o' _ (by decide) (by decide), i1 _ (by decide), hlen]; exact p2
      · rw [o' _ (by decide) (by decide), o' _ (by decide) (by decide), (hF.2.2 3 (by omega)).1, i1 _ (by decide)]; exact p4
      · rw [o' _ (by decide) (by decide), i1 _ (by decide), hlen]; exact p5
    · have := FRk_L (FRk_c hF) hL
      unfold MLay at *
      rw [oS, oP]; exact this
