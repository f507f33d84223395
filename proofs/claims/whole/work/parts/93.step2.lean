/-- a call that changed: both sides kept what was, now is another row -/
theorem INV_rec {M N : wMem} {t K U : Nat} {v' : Nat → Int32} (hk : wI M 252 2 = nI K) (hD : PD M) (hL : MLay M) (hZ : wZ M = 259) (hU : U + (lenM M + 7) / 8 ≤ t) (hv : GR U (wI M 253)) (hh : GH U (wI M 254) K) (hs : GS U (wI M 255) (wI M 256))
    (hR : RX N v' (rcH (wI M 254) (wI M 253) K) (rcK K) (wI M 255) (wI M 256)) (hF : FRc M N) (gv : GR U v') : INV (t + 1) (wSetF (recM N) 253 v') := by
  have i1 : ∀ q, 252 ≤ q → wI N q = wI M q := fun q hq => (hF.2.2 q (by omega)).1
  have hK6 := hh.1
  have hmK : mK N = K := by unfold mK; rw [i1 _ (by decide), hk, nI_clamp (by omega)]
  have o : ∀ q, q ≠ 252 → q ≠ 253 → q ≠ 254 → wI (wSetF (recM N) 253 v') q = wI N q := fun q h1 h2 h3 => by rw [wF_I, if_neg h2, rec_o _ h1 h3]
  have om : wI (wSetF (recM N) 253 v') 252 = up1 (wI M 252) 2 (nI (rcK K)) := by
    rw [wF_I, if_neg (by decide)]
    unfold recM
    rw [wF_I, if_neg (by decide), wF_I, if_pos rfl, hmK, i1 _ (by decide)]
  have oh : wI (wSetF (recM N) 253 v') 254 = rcH (wI M 254) (wI M 253) K := by
    rw [wF_I, if_neg (by decide)]
    unfold recM
    rw [wF_I, if_pos rfl, hmK, i1 _ (by decide), i1 _ (by decide)]
  have os : wI (wSetF (recM N) 253 v') 253 = v' := by rw [wF_I, if_pos rfl]
  have hlen : lenM (wSetF (recM N) 253 v') = lenM M := by unfold lenM; rw [om, up1_ne _ _ _ (by decide)]
  have hP : wP (wSetF (recM N) 253 v') = wP N := by rw [wF_P, rec_P]
  have hS : wS (wSetF (recM N) 253 v') = wS N := by rw [wF_S, rec_S]
  have hLP : MLay (wSetF (recM N) 253 v') := by
    unfold MLay at *
    rw [hS, hP, hF.2.1, (hF.2.2 252 (by omega)).2]
    exact hL
  refine INV_mk hR hS hP ?_ (fun q hq => o q (by omega) (by omega) (by omega)) os oh ?_ ?_ ?_ ?_ hLP (U := U) (by rw [hlen]; omega) gv (GH_rc hh hv) hs
  · rw [wF_Z]; unfold recM; rw [wF_Z, wF_Z, hF.1]; exact hZ
  · rw [o _ (by decide) (by decide) (by decide)]; exact i1 _ (by decide)
  · rw [o _ (by decide) (by decide) (by decide)]; exact i1 _ (by decide)
  · rw [om, up1_eq]
  · obtain ⟨p1, p2, p3, p4, p5⟩ := hD
    refine ⟨?_, ?_, by rw [hlen]; exact p3, ?_, ?_⟩
    · rw [o _ (by decide) (by decide) (by decide), (hF.2.2 2 (by omega)).1, om, up1_ne _ _ _ (by decide)]; exact p1
    · rw [om, up1_ne _ _ _ (by decide), hlen]; exact p2
    · rw [o _ (by decide) (by decide) (by decide), o _ (by decide) (by decide) (by decide), (hF.2.2 3 (by omega)).1, i1 _ (by decide)]; exact p4
    · rw [o _ (by decide) (by decide) (by decide), i1 _ (by decide), hlen]; exact p5
theorem KG_N {M N : wMem} {K : Nat} (hL : MLay M) (hk : wI M 252 2 = nI K) (hK : K ≤ 6) (hF : FRk M N) : KG N := by
  have e : wI N 252 2 = nI K := by rw [FRk_i hF (by decide)]; exact hk
  have e2 : mK N = K := by unfold mK; rw [e, nI_clamp (by omega)]
  exact ⟨FRk_L hF hL, by rw [e2]; exact e, by rw [e2]; exact hK⟩
theorem sim_set (G : wG) (M : wMem) (t : Nat) (a x : Int32) (hI : INV t M) : SIM G 51 107 [.int a, .int x] t M := by
  have hI2 := hI
  obtain ⟨K, U, hR, hk, hD, hL, hZ, hU, hv, hh, hs⟩ := hI
  refine CT.mono (ct_xset G M a x _ _ _ _ K hR) ?_
  rintro o N ⟨rfl, h1, hF⟩
  refine ⟨_, rfl, (FRk_L (FRk_c hF) hL).1, CT.mono (ct_mset G N a x (KG_N hL hk hh.1 (FRk_c hF))) ?_⟩
  rintro o P ⟨rfl, rfl⟩
  have es : wI N 253 = wI M 253 := (hF.2.2 253 (by omega)).1
  rw [es]
  refine ⟨rfl, ?_⟩
  cases ho : okSet a x with
  | false =>
    rw [ho] at h1
    simp only [Bool.false_eq_true, if_false] at h1 ⊢
    rw [h1]
    exact INV_up hI2 (by omega)
  | true =>
    rw [ho] at h1
    simp only [if_true] at h1 ⊢
    unfold layM
    rw [es]
    exact INV_rec hk hD hL hZ hU hv hh hs h1 hF ⟨IV_set hv.1 hv.2 ho, h1.2.2.1.1⟩
theorem sim_trust (G : wG) (M : wMem) (t : Nat) (a x : Int32) (hI : INV t M) : SIM G 57 122 [.int a, .int x] t M := by
  have hI2 := hI
  obtain ⟨K, U, hR, hk, hD, hL, hZ, hU, hv, hh, hs⟩ := hI
  refine CT.mono (ct_xtrust G M a x _ _ _ _ K hR) ?_
  rintro o N ⟨rfl, h1, hF⟩
  refine ⟨_, rfl, (FRk_L (FRk_c hF) hL).1, CT.mono (ct_mtrust G N a x (KG_N hL hk hh.1 (FRk_c hF))) ?_⟩
  rintro o P ⟨rfl, rfl⟩
  have es : wI N 253 = wI M 253 := (hF.2.2 253 (by omega)).1
  rw [es]
  refine ⟨rfl, ?_⟩
  cases ho : okTr a x with
  | false =>
    rw [ho] at h1
    simp only [Bool.false_eq_true, if_false] at h1 ⊢
    rw [h1]
    exact INV_up hI2 (by omega)
  | true =>
    rw [ho] at h1
    simp only [if_true] at h1 ⊢
    unfold layM
    rw [es]
    exact INV_rec hk hD hL hZ hU hv hh hs h1 hF ⟨IV_trust hv.1 hv.2 ho, h1.2.2.1.1⟩
