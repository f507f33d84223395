theorem rdM_Z (M : wMem) : wZ (rdM M) = wZ M := by unfold rdM mem2 setP; rw [wF_Z, wF_Z]
/-- reading the pad alone changes nothing that counts -/
theorem INV_rd {M N : wMem} {t : Nat} (hI : INV t M) (hF : FR3 M N) : INV (t + 1) (rdM N) ∧ PG N ∧ wI N 257 = wI M 257 ∧ lenM N = lenM M := by
  obtain ⟨K, U, hR, hk, hD, hL, hZ, hU, hv, hh, hs⟩ := hI
  have i1 : ∀ q, q ≠ 1 → q ≠ 4 → q ≠ 5 → wI N q = wI M q := fun q h1 h2 h3 => hF.2.2.2 q h1 h2 h3
  obtain ⟨p1, p2, p3, p4, p5⟩ := hD
  have hlN : lenM N = lenM M := by unfold lenM; rw [i1 _ (by decide) (by decide) (by decide)]
  have hLN := FRk_L (FRk_3 hF) hL
  have hlP : lenM (rdM N) = lenM M := (m2_len _ _ _).trans hlN
  have o' : ∀ q, q ≠ 252 → q ≠ 258 → q ≠ 1 → q ≠ 4 → q ≠ 5 → wI (rdM N) q = wI M q := fun q h1 h2 h3 h4 h5 => (m2_o _ _ _ h1 h2).trans (i1 q h3 h4 h5)
  have o6 : wI (rdM N) 252 6 = wI M 252 6 := (m2_i6 _ _ _).trans (by rw [i1 _ (by decide) (by decide) (by decide)])
  refine ⟨?_, ⟨hLN, by rw [hlN, i1 _ (by decide) (by decide) (by decide)]; exact p2, by rw [hlN]; exact p3⟩, i1 _ (by decide) (by decide) (by decide), hlN⟩
  refine INV_mk (RX_3 hR hF) (rdM_S N) (rdM_P N) (by rw [rdM_Z, hF.1]; exact hZ) (fun q hq => m2_o _ _ _ (by omega) (by omega)) (o' _ (by decide) (by decide) (by decide) (by decide) (by decide)) (o' _ (by decide) (by decide) (by decide) (by decide) (by decide)) (o' _ (by decide) (by decide) (by decide) (by decide) (by decide)) (o' _ (by decide) (by decide) (by decide) (by decide) (by decide)) ?_ ⟨?_, ?_, by rw [hlP]; exact p3, ?_, ?_⟩ hLN (U := U) (by rw [hlP]; omega) hv hh hs
  · rw [rdM_2, i1 _ (by decide) (by decide) (by decide)]; exact hk
  · rw [o6, o' _ (by decide) (by decide) (by decide) (by decide) (by decide)]; exact p1
  · rw [o6, hlP]; exact p2
  · rw [o' _ (by decide) (by decide) (by decide) (by decide) (by decide), o' _ (by decide) (by decide) (by decide) (by decide) (by decide)]; exact p4
  · rw [o' _ (by decide) (by decide) (by decide) (by decide) (by decide), hlP]; exact p5
theorem sim_fault (G : wG) (M : wMem) (t : Nat) (hI : INV t M) : SIM G 69 117 [] t M := by
  have hI2 := hI
  obtain ⟨K, U, hR, hk, hD, hL, hZ, hU, hv, hh, hs⟩ := hI
  have hlen := PD_len hD
  refine CT.mono (ct_xfault G M (PD_XG hR.1 hD) (by rw [hD.2.2.2.1, hlen]; exact hD.2.2.2.2)) ?_
  rintro o N ⟨rfl, hF⟩
  obtain ⟨r1, r2, r3, r4⟩ := INV_rd hI2 hF
  refine ⟨_, rfl, r2.1.1, CT.mono (ct_mfault G N r2) ?_⟩
  rintro o P ⟨rfl, rfl⟩
  rw [r3, r4, hD.2.2.2.1, hlen]
  exact ⟨rfl, r1⟩
