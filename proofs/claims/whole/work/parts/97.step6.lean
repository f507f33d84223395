/-! the looks -/
theorem INV_RN {t : Nat} {M : wMem} (h : INV t M) (ht : t ≤ 512) : RN M := by
  obtain ⟨K, U, hR, hk, hD, hL, hZ, hU, hv, hh, hs⟩ := h
  exact ⟨hR.1, hR.2.1, hR.2.2.1, IV_mono hv.1 (by omega)⟩
theorem INV_MH {t : Nat} {M : wMem} (h : INV t M) : MH M := by
  obtain ⟨K, U, hR, hk, hD, hL, hZ, hU, hv, hh, hs⟩ := h
  exact MH_N hL hv (FRk_c (FRc_r M))
theorem INV_MC {t : Nat} {M : wMem} (h : INV t M) : MC (wI M 253) := by
  obtain ⟨K, U, hR, hk, hD, hL, hZ, hU, hv, hh, hs⟩ := h
  have hS := hR.2.1
  have hV := hR.2.2.1
  have h12 := hV.1.2.1
  refine ⟨fun k hk => ?_, fun k hk => ?_⟩
  · obtain ⟨q, q1, -⟩ := SLw hS (show k < 12 by omega)
    obtain ⟨ds, e1, e2, -, e3⟩ := (hV.2.2.2.2.1 k hk q q1).2.2.1
    exact ⟨ds, e1, e2, e3⟩
  · obtain ⟨ds, e1, e2, -, e3⟩ := (hV.2.2.2.2.2.2 k hk).2.1
    exact ⟨ds, e1, e2, e3⟩
theorem INV_L {t : Nat} {M : wMem} (h : INV t M) : MLay M := h.choose_spec.choose_spec.2.2.2.1
theorem sim_word (G : wG) (M : wMem) (t : Nat) (w x : Int32) (hI : INV t M) (ht : t ≤ 512) : SIM G 58 123 [.int w, .int x] t M := by
  refine CT.mono (ct_xword G M w x (INV_RN hI ht)) ?_
  rintro o N ⟨rfl, rfl⟩
  refine ⟨_, rfl, (INV_L hI).1, CT.mono (ct_mword G N w x (INV_MH hI) (INV_MC hI)) ?_⟩
  rintro o P ⟨rfl, rfl⟩
  exact ⟨rfl, INV_up hI (by omega)⟩
theorem sim_vote (G : wG) (M : wMem) (t : Nat) (w a x : Int32) (hI : INV t M) (ht : t ≤ 512) : SIM G 59 125 [.int w, .int a, .int x] t M := by
  refine CT.mono (ct_xvote G M w a x (INV_RN hI ht)) ?_
  rintro o N ⟨rfl, rfl⟩
  refine ⟨_, rfl, (INV_L hI).1, CT.mono (ct_mvote G N w a x (INV_MH hI) (INV_MC hI)) ?_⟩
  rintro o P ⟨rfl, rfl⟩
  exact ⟨rfl, INV_up hI (by omega)⟩
theorem sim_solver (G : wG) (M : wMem) (t : Nat) (w x : Int32) (hI : INV t M) (ht : t ≤ 512) : SIM G 60 127 [.int w, .int x] t M := by
  refine CT.mono (ct_xsolver G M w x (INV_RN hI ht)) ?_
  rintro o N ⟨rfl, rfl⟩
  refine ⟨_, rfl, (INV_L hI).1, CT.mono (ct_msolver G N w x (INV_L hI)) ?_⟩
  rintro o P ⟨rfl, rfl⟩
  exact ⟨rfl, INV_up hI (by omega)⟩
theorem sim_lacking (G : wG) (M : wMem) (t : Nat) (w : Int32) (hI : INV t M) (ht : t ≤ 512) : SIM G 62 132 [.int w] t M := by
  refine CT.mono (ct_xlacking G M w (INV_RN hI ht)) ?_
  rintro o N ⟨rfl, rfl⟩
  refine ⟨_, rfl, (INV_L hI).1, CT.mono (ct_mlacking G N w (INV_MH hI)) ?_⟩
  rintro o P ⟨rfl, rfl⟩
  exact ⟨rfl, INV_up hI (by omega)⟩
theorem sim_answersFor (G : wG) (M : wMem) (t : Nat) (s w : Int32) (hI : INV t M) (ht : t ≤ 512) : SIM G 63 133 [.int s, .int w] t M := by
  refine CT.mono (ct_xanswersFor G M s w (INV_RN hI ht)) ?_
  rintro o N ⟨rfl, rfl⟩
  refine ⟨_, rfl, (INV_L hI).1, CT.mono (ct_manswersFor G N s w (INV_MH hI)) ?_⟩
  rintro o P ⟨rfl, rfl⟩
  exact ⟨rfl, INV_up hI (by omega)⟩
theorem sim_ifVoted (G : wG) (M : wMem) (t : Nat) (s w x : Int32) (hI : INV t M) (ht : t ≤ 512) : SIM G 64 134 [.int s, .int w, .int x] t M := by
  refine CT.mono (ct_xifVoted G M s w x (INV_RN hI ht)) ?_
  rintro o N ⟨rfl, rfl⟩
  refine ⟨_, rfl, (INV_L hI).1, CT.mono (ct_mifVoted G N s w x (INV_MH hI)) ?_⟩
  rintro o P ⟨rfl, rfl⟩
  exact ⟨rfl, INV_up hI (by omega)⟩
theorem sim_mostMissed (G : wG) (M : wMem) (t : Nat) (hI : INV t M) (ht : t ≤ 512) : SIM G 65 135 [] t M := by
  refine CT.mono (ct_xmostMissed G M (INV_RN hI ht)) ?_
  rintro o N ⟨rfl, rfl⟩
  refine ⟨_, rfl, (INV_L hI).1, CT.mono (ct_mmostMissed G N (INV_MH hI)) ?_⟩
  rintro o P ⟨rfl, rfl⟩
  exact ⟨rfl, INV_up hI (by omega)⟩
theorem sim_nearest (G : wG) (M : wMem) (t : Nat) (hI : INV t M) (ht : t ≤ 512) : SIM G 66 136 [] t M := by
  refine CT.mono (ct_xnearest G M (INV_RN hI ht)) ?_
  rintro o N ⟨rfl, rfl⟩
  refine ⟨_, rfl, (INV_L hI).1, CT.mono (ct_mnearest G N (INV_MH hI)) ?_⟩
  rintro o P ⟨rfl, rfl⟩
  exact ⟨rfl, INV_up hI (by omega)⟩
theorem sim_count (G : wG) (M : wMem) (t : Nat) (x : Int32) (hI : INV t M) (ht : t ≤ 512) : SIM G 61 130 [.int x] t M := by
  have e1 : wI M 2 1 = wI M 252 6 := hI.choose_spec.choose_spec.2.2.1.1
  have e2 : wI M 0 4 = wI M 252 2 := by
    obtain ⟨K, U, hR, hk, -⟩ := hI
    rw [hk]; exact hR.2.2.2.1.1
  refine CT.mono (ct_xcount G M x (INV_RN hI ht) e1 e2) ?_
  rintro o N ⟨rfl, rfl⟩
  refine ⟨_, rfl, (INV_L hI).1, CT.mono (ct_mcount G N x (INV_MH hI)) ?_⟩
  rintro o P ⟨rfl, rfl⟩
  exact ⟨rfl, INV_up hI (by omega)⟩
