theorem MH_N {M N : wMem} {U : Nat} (hL : MLay M) (hv : GR U (wI M 253)) (hF : FRk M N) : MH N := by
  have es : wI N 253 = wI M 253 := FRk_i hF (by decide)
  have h17 := hv.2.2.2.2
  exact ⟨⟨FRk_L hF hL, by rw [es]; exact hv.2.2.2.1, by rw [es]; omega⟩, by rw [es]; exact hv.2.1, by rw [es]; exact hv.2.2.1⟩
theorem sim_bend (G : wG) (M : wMem) (t : Nat) (a x : Int32) (hI : INV t M) : SIM G 55 120 [.int a, .int x] t M := by
  have hI2 := hI
  obtain ⟨K, U, hR, hk, hD, hL, hZ, hU, hv, hh, hs⟩ := hI
  refine CT.mono (ct_xbend G M a x _ _ _ _ K hR) ?_
  rintro o N ⟨rfl, h1, hF⟩
  refine ⟨_, rfl, (FRk_L (FRk_c hF) hL).1, CT.mono (ct_mbend G N a x (KG_N hL hk hh.1 (FRk_c hF)) (MH_N hL hv (FRk_c hF))) ?_⟩
  rintro o P ⟨rfl, rfl⟩
  have es : wI N 253 = wI M 253 := (hF.2.2 253 (by omega)).1
  rw [es]
  refine ⟨rfl, ?_⟩
  cases ho : bendOk (wI M 253) a x with
  | false =>
    rw [ho] at h1
    simp only [Bool.false_eq_true, if_false] at h1 ⊢
    rw [h1]
    exact INV_up hI2 (by omega)
  | true =>
    rw [ho] at h1
    simp only [if_true] at h1 ⊢
    have hb := of_decide_eq_true ho
    obtain ⟨k, hk2, rfl⟩ := isW_k hv.2.1 hv.2.2.1 hb.1
    have h12 := hv.2.2.1
    rw [nI_clamp (show k < 2 ^ 31 by omega)] at h1 ⊢
    exact INV_rec hk hD hL hZ hU hv hh hs h1 hF ⟨IV_bend hv.1 hv.2 hk2 (inB_is (n := 0) (m := 9) rfl rfl (by decide) (by decide) hb.2.1), h1.2.2.1.1⟩
theorem sim_drop (G : wG) (M : wMem) (t : Nat) (a : Int32) (hI : INV t M) : SIM G 56 121 [.int a] t M := by
  have hI2 := hI
  obtain ⟨K, U, hR, hk, hD, hL, hZ, hU, hv, hh, hs⟩ := hI
  refine CT.mono (ct_xdrop G M a _ _ _ _ K hR) ?_
  rintro o N ⟨rfl, h1, hF⟩
  refine ⟨_, rfl, (FRk_L (FRk_c hF) hL).1, CT.mono (ct_mdrop G N a (KG_N hL hk hh.1 (FRk_c hF)) (MH_N hL hv (FRk_c hF))) ?_⟩
  rintro o P ⟨rfl, rfl⟩
  have es : wI N 253 = wI M 253 := (hF.2.2 253 (by omega)).1
  rw [es]
  refine ⟨rfl, ?_⟩
  cases ho : isW (wI M 253) a with
  | false =>
    rw [ho] at h1
    simp only [Bool.false_eq_true, if_false] at h1 ⊢
    rw [h1]
    exact INV_up hI2 (by omega)
  | true =>
    rw [ho] at h1
    simp only [if_true] at h1 ⊢
    obtain ⟨k, hk2, rfl⟩ := isW_k hv.2.1 hv.2.2.1 ho
    have h12 := hv.2.2.1
    rw [nI_clamp (show k < 2 ^ 31 by omega)] at h1 ⊢
    exact INV_rec hk hD hL hZ hU hv hh hs h1 hF ⟨IV_drop hv.1 hv.2 hk2, h1.2.2.1.1⟩
