theorem put_ch {f : Nat → Int32} {x : Int64} {L : Nat} (hf : chOk f L) (hb : ptB x 8 = false) : chOk (ptF f x L (ptM x 8) (ptM x 8)) (L + ptM x 8) := by
  have h0 : ¬ chX x = 0 := fun q => by rw [(chX_e x).1 q] at hb; exact absurd hb (by decide)
  have hm := ((chX_e x).2 h0).2
  intro j hj
  simp only [ptF]
  by_cases h : L + ptM x 8 - ptM x 8 ≤ j ∧ j < L + ptM x 8
  · rw [if_pos h]
    exact chC_n (chX_ok (by rw [← hm]; omega))
  · rw [if_neg h]
    exact hf j (by omega)
theorem sim_put (G : wG) (M : wMem) (t : Nat) (x : Int64) (hI : INV t M) : SIM G 67 137 [.long x] t M := by
  have hI2 := hI
  obtain ⟨K, U, hR, hk, hD, hL, hZ, hU, hv, hh, hs⟩ := hI
  have hlen := PD_len hD
  obtain ⟨p1, p2, p3, p4, p5⟩ := hD
  refine CT.mono (ct_xput G M x (PD_XG hR.1 ⟨p1, p2, p3, p4, p5⟩)) ?_
  rw [hlen, p4]
  generalize hl : lenM M = L at *
  have hm8 := ptM_le x 8
  rintro o N ⟨rfl, rfl⟩
  cases ho : putOk x L with
  | false =>
    simp only [Bool.false_eq_true, if_false]
    refine ⟨_, rfl, hL.1, CT.mono (ct_mput G M x ⟨hL, by rw [hl]; exact p2, by rw [hl]; exact p3⟩) ?_⟩
    rintro o P ⟨rfl, rfl⟩
    rw [hl, ho]
    exact ⟨rfl, INV_up hI2 (by omega)⟩
  | true =>
    simp only [if_true]
    have hb := of_decide_eq_true ho
    have hch := put_ch p5 hb.1
    generalize hf : ptF (wI M 257) x L (ptM x 8) (ptM x 8) = f at *
    have i1 : ∀ q, q ≠ 2 → q ≠ 3 → wI (padC M (L + ptM x 8) f) q = wI M q := fun q h1 h2 => by unfold padC; rw [wF_I, if_neg h2, wF_I, if_neg h1]
    have hl2 : lenM (padC M (L + ptM x 8) f) = L := by refine Eq.trans ?_ hl; unfold lenM; rw [i1 _ (by decide) (by decide)]
    refine ⟨_, rfl, hL.1, CT.mono (ct_mput G _ x ⟨hL, by rw [hl2, i1 _ (by decide) (by decide)]; exact p2, by rw [hl2]; exact p3⟩) ?_⟩
    rintro o P ⟨rfl, rfl⟩
    rw [hl2, ho]
    refine ⟨rfl, ?_⟩
    simp only [if_true]
    have hR2 : RX (padC M (L + ptM x 8) f) (wI M 253) (wI M 254) K (wI M 255) (wI M 256) := RX_low hR (padC_S _ _ _) (padC_P _ _ _) (fun q hq => i1 q (by omega) (by omega))
    have om : wI (putM (padC M (L + ptM x 8) f) x) 252 = up1 (wI M 252) 6 (nI (L + ptM x 8)) := by unfold putM; rw [wF_I, if_neg (by decide), wF_I, if_pos rfl, hl2, i1 _ (by decide) (by decide)]
    have op : wI (putM (padC M (L + ptM x 8) f) x) 257 = f := by unfold putM; rw [wF_I, if_pos rfl, hl2, i1 _ (by decide) (by decide), hf]
    have o' : ∀ q, q ≠ 252 → q ≠ 257 → wI (putM (padC M (L + ptM x 8) f) x) q = wI (padC M (L + ptM x 8) f) q := fun q h1 h2 => by unfold putM; rw [wF_I, if_neg h2, wF_I, if_neg h1]
    have hl3 : lenM (putM (padC M (L + ptM x 8) f) x) = L + ptM x 8 := by unfold lenM; rw [om, up1_eq, nI_clamp (by omega)]
    refine INV_mk hR2 (by unfold putM; rw [wF_S, wF_S]) (by unfold putM; rw [wF_P, wF_P]) ?_ (fun q hq => o' q (by omega) (by omega)) ?_ ?_ ?_ ?_ ?_ ⟨?_, ?_, by rw [hl3]; omega, ?_, ?_⟩ ?_ (U := U) (by rw [hl3]; omega) hv hh hs
    · unfold putM padC; rw [wF_Z, wF_Z, wF_Z, wF_Z]; exact hZ
    · rw [o' _ (by decide) (by decide)]; exact i1 _ (by decide) (by decide)
    · rw [o' _ (by decide) (by decide)]; exact i1 _ (by decide) (by decide)
    · rw [o' _ (by decide) (by decide)]; exact i1 _ (by decide) (by decide)
    · rw [o' _ (by decide) (by decide)]; exact i1 _ (by decide) (by decide)
    · rw [om, up1_ne _ _ _ (by decide)]; exact hk
    · rw [o' _ (by decide) (by decide), padC_p, om, up1_eq]
    · rw [om, up1_eq, hl3]
    · rw [o' _ (by decide) (by decide), padC_c, op]
    · rw [op, hl3]; exact hch
    · unfold MLay putM padC at *
      exact hL
