theorem rd9_nz {f : Nat → Int32} {L : Nat} (hc : chOk f L) (h : (rdE f L).2 = false) : ¬ (rd9 f L).2 = 0 := by
  obtain ⟨-, -, e9, e8, -⟩ := rd_chain h
  unfold rd9 at *
  have e : rd8 f L = ((rd8 f L).1, false) := Prod.ext rfl e8
  rw [e] at e9 ⊢
  by_cases hz : (rl f L 6 (rd8 f L).1 0).2 = 0
  · rw [((rl_tl hc _).1 hz).1] at e9
    cases e9
  · exact ((rl_tl hc _).2 hz).2.2
theorem sim_answer (G : wG) (M : wMem) (t : Nat) (hI : INV t M) (ht : t ≤ 511) : SIM G 54 119 [] t M := by
  have hI2 := hI
  obtain ⟨K, U, hR, hk, hD, hL, hZ, hU, hv, hh, hs⟩ := hI
  have h3 := hv.1.2.2.2.2.2.2.2
  have step : ∀ T, U ≤ T → IV T (wI M 253) → ((rdE (wI M 257) (lenM M)).2 = false → 3 * sN (wI M 253) + 2 ≤ T) → T ≤ 511 → ((rdE (wI M 257) (lenM M)).2 = false → T + 1 ≤ t + 1) → SIM G 54 119 [] t M := by
    intro T hTU hT1 hT2 hT3 hT4
    refine CT.mono (ct_xanswer G M _ _ _ _ K T hR hD hT1 hT2 hT3) ?_
    rintro o N ⟨rfl, h1, hF⟩
    have hM := MH_N hL hv hF
    have i1 : ∀ q, 252 ≤ q → wI N q = wI M q := fun q hq => FRk_i hF hq
    have hlN : lenM N = lenM M := by unfold lenM; rw [i1 _ (by decide)]
    have es : wI N 253 = wI M 253 := i1 _ (by decide)
    have h6 : wI N 252 6 = nI (lenM M) := by rw [i1 _ (by decide)]; exact hD.2.1
    have hKG := KG_N hL hk hh.1 hF
    have hmK : mK N = K := by have := hh.1; unfold mK; rw [i1 _ (by decide), hk, nI_clamp (by omega)]
    refine ⟨_, rfl, hKG.1.1, CT.mono (ct_manswer G N hKG ⟨hKG.1, by rw [hlN]; exact h6, by rw [hlN]; exact hD.2.2.1⟩ hM (by rw [es]; have := hv.2.2.2.2; omega)) ?_⟩
    rintro o P ⟨rfl, rfl⟩
    have ea : aTo N = aTo M := by unfold aTo; rw [hlN, i1 _ (by decide), i1 _ (by decide)]
    have er : (rdE (wI N 257) (lenM N)).2 = (rdE (wI M 257) (lenM M)).2 := by rw [hlN, i1 _ (by decide)]
    have ed : aDo N = aDo2 (wI M 253) (aTo M) (rdE (wI M 257) (lenM M)).2 := by rw [← er, ← ea, ← es]; rfl
    rw [qAns2_e, er, es, ea, ed]
    refine ⟨rfl, ?_⟩
    cases hd : aDo2 (wI M 253) (aTo M) (rdE (wI M 257) (lenM M)).2 with
    | false =>
      rw [hd] at h1
      simp only [Bool.false_eq_true, if_false] at h1 ⊢
      refine INV_k hD hL hZ h1.1 hF (rdM_S N) (rdM_P N) (rdM_Z N) (fun q hq => m2_o _ _ _ (by omega) (by omega)) ((rdM_s N).trans es) ((m2_o _ _ _ (by decide) (by decide)).trans (i1 _ (by decide))) (m2_o _ _ _ (by decide) (by decide)) (m2_o _ _ _ (by decide) (by decide)) (m2_pad _ _ _) (by rw [rdM_2, i1 _ (by decide)]; exact hk) (h1.2.trans (hD.1.trans hD.2.1)) ((m2_i6 _ _ _).trans h6) (Or.inr rfl) (U := U) (by omega) hv hh hs
    | true =>
      rw [hd] at h1
      simp only [if_true] at h1 ⊢
      have hx := of_decide_eq_true hd
      rw [anM_e, es, ea]
      have o : ∀ q, q ≠ 252 → q ≠ 253 → q ≠ 254 → q ≠ 258 → wI (wSetF (aM2 N) 253 (aRow (wI M 253) (aTo M))) q = wI N q := fun q h1 h2 h3 h4 => by
        rw [wF_I, if_neg h2]
        unfold aM2
        rw [nI_o _ _ _ _ h1, rec_o _ h1 h3]
        exact m2_o _ _ _ h1 h4
      have mr : mK (rdM N) = K := by unfold mK; rw [rdM_2]; exact hmK
      have iv := IV_ans hT1 hv.2 (by rw [(told_0 M).1]; exact rd_sol hx.1) hx.2.1 hx.2.2.1 (by rw [(told_0 M).2.2.2.2.1]; exact rd9_nz hD.2.2.2.2 hx.1) (hT2 hx.1) hT3
      refine INV_k hD hL hZ h1.1 hF (by rw [wF_S]; exact aM2_S N) (by rw [wF_P]; exact aM2_P N) ?_ (fun q hq => o q (by omega) (by omega) (by omega) (by omega)) (by rw [wF_I, if_pos rfl]) ?_ (o _ (by decide) (by decide) (by decide) (by decide)) (o _ (by decide) (by decide) (by decide) (by decide)) (o _ (by decide) (by decide) (by decide) (by decide)) ?_ (L' := 0) h1.2 ?_ (Or.inl rfl) (U := T + 1) (by have := hT4 hx.1; omega) ⟨iv, h1.1.2.2.1.1⟩ (GH_mono (GH_rc hh hv) (by omega)) (GS_mono hs (by omega))
      · rw [wF_Z]; unfold aM2; rw [wZ_setI]; unfold recM; rw [wF_Z, wF_Z]; exact rdM_Z N
      · rw [wF_I, if_neg (by decide)]; unfold aM2; rw [nI_o _ _ _ _ (by decide)]; unfold recM; rw [wF_I, if_pos rfl, mr, rdM_s, es]; rw [show wI (rdM N) 254 = wI M 254 from (m2_o _ _ _ (by decide) (by decide)).trans (i1 _ (by decide))]
      · rw [wF_I, if_neg (by decide)]; unfold aM2; rw [nI_s, if_neg (by decide)]; unfold recM; rw [wF_I, if_neg (by decide), wF_I, if_pos rfl, up1_eq, mr]
      · rw [wF_I, if_neg (by decide)]; unfold aM2; rw [nI_s, if_pos ⟨rfl, rfl⟩]; rfl
  cases hr : (rdE (wI M 257) (lenM M)).2 with
  | true => exact step U (Nat.le_refl _) hv.1 (fun q => by rw [hr] at q; cases q) (by omega) (fun q => by rw [hr] at q; cases q)
  | false =>
    have := rd_len hr
    exact step (U + 2) (by omega) (IV_mono hv.1 (by omega)) (fun _ => by omega) (by omega) (fun _ => by omega)
