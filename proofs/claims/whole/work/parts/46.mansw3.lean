theorem tk_ok {f : Nat → Int32} {L : Nat} {s : pS} {lo hi : Int32} (hlo : 0 < lo) (h : (tk f L s lo hi).2 = false) : s.2 = false ∧ s.1 < L ∧ inB (f s.1) lo hi = true ∧ tk f L s lo hi = (s.1 + 1, false) := by
  unfold tk at h ⊢
  split at h
  · next hc =>
    have hp : s.1 < L := by
      by_cases hp : s.1 < L
      · exact hp
      · have := hc.2
        simp only [tkC, if_neg hp] at this
        exact absurd hlo (i_nlt.mpr (of_decide_eq_true this).1)
    refine ⟨hc.1, hp, ?_, by rw [if_pos hc]⟩
    have := hc.2
    simpa only [tkC, if_pos hp] using this
  · cases h
theorem tk_bad {f : Nat → Int32} {L : Nat} {s : pS} {lo hi : Int32} (h : s.2 = true) : tk f L s lo hi = s := by
  unfold tk
  rw [if_neg (by simp [h])]
  obtain ⟨p, w⟩ := s
  simp only at h
  rw [h]
theorem nx_ok {f : Nat → Int32} {L : Nat} {s : pS} {lo hi : Int32} (h : nx f L s lo hi = true) : s.2 = false ∧ s.1 < L ∧ inB (f s.1) lo hi = true := by
  simp only [nx, Bool.and_eq_true, Bool.not_eq_true', decide_eq_true_eq] at h
  exact ⟨h.1.1, h.1.2, h.2⟩
theorem nx_bad {f : Nat → Int32} {L : Nat} {s : pS} {lo hi : Int32} (h : s.2 = true) : nx f L s lo hi = false := by simp [nx, h]
theorem tk_of {f : Nat → Int32} {L : Nat} {s : pS} {lo hi : Int32} (h : s.2 = false) (hp : s.1 < L) (hb : inB (f s.1) lo hi = true) : tk f L s lo hi = (s.1 + 1, false) := by
  unfold tk tkC
  rw [if_pos hp, if_pos ⟨h, hb⟩]
theorem tlL_keep {f : Nat → Int32} {L : Nat} : ∀ {n : Nat} {s : pS} {c : Int32}, (tlL f L n s c).1.2 = s.2
  | 0, s, c => rfl
  | n + 1, s, c => by
    simp only [tlL]
    split
    · next h =>
      have h := nx_ok h
      rw [tlL_keep, tk_of h.1 h.2.1 h.2.2, h.1]
    · rfl
theorem tl_ok {f : Nat → Int32} {L : Nat} {s : pS} (h : (tl f L s).1.2 = false) : (tk f L s 97 122).2 = false := by rw [tl, tlL_keep] at h; exact h
theorem tw_ok {f : Nat → Int32} {L : Nat} {s : pS} (h : (tw f L s).1.2 = false) : (tk f L s 48 57).2 = false := by
  unfold tw at h
  split at h
  · next hc => exact (tk_ok (by decide) h).1
  · exact h
theorem ts_ok {f : Nat → Int32} {L : Nat} {s : pS} (h : (ts f L s).1.2 = false) : (tk f L s 49 57).2 = false := by
  unfold ts at h
  split at h
  · next hc => exact (tk_ok (by decide) h).1
  · exact h
theorem rd_chain {f : Nat → Int32} {L : Nat} (h : (rdE f L).2 = false) : (rd11 f L).1.2 = false ∧ (rd10 f L).2 = false ∧ (rd9 f L).1.2 = false ∧ (rd8 f L).2 = false ∧ (rd7 f L).1.2 = false ∧ (rd6 f L).2 = false ∧ (rd5 f L).1.2 = false ∧ (rd4 f L).2 = false ∧ (rd3 f L).1.2 = false ∧ (rd2 f L).2 = false ∧ (rd1 f L).2 = false ∧ ¬ (rd11 f L).1.1 < L := by
  have h0 : (rd11 f L).1.2 = false ∧ ¬ (rd11 f L).1.1 < L := by
    simp only [rdE, Bool.or_eq_false_iff, decide_eq_false_iff_not] at h
    exact h
  have h10 : (rd10 f L).2 = false := (tk_ok (lo := 49) (by decide) (ts_ok h0.1)).1
  have h9 : (rd9 f L).1.2 = false := (tk_ok (lo := 64) (by decide) h10).1
  have h8 : (rd8 f L).2 = false := (tk_ok (lo := 97) (by decide) (tl_ok h9)).1
  have h7 : (rd7 f L).1.2 = false := (tk_ok (lo := 61) (by decide) h8).1
  have h6 : (rd6 f L).2 = false := (tk_ok (lo := 48) (by decide) (tw_ok h7)).1
  have h5 : (rd5 f L).1.2 = false := (tk_ok (lo := 43) (by decide) h6).1
  have h4 : (rd4 f L).2 = false := (tk_ok (lo := 97) (by decide) (tl_ok h5)).1
  have h3 : (rd3 f L).1.2 = false := (tk_ok (lo := 61) (by decide) h4).1
  have h2 : (rd2 f L).2 = false := (tk_ok (lo := 48) (by decide) (tw_ok h3)).1
  exact ⟨h0.1, h10, h9, h8, h7, h6, h5, h4, h3, h2, (tk_ok (lo := 58) (by decide) h2).1, h0.2⟩
theorem inB_d {x a : Int32} {n c : Nat} (ha : a = nI n) (hn : n + c < 2 ^ 31) (h : inB x a (nI (n + c)) = true) : ∃ k, k ≤ c ∧ x - a = nI k ∧ x = nI (n + k) := by
  have h := of_decide_eq_true h
  have h0 : ¬ x < 0 := fun q => i_nlt.mpr h.1 (Int32.lt_of_lt_of_le q (by rw [ha]; exact nI_pos' (by omega)))
  obtain ⟨k, hk, rfl⟩ := nI_of h0
  have h1 := h.1
  rw [ha] at h1
  have h1 := (nI_leI (by omega) hk).mp h1
  have h2 := (nI_leI hk hn).mp h.2
  exact ⟨k - n, by omega, by rw [ha]; exact pk_sub h1, by congr 1; omega⟩
theorem rd_sol {f : Nat → Int32} {L : Nat} (h : (rdE f L).2 = false) : isIx (tkC f L (0, false) - 48) 6 := by
  have h1 := tk_ok (f := f) (L := L) (s := (0, false)) (lo := 48) (hi := 53) (by decide) (rd_chain h).2.2.2.2.2.2.2.2.2.2.1
  obtain ⟨k, hk, e, -⟩ := inB_d (n := 48) (c := 5) rfl (by decide) h1.2.2.1
  have h2 : (0 : Nat) < L := h1.2.1
  have e2 : tkC f L (0, false) = f 0 := by simp [tkC, h2]
  rw [e2, show f 0 - 48 = nI k from e]
  exact of_eq_true (isIx_t (by omega) (by decide))
def aM2 (M : wMem) : wMem := wSetI (recM (rdM M)) 252 6 0
def aTo (M : wMem) : Nat → Int32 := rdT (wI M 257) (lenM M) (wI M 258)
def aOk (v t : Nat → Int32) : Bool := decide ((v (36 + 6 * (t 1).toNatClampNeg) = 0 ∨ v (36 + 6 * (t 1).toNatClampNeg) = 2) ∧ v (36 + 6 * (t 3).toNatClampNeg) = 1)
def qAnswer (M : wMem) : Int32 :=
  if (rdE (wI M 257) (lenM M)).2 = true then -3
  else if isW (wI M 253) (aTo M 1) = true ∧ isW (wI M 253) (aTo M 3) = true then
    (if aOk (wI M 253) (aTo M) = true then anM (aM2 M) (36 + 6 * (wI (aM2 M) 258 3).toNatClampNeg) else -5)
  else -1
def aDo (M : wMem) : Bool := decide ((rdE (wI M 257) (lenM M)).2 = false ∧ isW (wI M 253) (aTo M 1) = true ∧ isW (wI M 253) (aTo M 3) = true ∧ aOk (wI M 253) (aTo M) = true)
theorem rdM_S (M : wMem) : wS (rdM M) = wS M := rfl
theorem rdM_P (M : wMem) : wP (rdM M) = wP M := rfl
theorem rdM_8 (M : wMem) : wI (rdM M) 252 8 = b2i ((rdE (wI M 257) (lenM M)).2 = true) := m2_i8 _ _ _
theorem rdM_2 (M : wMem) : wI (rdM M) 252 2 = wI M 252 2 := by
  unfold rdM mem2 setP
  rw [wF_I, if_neg (by decide), wF_I, if_pos rfl, up1_ne _ _ _ (by decide), up1_ne _ _ _ (by decide)]
theorem rdM_t (M : wMem) : wI (rdM M) 258 = aTo M := m2_t _ _ _
theorem rdM_s (M : wMem) : wI (rdM M) 253 = wI M 253 := m2_o _ _ _ (by decide) (by decide)
theorem rec_S (M : wMem) : wS (recM M) = wS M := rfl
theorem rec_P (M : wMem) : wP (recM M) = wP M := rfl
theorem rec_o (M : wMem) {q : Nat} (h1 : q ≠ 252) (h2 : q ≠ 254) : wI (recM M) q = wI M q := by unfold recM; rw [wF_I, if_neg h2, wF_I, if_neg h1]
theorem aM2_e (M : wMem) : wSetI (recM (rdM M)) 252 6 0 = aM2 M := rfl
theorem aM2_S (M : wMem) : wS (aM2 M) = wS M := rfl
theorem aM2_P (M : wMem) : wP (aM2 M) = wP M := rfl
theorem aM2_s (M : wMem) : wI (aM2 M) 253 = wI M 253 := by unfold aM2; rw [wSetI_F, wF_I, if_neg (by decide), rec_o _ (by decide) (by decide), rdM_s]
theorem aM2_t (M : wMem) : wI (aM2 M) 258 = aTo M := by unfold aM2; rw [wSetI_F, wF_I, if_neg (by decide), rec_o _ (by decide) (by decide), rdM_t]
set_option maxRecDepth 100000 in
set_option maxHeartbeats 4000000 in
theorem ct_manswer (G : wG) (M : wMem) (h : KG M) (hp : PG M) (hH : MH M) (hV : sN (wI M 253) < 180) : CT G 119 0 0 [.ref 252] M (fun o M' => o = some (.int (qAnswer M)) ∧ M' = if aDo M = true then wSetF (aM2 M) 253 (anM (aM2 M)) else rdM M) := by
  have hL := h.1
  have hL2 : MLay (rdM M) := hL
  have hKr : KG (rdM M) := ⟨hL, by unfold mK; rw [rdM_2]; exact h.2.1, by unfold mK; rw [rdM_2]; exact h.2.2⟩
  obtain ⟨l1, l2, l3, l4, l5, l6, l7, l8, l9, l10, l11, l12, l13⟩ := hL
  obtain ⟨⟨-, hn, hn2⟩, h6, h7⟩ := hH
  refine CT.intro wm_119 mo_119 (by decide +kernel) false (by simp) (Nat.le_of_ble_eq_true rfl) ?_
  have k1 : vp_in (1 : Int32) 6 := vp_in_nI (n := 1) (by decide) (by decide)
  have k3 : vp_in (3 : Int32) 6 := vp_in_nI (n := 3) (by decide) (by decide)
  cases hw : (rdE (wI M 257) (lenM M)).2 with
  | true =>
    refine wGoC (pf_answers_ok G) 160 [] [] (fun C c0 c1 c2 c3 c4 c5 c6 c7 c8 c9 c10 c11 c12 => ?_)
    simp (config := {maxSteps := 10000000}) only [i1_0, nn_t, nn_f, im_t, im_f, nn_n, xR_s, xR_z, c0, c1, c2, c3, c4, c5, c6, c7, c8, c9, c10, c11, c12, iPuI_e, iPuR_e, iPuL_e, iStoI_e, iStoR_e, iInc_e, iAdd_e, iSub_e, iMul_e, iAnd_e, iOr_e, iShl_e, iUshr_e, iDiv_e, iRem_e, iLushr_e, iLshl_e, iLand_e, iLor_e, iLcmp_e, iI2l_e, iL2i_e, iI2c_e, iDup_e, iDup2_e, iIf_e, iIfc_e, iSwA, iSw_e, iGetf_r, iGetf_i, iGetf_z, iPutf_i, iPutf_z, iPutf_rt, iPutf_rf, iGets_e, iLdc_e, iAl_e, iAl2_e, iAlr_e, iAq_e, iAq2_e, iAsI_e, iAsZ_e, iAsC_e, iAs2_e, iAt_e, iAt2_e, iLen_e, iNew_e, iNwa_e, iNwq_e, iPop, iCl2_s, iCl2_n, iIv2_e, iIv_e, iIv_c, iIs2_e, iIs_e, iIs_n, iIs_max, iIs_min, iIs_cop, iCp2_e, iIp2_e, iIp_o, iIp_2, iIp_3, iRet_i, iRet_z, iRtv_e, xE_iconst, xE_bipush, xE_sipush, xE_lconst, xE_ldc2_w, xE_iload_n, xE_iload, xE_lload_n, xE_aload_n, xE_aload, xE_istore_n, xE_istore, xE_astore_n, xE_astore, xE_iinc, xE_iadd, xE_isub, xE_imul, xE_idiv, xE_irem, xE_iand, xE_ior, xE_ishl, xE_iushr, xE_lushr, xE_lshl, xE_land, xE_lor, xE_lcmp, xE_i2l, xE_l2i, xE_i2c, xE_dup, xE_dup2, xE_ifCond, xE_if_icmp, xE_goto, xE_getfield, xE_putfield, xE_getstatic, xE_baload, xE_caload, xE_iaload, xE_aaload, xE_iastore, xE_bastore, xE_castore, xE_aastore, xE_arraylength, xE_new, xE_newarray_int, xE_newarray_boolean, xE_newarray_char, xE_anewarray, xE_checkcast, xE_invokevirtual, xE_invokestatic, xE_invokespecial, xE_ireturn, xE_return_, xE_tableswitch, eCl, eKd, wCnd, pf0, wArgs, lg_n, lg_0, lg_s, wNl_n, wNl_i, wNl_r, wCat_n, wCat_i, wCat_r, wCat_l, cInt, cRef, cLong, fv0, fv1, fv2, fv3, fw0, fw1, oi_m1, oi_0, oi_1, oi_2, oi_3, oi_4, oi_5, wRf, wLn_n, wLn_c, List.length_cons, List.length_nil, List.replicate, List.set_cons_zero, List.set_cons_succ, List.cons_append, List.nil_append, List.mem_cons, List.not_mem_nil, if_true, if_false, ↓reduceIte, true_and, and_true, or_true, true_or, or_false, false_or, Option.toList, Nat.reduceAdd, Nat.reduceSub, Nat.reduceLT, Nat.reduceLeDiff, Nat.reduceEqDiff, Nat.le_refl, eq_self, Nat.zero_le, Int.cast_ofNat_Int, Int.reduceSub, Int.reduceAdd, Int.reduceLE, Int.reduceToNat, Int.reduceNeg, Int32.reduceAdd, Int32.reduceSub, Int32.reduceMul, Int32.reduceLT, i_leF, Bool.false_eq_true, Bool.true_eq_false, b2i_T, b2i_F, b2i_0, b2i_01, i_a0, not_false_eq_true, oi_6, oi_7, oi_8, oi_9, oi_10, oi_11, oi_12, oi_13, oi_14, oi_15, oi_16, oi_17, oi_18, oi_19, oi_20, oi_21, dX8_answer_0, dX8_answer_1, co_8_118, dX8_answer_4, dX8_answer_5, fo_8_87, dX8_answer_8, dX8_answer_11, bp_m3, dX8_answer_13, dX8_answer_14, dX8_answer_15, dX8_answer_16, fo_8_26, dX8_answer_19, dX8_answer_20, dX8_answer_21, co_8_125, dX8_answer_24, dX8_answer_27, dX8_answer_28, dX8_answer_29, dX8_answer_32, dX8_answer_33, dX8_answer_34, dX8_answer_37, dX8_answer_40, dX8_answer_41, dX8_answer_42, dX8_answer_43, dX8_answer_44, dX8_answer_47, dX8_answer_48, dX8_answer_49, dX8_answer_50, co_8_129, dX8_answer_53, dX8_answer_56, dX8_answer_57, dX8_answer_58, dX8_answer_61, dX8_answer_62, dX8_answer_63, dX8_answer_64, dX8_answer_67, dX8_answer_70, dX8_answer_71, dX8_answer_72, dX8_answer_75, dX8_answer_76, dX8_answer_77, dX8_answer_78, dX8_answer_81, dX8_answer_84, bp_m5, dX8_answer_86, dX8_answer_87, dX8_answer_88, co_8_75, dX8_answer_91, dX8_answer_92, dX8_answer_93, fo_8_94, dX8_answer_96, dX8_answer_97, co_8_132, dX8_answer_100, pfA, pf1, pf_leading, s_leading, pf_weightOf, s_weightOf, pf_mleadOf, s_mleadOf, pf_find, s_find, pf_answersTo, s_answersTo, pf_entryOf, s_entryOf, pf_isWord, s_isWord, pf_isKind, s_isKind, pf_due, s_due, pf_isAgreed, s_isAgreed, pf_becomes, s_becomes, pf_lacks, s_lacks, pf_placeOf, s_placeOf, pf_placeOfSolver, s_placeOfSolver, pf_mallTrust, s_mallTrust, pf_wordsOf, s_wordsOf, pf_lettersOf, s_lettersOf, pf_letterOf, s_letterOf, pf_min, s_min, pf_xin, s_xin, pf_mis, s_mis, pf_xis, s_xis, pf_record, s_record, pf_lays, s_lays, pf_least, s_least, pf_most, s_most, pf_adds, s_adds, pf_votes, s_votes, pf_forgets, s_forgets, pf_takes, s_takes, pf_isNext, s_isNext, pf_takesLetters, s_takesLetters, pf_takesWord, s_takesWord, pf_takesSeconds, s_takesSeconds, pf_reads, s_reads, pf_answers, s_answers, hp, l1, l2, l3, l4, l5, l6, l7, l8, l9, l10, l11, l12, l13, rdM_S, rdM_P, rdM_8, hw, nI_1, i_a0, at_00, of_00, os_00, atx_1, aty_1, aty_2, aty_3, ofx_1, ofy_1, ofy_2, ofy_3, ofy_4, ofy_5, osx_1, osy_1, osy_2, osy_3, vi_0, vc_0, vi_1, vc_1, vi_2, vc_2, vi_3, vc_3, vi_4, vc_4, vi_5, vc_5, vi_6, vc_6, vi_7, vc_7, vi_8, vc_8, vi_9, vc_9, vi_10, vc_10, vi_11, vc_11]
    simp [qAnswer, aDo, hw]
  | false =>
    have hsol : isIx (aTo M 0) 6 := by
      have e : aTo M 0 = tkC (wI M 257) (lenM M) (0, false) - 48 := by simp [aTo, rdT, up1]
      rw [e]; exact rd_sol hw
    cases w1 : isW (wI M 253) (aTo M 1) with
    | false =>
      refine wGoC (pf_answers_ok G) 160 [] [] (fun C c0 c1 c2 c3 c4 c5 c6 c7 c8 c9 c10 c11 c12 => ?_)
      simp (config := {maxSteps := 10000000}) only [i1_0, nn_t, nn_f, im_t, im_f, nn_n, xR_s, xR_z, c0, c1, c2, c3, c4, c5, c6, c7, c8, c9, c10, c11, c12, iPuI_e, iPuR_e, iPuL_e, iStoI_e, iStoR_e, iInc_e, iAdd_e, iSub_e, iMul_e, iAnd_e, iOr_e, iShl_e, iUshr_e, iDiv_e, iRem_e, iLushr_e, iLshl_e, iLand_e, iLor_e, iLcmp_e, iI2l_e, iL2i_e, iI2c_e, iDup_e, iDup2_e, iIf_e, iIfc_e, iSwA, iSw_e, iGetf_r, iGetf_i, iGetf_z, iPutf_i, iPutf_z, iPutf_rt, iPutf_rf, iGets_e, iLdc_e, iAl_e, iAl2_e, iAlr_e, iAq_e, iAq2_e, iAsI_e, iAsZ_e, iAsC_e, iAs2_e, iAt_e, iAt2_e, iLen_e, iNew_e, iNwa_e, iNwq_e, iPop, iCl2_s, iCl2_n, iIv2_e, iIv_e, iIv_c, iIs2_e, iIs_e, iIs_n, iIs_max, iIs_min, iIs_cop, iCp2_e, iIp2_e, iIp_o, iIp_2, iIp_3, iRet_i, iRet_z, iRtv_e, xE_iconst, xE_bipush, xE_sipush, xE_lconst, xE_ldc2_w, xE_iload_n, xE_iload, xE_lload_n, xE_aload_n, xE_aload, xE_istore_n, xE_istore, xE_astore_n, xE_astore, xE_iinc, xE_iadd, xE_isub, xE_imul, xE_idiv, xE_irem, xE_iand, xE_ior, xE_ishl, xE_iushr, xE_lushr, xE_lshl, xE_land, xE_lor, xE_lcmp, xE_i2l, xE_l2i, xE_i2c, xE_dup, xE_dup2, xE_ifCond, xE_if_icmp, xE_goto, xE_getfield, xE_putfield, xE_getstatic, xE_baload, xE_caload, xE_iaload, xE_aaload, xE_iastore, xE_bastore, xE_castore, xE_aastore, xE_arraylength, xE_new, xE_newarray_int, xE_newarray_boolean, xE_newarray_char, xE_anewarray, xE_checkcast, xE_invokevirtual, xE_invokestatic, xE_invokespecial, xE_ireturn, xE_return_, xE_tableswitch, eCl, eKd, wCnd, pf0, wArgs, lg_n, lg_0, lg_s, wNl_n, wNl_i, wNl_r, wCat_n, wCat_i, wCat_r, wCat_l, cInt, cRef, cLong, fv0, fv1, fv2, fv3, fw0, fw1, oi_m1, oi_0, oi_1, oi_2, oi_3, oi_4, oi_5, wRf, wLn_n, wLn_c, List.length_cons, List.length_nil, List.replicate, List.set_cons_zero, List.set_cons_succ, List.cons_append, List.nil_append, List.mem_cons, List.not_mem_nil, if_true, if_false, ↓reduceIte, true_and, and_true, or_true, true_or, or_false, false_or, Option.toList, Nat.reduceAdd, Nat.reduceSub, Nat.reduceLT, Nat.reduceLeDiff, Nat.reduceEqDiff, Nat.le_refl, eq_self, Nat.zero_le, Int.cast_ofNat_Int, Int.reduceSub, Int.reduceAdd, Int.reduceLE, Int.reduceToNat, Int.reduceNeg, Int32.reduceAdd, Int32.reduceSub, Int32.reduceMul, Int32.reduceLT, i_leF, Bool.false_eq_true, Bool.true_eq_false, b2i_T, b2i_F, b2i_0, b2i_01, i_a0, not_false_eq_true, oi_6, oi_7, oi_8, oi_9, oi_10, oi_11, oi_12, oi_13, oi_14, oi_15, oi_16, oi_17, oi_18, oi_19, oi_20, oi_21, dX8_answer_0, dX8_answer_1, co_8_118, dX8_answer_4, dX8_answer_5, fo_8_87, dX8_answer_8, dX8_answer_11, bp_m3, dX8_answer_13, dX8_answer_14, dX8_answer_15, dX8_answer_16, fo_8_26, dX8_answer_19, dX8_answer_20, dX8_answer_21, co_8_125, dX8_answer_24, dX8_answer_27, dX8_answer_28, dX8_answer_29, dX8_answer_32, dX8_answer_33, dX8_answer_34, dX8_answer_37, dX8_answer_40, dX8_answer_41, dX8_answer_42, dX8_answer_43, dX8_answer_44, dX8_answer_47, dX8_answer_48, dX8_answer_49, dX8_answer_50, co_8_129, dX8_answer_53, dX8_answer_56, dX8_answer_57, dX8_answer_58, dX8_answer_61, dX8_answer_62, dX8_answer_63, dX8_answer_64, dX8_answer_67, dX8_answer_70, dX8_answer_71, dX8_answer_72, dX8_answer_75, dX8_answer_76, dX8_answer_77, dX8_answer_78, dX8_answer_81, dX8_answer_84, bp_m5, dX8_answer_86, dX8_answer_87, dX8_answer_88, co_8_75, dX8_answer_91, dX8_answer_92, dX8_answer_93, fo_8_94, dX8_answer_96, dX8_answer_97, co_8_132, dX8_answer_100, pfA, pf1, pf_leading, s_leading, pf_weightOf, s_weightOf, pf_mleadOf, s_mleadOf, pf_find, s_find, pf_answersTo, s_answersTo, pf_entryOf, s_entryOf, pf_isWord, s_isWord, pf_isKind, s_isKind, pf_due, s_due, pf_isAgreed, s_isAgreed, pf_becomes, s_becomes, pf_lacks, s_lacks, pf_placeOf, s_placeOf, pf_placeOfSolver, s_placeOfSolver, pf_mallTrust, s_mallTrust, pf_wordsOf, s_wordsOf, pf_lettersOf, s_lettersOf, pf_letterOf, s_letterOf, pf_min, s_min, pf_xin, s_xin, pf_mis, s_mis, pf_xis, s_xis, pf_record, s_record, pf_lays, s_lays, pf_least, s_least, pf_most, s_most, pf_adds, s_adds, pf_votes, s_votes, pf_forgets, s_forgets, pf_takes, s_takes, pf_isNext, s_isNext, pf_takesLetters, s_takesLetters, pf_takesWord, s_takesWord, pf_takesSeconds, s_takesSeconds, pf_reads, s_reads, pf_answers, s_answers, hp, hL2, l1, l2, l3, l4, l5, l6, l7, l8, l9, l10, l11, l12, l13, rdM_S, rdM_P, rdM_8, rdM_t, rdM_s, hw, w1, k1, k3, nI_1, i_a0, at_00, of_00, os_00, atx_1, aty_1, aty_2, aty_3, ofx_1, ofy_1, ofy_2, ofy_3, ofy_4, ofy_5, osx_1, osy_1, osy_2, osy_3, vi_0, vc_0, vi_1, vc_1, vi_2, vc_2, vi_3, vc_3, vi_4, vc_4, vi_5, vc_5, vi_6, vc_6, vi_7, vc_7, vi_8, vc_8, vi_9, vc_9, vi_10, vc_10, vi_11, vc_11]
      simp [qAnswer, aDo, hw, w1]
    | true =>
      cases w3 : isW (wI M 253) (aTo M 3) with
      | false =>
        refine wGoC (pf_answers_ok G) 160 [] [] (fun C c0 c1 c2 c3 c4 c5 c6 c7 c8 c9 c10 c11 c12 => ?_)
        simp (config := {maxSteps := 10000000}) only [i1_0, nn_t, nn_f, im_t, im_f, nn_n, xR_s, xR_z, c0, c1, c2, c3, c4, c5, c6, c7, c8, c9, c10, c11, c12, iPuI_e, iPuR_e, iPuL_e, iStoI_e, iStoR_e, iInc_e, iAdd_e, iSub_e, iMul_e, iAnd_e, iOr_e, iShl_e, iUshr_e, iDiv_e, iRem_e, iLushr_e, iLshl_e, iLand_e, iLor_e, iLcmp_e, iI2l_e, iL2i_e, iI2c_e, iDup_e, iDup2_e, iIf_e, iIfc_e, iSwA, iSw_e, iGetf_r, iGetf_i, iGetf_z, iPutf_i, iPutf_z, iPutf_rt, iPutf_rf, iGets_e, iLdc_e, iAl_e, iAl2_e, iAlr_e, iAq_e, iAq2_e, iAsI_e, iAsZ_e, iAsC_e, iAs2_e, iAt_e, iAt2_e, iLen_e, iNew_e, iNwa_e, iNwq_e, iPop, iCl2_s, iCl2_n, iIv2_e, iIv_e, iIv_c, iIs2_e, iIs_e, iIs_n, iIs_max, iIs_min, iIs_cop, iCp2_e, iIp2_e, iIp_o, iIp_2, iIp_3, iRet_i, iRet_z, iRtv_e, xE_iconst, xE_bipush, xE_sipush, xE_lconst, xE_ldc2_w, xE_iload_n, xE_iload, xE_lload_n, xE_aload_n, xE_aload, xE_istore_n, xE_istore, xE_astore_n, xE_astore, xE_iinc, xE_iadd, xE_isub, xE_imul, xE_idiv, xE_irem, xE_iand, xE_ior, xE_ishl, xE_iushr, xE_lushr, xE_lshl, xE_land, xE_lor, xE_lcmp, xE_i2l, xE_l2i, xE_i2c, xE_dup, xE_dup2, xE_ifCond, xE_if_icmp, xE_goto, xE_getfield, xE_putfield, xE_getstatic, xE_baload, xE_caload, xE_iaload, xE_aaload, xE_iastore, xE_bastore, xE_castore, xE_aastore, xE_arraylength, xE_new, xE_newarray_int, xE_newarray_boolean, xE_newarray_char, xE_anewarray, xE_checkcast, xE_invokevirtual, xE_invokestatic, xE_invokespecial, xE_ireturn, xE_return_, xE_tableswitch, eCl, eKd, wCnd, pf0, wArgs, lg_n, lg_0, lg_s, wNl_n, wNl_i, wNl_r, wCat_n, wCat_i, wCat_r, wCat_l, cInt, cRef, cLong, fv0, fv1, fv2, fv3, fw0, fw1, oi_m1, oi_0, oi_1, oi_2, oi_3, oi_4, oi_5, wRf, wLn_n, wLn_c, List.length_cons, List.length_nil, List.replicate, List.set_cons_zero, List.set_cons_succ, List.cons_append, List.nil_append, List.mem_cons, List.not_mem_nil, if_true, if_false, ↓reduceIte, true_and, and_true, or_true, true_or, or_false, false_or, Option.toList, Nat.reduceAdd, Nat.reduceSub, Nat.reduceLT, Nat.reduceLeDiff, Nat.reduceEqDiff, Nat.le_refl, eq_self, Nat.zero_le, Int.cast_ofNat_Int, Int.reduceSub, Int.reduceAdd, Int.reduceLE, Int.reduceToNat, Int.reduceNeg, Int32.reduceAdd, Int32.reduceSub, Int32.reduceMul, Int32.reduceLT, i_leF, Bool.false_eq_true, Bool.true_eq_false, b2i_T, b2i_F, b2i_0, b2i_01, i_a0, not_false_eq_true, oi_6, oi_7, oi_8, oi_9, oi_10, oi_11, oi_12, oi_13, oi_14, oi_15, oi_16, oi_17, oi_18, oi_19, oi_20, oi_21, dX8_answer_0, dX8_answer_1, co_8_118, dX8_answer_4, dX8_answer_5, fo_8_87, dX8_answer_8, dX8_answer_11, bp_m3, dX8_answer_13, dX8_answer_14, dX8_answer_15, dX8_answer_16, fo_8_26, dX8_answer_19, dX8_answer_20, dX8_answer_21, co_8_125, dX8_answer_24, dX8_answer_27, dX8_answer_28, dX8_answer_29, dX8_answer_32, dX8_answer_33, dX8_answer_34, dX8_answer_37, dX8_answer_40, dX8_answer_41, dX8_answer_42, dX8_answer_43, dX8_answer_44, dX8_answer_47, dX8_answer_48, dX8_answer_49, dX8_answer_50, co_8_129, dX8_answer_53, dX8_answer_56, dX8_answer_57, dX8_answer_58, dX8_answer_61, dX8_answer_62, dX8_answer_63, dX8_answer_64, dX8_answer_67, dX8_answer_70, dX8_answer_71, dX8_answer_72, dX8_answer_75, dX8_answer_76, dX8_answer_77, dX8_answer_78, dX8_answer_81, dX8_answer_84, bp_m5, dX8_answer_86, dX8_answer_87, dX8_answer_88, co_8_75, dX8_answer_91, dX8_answer_92, dX8_answer_93, fo_8_94, dX8_answer_96, dX8_answer_97, co_8_132, dX8_answer_100, pfA, pf1, pf_leading, s_leading, pf_weightOf, s_weightOf, pf_mleadOf, s_mleadOf, pf_find, s_find, pf_answersTo, s_answersTo, pf_entryOf, s_entryOf, pf_isWord, s_isWord, pf_isKind, s_isKind, pf_due, s_due, pf_isAgreed, s_isAgreed, pf_becomes, s_becomes, pf_lacks, s_lacks, pf_placeOf, s_placeOf, pf_placeOfSolver, s_placeOfSolver, pf_mallTrust, s_mallTrust, pf_wordsOf, s_wordsOf, pf_lettersOf, s_lettersOf, pf_letterOf, s_letterOf, pf_min, s_min, pf_xin, s_xin, pf_mis, s_mis, pf_xis, s_xis, pf_record, s_record, pf_lays, s_lays, pf_least, s_least, pf_most, s_most, pf_adds, s_adds, pf_votes, s_votes, pf_forgets, s_forgets, pf_takes, s_takes, pf_isNext, s_isNext, pf_takesLetters, s_takesLetters, pf_takesWord, s_takesWord, pf_takesSeconds, s_takesSeconds, pf_reads, s_reads, pf_answers, s_answers, hp, hL2, l1, l2, l3, l4, l5, l6, l7, l8, l9, l10, l11, l12, l13, rdM_S, rdM_P, rdM_8, rdM_t, rdM_s, hw, w1, w3, k1, k3, nI_1, i_a0, at_00, of_00, os_00, atx_1, aty_1, aty_2, aty_3, ofx_1, ofy_1, ofy_2, ofy_3, ofy_4, ofy_5, osx_1, osy_1, osy_2, osy_3, vi_0, vc_0, vi_1, vc_1, vi_2, vc_2, vi_3, vc_3, vi_4, vc_4, vi_5, vc_5, vi_6, vc_6, vi_7, vc_7, vi_8, vc_8, vi_9, vc_9, vi_10, vc_10, vi_11, vc_11]
        simp [qAnswer, aDo, hw, w1, w3]
      | true =>
        obtain ⟨a, ha, t1⟩ := isW_k h6 h7 w1
        obtain ⟨b, hb, t3⟩ := isW_k h6 h7 w3
        have w1' := w1
        have w3' := w3
        rw [t1] at w1'
        rw [t3] at w3'
        have hN : NG (aM2 M) := by
          refine ⟨⟨⟨h.1, ?_, ?_⟩, ?_⟩, ?_, ?_, ?_⟩
          · rw [aM2_s]; exact hn
          · rw [aM2_s]; exact hn2
          · rw [aM2_s]; exact hV
          · rw [aM2_t]; exact hsol
          · rw [aM2_t, t1]; exact of_eq_true (isIx_t (by omega) (by decide))
          · rw [aM2_t, t3]; exact of_eq_true (isIx_t (by omega) (by decide))
        have ca := nI_clamp (show a < 2 ^ 31 by omega)
        have cb := nI_clamp (show b < 2 ^ 31 by omega)
        refine wGoC (pf_answers_ok G) 160 [] [] (fun C c0 c1 c2 c3 c4 c5 c6 c7 c8 c9 c10 c11 c12 => ?_)
        simp (config := {maxSteps := 10000000}) only [i1_0, nn_t, nn_f, im_t, im_f, nn_n, xR_s, xR_z, c0, c1, c2, c3, c4, c5, c6, c7, c8, c9, c10, c11, c12, iPuI_e, iPuR_e, iPuL_e, iStoI_e, iStoR_e, iInc_e, iAdd_e, iSub_e, iMul_e, iAnd_e, iOr_e, iShl_e, iUshr_e, iDiv_e, iRem_e, iLushr_e, iLshl_e, iLand_e, iLor_e, iLcmp_e, iI2l_e, iL2i_e, iI2c_e, iDup_e, iDup2_e, iIf_e, iIfc_e, iSwA, iSw_e, iGetf_r, iGetf_i, iGetf_z, iPutf_i, iPutf_z, iPutf_rt, iPutf_rf, iGets_e, iLdc_e, iAl_e, iAl2_e, iAlr_e, iAq_e, iAq2_e, iAsI_e, iAsZ_e, iAsC_e, iAs2_e, iAt_e, iAt2_e, iLen_e, iNew_e, iNwa_e, iNwq_e, iPop, iCl2_s, iCl2_n, iIv2_e, iIv_e, iIv_c, iIs2_e, iIs_e, iIs_n, iIs_max, iIs_min, iIs_cop, iCp2_e, iIp2_e, iIp_o, iIp_2, iIp_3, iRet_i, iRet_z, iRtv_e, xE_iconst, xE_bipush, xE_sipush, xE_lconst, xE_ldc2_w, xE_iload_n, xE_iload, xE_lload_n, xE_aload_n, xE_aload, xE_istore_n, xE_istore, xE_astore_n, xE_astore, xE_iinc, xE_iadd, xE_isub, xE_imul, xE_idiv, xE_irem, xE_iand, xE_ior, xE_ishl, xE_iushr, xE_lushr, xE_lshl, xE_land, xE_lor, xE_lcmp, xE_i2l, xE_l2i, xE_i2c, xE_dup, xE_dup2, xE_ifCond, xE_if_icmp, xE_goto, xE_getfield, xE_putfield, xE_getstatic, xE_baload, xE_caload, xE_iaload, xE_aaload, xE_iastore, xE_bastore, xE_castore, xE_aastore, xE_arraylength, xE_new, xE_newarray_int, xE_newarray_boolean, xE_newarray_char, xE_anewarray, xE_checkcast, xE_invokevirtual, xE_invokestatic, xE_invokespecial, xE_ireturn, xE_return_, xE_tableswitch, eCl, eKd, wCnd, pf0, wArgs, lg_n, lg_0, lg_s, wNl_n, wNl_i, wNl_r, wCat_n, wCat_i, wCat_r, wCat_l, cInt, cRef, cLong, fv0, fv1, fv2, fv3, fw0, fw1, oi_m1, oi_0, oi_1, oi_2, oi_3, oi_4, oi_5, wRf, wLn_n, wLn_c, List.length_cons, List.length_nil, List.replicate, List.set_cons_zero, List.set_cons_succ, List.cons_append, List.nil_append, List.mem_cons, List.not_mem_nil, if_true, if_false, ↓reduceIte, true_and, and_true, or_true, true_or, or_false, false_or, Option.toList, Nat.reduceAdd, Nat.reduceSub, Nat.reduceLT, Nat.reduceLeDiff, Nat.reduceEqDiff, Nat.le_refl, eq_self, Nat.zero_le, Int.cast_ofNat_Int, Int.reduceSub, Int.reduceAdd, Int.reduceLE, Int.reduceToNat, Int.reduceNeg, Int32.reduceAdd, Int32.reduceSub, Int32.reduceMul, Int32.reduceLT, i_leF, Bool.false_eq_true, Bool.true_eq_false, b2i_T, b2i_F, b2i_0, b2i_01, i_a0, not_false_eq_true, oi_6, oi_7, oi_8, oi_9, oi_10, oi_11, oi_12, oi_13, oi_14, oi_15, oi_16, oi_17, oi_18, oi_19, oi_20, oi_21, dX8_answer_0, dX8_answer_1, co_8_118, dX8_answer_4, dX8_answer_5, fo_8_87, dX8_answer_8, dX8_answer_11, bp_m3, dX8_answer_13, dX8_answer_14, dX8_answer_15, dX8_answer_16, fo_8_26, dX8_answer_19, dX8_answer_20, dX8_answer_21, co_8_125, dX8_answer_24, dX8_answer_27, dX8_answer_28, dX8_answer_29, dX8_answer_32, dX8_answer_33, dX8_answer_34, dX8_answer_37, dX8_answer_40, dX8_answer_41, dX8_answer_42, dX8_answer_43, dX8_answer_44, dX8_answer_47, dX8_answer_48, dX8_answer_49, dX8_answer_50, co_8_129, dX8_answer_53, dX8_answer_56, dX8_answer_57, dX8_answer_58, dX8_answer_61, dX8_answer_62, dX8_answer_63, dX8_answer_64, dX8_answer_67, dX8_answer_70, dX8_answer_71, dX8_answer_72, dX8_answer_75, dX8_answer_76, dX8_answer_77, dX8_answer_78, dX8_answer_81, dX8_answer_84, bp_m5, dX8_answer_86, dX8_answer_87, dX8_answer_88, co_8_75, dX8_answer_91, dX8_answer_92, dX8_answer_93, fo_8_94, dX8_answer_96, dX8_answer_97, co_8_132, dX8_answer_100, pfA, pf1, pf_leading, s_leading, pf_weightOf, s_weightOf, pf_mleadOf, s_mleadOf, pf_find, s_find, pf_answersTo, s_answersTo, pf_entryOf, s_entryOf, pf_isWord, s_isWord, pf_isKind, s_isKind, pf_due, s_due, pf_isAgreed, s_isAgreed, pf_becomes, s_becomes, pf_lacks, s_lacks, pf_placeOf, s_placeOf, pf_placeOfSolver, s_placeOfSolver, pf_mallTrust, s_mallTrust, pf_wordsOf, s_wordsOf, pf_lettersOf, s_lettersOf, pf_letterOf, s_letterOf, pf_min, s_min, pf_xin, s_xin, pf_mis, s_mis, pf_xis, s_xis, pf_record, s_record, pf_lays, s_lays, pf_least, s_least, pf_most, s_most, pf_adds, s_adds, pf_votes, s_votes, pf_forgets, s_forgets, pf_takes, s_takes, pf_isNext, s_isNext, pf_takesLetters, s_takesLetters, pf_takesWord, s_takesWord, pf_takesSeconds, s_takesSeconds, pf_reads, s_reads, pf_answers, s_answers, hp, hL2, hKr, hN, l1, l2, l3, l4, l5, l6, l7, l8, l9, l10, l11, l12, l13, rdM_S, rdM_P, rdM_8, rdM_t, rdM_s, rec_S, rec_P, aM2_e, aM2_S, aM2_P, hw, t1, t3, w1', w3', k1, k3, isIx_t (show a < 12 by omega) (by decide), nI_clamp (show a < 2 ^ 31 by omega), oc_0 (show a ≤ 12 by omega), ov_0 (show a ≤ 12 by omega), oc_1 (show a ≤ 12 by omega), ov_1 (show a ≤ 12 by omega), oc_2 (show a ≤ 12 by omega), ov_2 (show a ≤ 12 by omega), oc_3 (show a ≤ 12 by omega), ov_3 (show a ≤ 12 by omega), oc_4 (show a ≤ 12 by omega), ov_4 (show a ≤ 12 by omega), oc_5 (show a ≤ 12 by omega), ov_5 (show a ≤ 12 by omega), isIx_t (show b < 12 by omega) (by decide), nI_clamp (show b < 2 ^ 31 by omega), oc_0 (show b ≤ 12 by omega), ov_0 (show b ≤ 12 by omega), oc_1 (show b ≤ 12 by omega), ov_1 (show b ≤ 12 by omega), oc_2 (show b ≤ 12 by omega), ov_2 (show b ≤ 12 by omega), oc_3 (show b ≤ 12 by omega), ov_3 (show b ≤ 12 by omega), oc_4 (show b ≤ 12 by omega), ov_4 (show b ≤ 12 by omega), oc_5 (show b ≤ 12 by omega), ov_5 (show b ≤ 12 by omega), nI_1, i_a0, at_00, of_00, os_00, atx_1, aty_1, aty_2, aty_3, ofx_1, ofy_1, ofy_2, ofy_3, ofy_4, ofy_5, osx_1, osy_1, osy_2, osy_3, vi_0, vc_0, vi_1, vc_1, vi_2, vc_2, vi_3, vc_3, vi_4, vc_4, vi_5, vc_5, vi_6, vc_6, vi_7, vc_7, vi_8, vc_8, vi_9, vc_9, vi_10, vc_10, vi_11, vc_11]
        repeat' (first | refine And.intro ?_ ?_ | (with_reducible show _ → _; intro _))
        all_goals simp [qAnswer, aDo, aOk, w1', w3', *]
