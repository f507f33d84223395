set_option maxRecDepth 100000 in
set_option maxHeartbeats 4000000 in
theorem ct_readPart (G : wG) (M : wMem) (q : Nat) (h : CG M) (hq : q = 4 ∨ q = 5) : CT G 21 0 0 [.ref 1, .ref q] M (fun o M' => o = some (.int (b2i (ptK (wI M 3) (lenC M) (posC M) = true))) ∧ M' = wSetI (wSetI (cAt M (ptP (wI M 3) (lenC M) (posC M))) q 0 (wnV (wI M 3) (lenC M) (posC M))) q 1 (ptC (wI M 3) (lenC M) (posC M) (wI M q 1))) := by
  have hC := h
  obtain ⟨hXG, hp, hpb⟩ := h
  have hX := hXG.1
  have hlb := hXG.2.2
  obtain ⟨⟨x1, x2, x3, x4, x5, x6, x7⟩, ⟨p1, p2, p3⟩, ⟨d1, d2, d3, d4, d5, d6⟩, ⟨f1, f2, f3, f4, f5⟩⟩ := hX
  have hS : wS M q = some (2, 0) := by rcases hq with rfl | rfl <;> assumption
  have q3 : (q = 1) = False := eq_false (by rcases hq with rfl | rfl <;> decide)
  have q2 : (q = 3) = False := eq_false (by rcases hq with rfl | rfl <;> decide)
  have q0 : (0 = 1 ∧ 0 = 1) = False := eq_false (by decide)
  have hor : q = 1 ∧ 0 ≠ 1 ∨ q = 4 ∨ q = 5 := Or.inr hq
  have hor1 : q = 1 ∧ 1 ≠ 1 ∨ q = 4 ∨ q = 5 := Or.inr hq
  refine CT.intro wm_21 mo_21 (by decide +kernel) false (by simp) (Nat.le_of_ble_eq_true rfl) ?_
  generalize hf : wI M 3 = f
  generalize hl : lenC M = L at *
  generalize hpp : posC M = p at *
  have b1 := wnP_le (f := f) (L := L) (p := p) hlb hpb
  have b2 := sgP_le (f := f) (L := L) (c := 61) hlb b1
  have hC2 : ∀ x r, r ≤ 60 → CG (wSetI (cAt M r) q 0 x) := fun x r hr => CG_s (CG_at hXG hr) hor
  have hP2 : ∀ x r, r ≤ 60 → posC (wSetI (cAt M r) q 0 x) = r := fun x r hr => by rw [posC_s hor, posC_at hr]
  have hL2 : ∀ x r, lenC (wSetI (cAt M r) q 0 x) = L := fun x r => by rw [lenC_s hor, lenC_at, hl]
  have hf2 : ∀ x r, wI (wSetI (cAt M r) q 0 x) 3 = f := fun x r => by rw [ch_s (by rw [Ne, q2]; exact id), cAt_f _ _ _ (by decide), hf]
  have hA2 : ∀ x r r', cAt (wSetI (cAt M r) q 0 x) r' = wSetI (cAt M r') q 0 x := fun x r r' => by rw [cAt_s _ _ _ _ _ (fun t => by rw [q3] at t; exact t.1), cAt_at]
  have hid : ∀ x r, wSetI (wSetI (cAt M r) q 0 x) q 1 (wI M q 1) = wSetI (cAt M r) q 0 x := by
    intro x r
    refine wM_ext rfl rfl (fun a b => ?_) rfl
    rw [wI_setI]
    split
    · next hab =>
      obtain ⟨rfl, rfl⟩ := hab
      rw [wI_setI, if_neg (fun t => absurd t.2 (by decide)), cAt_i, if_neg (fun t => by rw [q3] at t; exact t.1)]
    · rfl
  refine wGoC (pf_readSeconds_ok G) 120 [] [] (fun C c0 c1 c2 c3 c4 c5 c6 c7 c8 c9 c10 c11 c12 => ?_)
  simp (config := {maxSteps := 10000000}) only [i1_0, nn_t, nn_f, im_t, im_f, nn_n, xR_s, xR_z, c0, c1, c2, c3, c4, c5, c6, c7, c8, c9, c10, c11, c12, iPuI_e, iPuR_e, iPuL_e, iStoI_e, iStoR_e, iInc_e, iAdd_e, iSub_e, iMul_e, iAnd_e, iOr_e, iShl_e, iShr_e, iPo_i, iLdi_e, iUshr_e, iDiv_e, iRem_e, iLushr_e, iLshl_e, iLand_e, iLor_e, iLcmp_e, iI2l_e, iL2i_e, iI2c_e, iDup_e, iDup2_e, iIf_e, iIfc_e, iSwA, iSw_e, iGetf_r, iGetf_i, iGetf_z, iPutf_i, iPutf_z, iPutf_rt, iPutf_rf, iGets_e, iLdc_e, iAl_e, iAl2_e, iAlr_e, iAq_e, iAq2_e, iAsI_e, iAsZ_e, iAsC_e, iAs2_e, iAt_e, iAt2_e, iLen_e, iNew_e, iNwa_e, iNwq_e, iPop, iCl2_s, iCl2_n, iIv2_e, iIv_e, iIv_c, iIs2_e, iIs_e, iIs_n, iIs_max, iIs_min, iIs_cop, iCp2_e, iIp2_e, iIp_o, iIp_2, iIp_3, iRet_i, iRet_z, iRtv_e, xE_iconst, xE_bipush, xE_sipush, xE_lconst, xE_ldc2_w, xE_iload_n, xE_iload, xE_lload_n, xE_aload_n, xE_aload, xE_istore_n, xE_istore, xE_astore_n, xE_astore, xE_iinc, xE_iadd, xE_isub, xE_imul, xE_idiv, xE_irem, xE_iand, xE_ior, xE_ishl, xE_ishr, xE_pop, xE_ldc, xE_iushr, xE_lushr, xE_lshl, xE_land, xE_lor, xE_lcmp, xE_i2l, xE_l2i, xE_i2c, xE_dup, xE_dup2, xE_ifCond, xE_if_icmp, xE_goto, xE_getfield, xE_putfield, xE_getstatic, xE_baload, xE_caload, xE_iaload, xE_aaload, xE_iastore, xE_bastore, xE_castore, xE_aastore, xE_arraylength, xE_new, xE_newarray_int, xE_newarray_boolean, xE_newarray_char, xE_anewarray, xE_checkcast, xE_invokevirtual, xE_invokestatic, xE_invokespecial, xE_ireturn, xE_return_, xE_tableswitch, eCl, eKd, wCnd, pf0, wArgs, lg_n, lg_0, lg_s, wNl_n, wNl_i, wNl_r, wCat_n, wCat_i, wCat_r, wCat_l, cInt, cRef, cLong, fv0, fv1, fv2, fv3, fw0, fw1, oi_m1, oi_0, oi_1, oi_2, oi_3, oi_4, oi_5, wRf, wLn_n, wLn_c, List.length_cons, List.length_nil, List.replicate, List.set_cons_zero, List.set_cons_succ, List.cons_append, List.nil_append, List.mem_cons, List.not_mem_nil, if_true, if_false, ↓reduceIte, true_and, and_true, or_true, true_or, or_false, false_or, Option.toList, Nat.reduceAdd, Nat.reduceSub, Nat.reduceLT, Nat.reduceLeDiff, Nat.reduceEqDiff, Nat.le_refl, eq_self, Nat.zero_le, Int.cast_ofNat_Int, Int.reduceSub, Int.reduceAdd, Int.reduceLE, Int.reduceToNat, Int.reduceNeg, Int32.reduceAdd, Int32.reduceSub, Int32.reduceMul, Int32.reduceLT, i_leF, Bool.false_eq_true, Bool.true_eq_false, b2i_T, b2i_F, b2i_0, b2i_01, i_a0, not_false_eq_true, oi_6, oi_7, oi_8, oi_9, oi_10, oi_11, oi_12, oi_13, oi_14, oi_15, oi_16, oi_17, oi_18, oi_19, oi_20, oi_21, dX3_readPart_0, dX3_readPart_1, dX3_readPart_2, co_3_61, dX3_readPart_5, fo_3_64, dX3_readPart_8, dX3_readPart_9, dX3_readPart_12, dX3_readPart_15, dX3_readPart_16, bp_61, dX3_readPart_18, co_3_43, dX3_readPart_21, dX3_readPart_24, dX3_readPart_25, dX3_readPart_26, dX3_readPart_27, dX3_readPart_28, co_3_32, dX3_readPart_31, fo_3_67, dX3_readPart_34, dX3_readPart_35, dX3_readPart_38, dX3_readPart_41, dX3_readPart_42, dX3_readPart_45, dX3_readPart_46, pfA, pf1, pf_xin, s_xin, pf_xis, s_xis, pf_xleadingLetters, s_xleadingLetters, pf_xleadingWeight, s_xleadingWeight, pf_xleadOf, s_xleadOf, pf_lettersIn, s_lettersIn, pf_aboutLetters, s_aboutLetters, pf_xhasWord, s_xhasWord, pf_xhasRoom, s_xhasRoom, pf_xkind, s_xkind, pf_xtbr, s_xtbr, pf_xlack, s_xlack, pf_xrank, s_xrank, pf_xwok, s_xwok, pf_xaa, s_xaa, pf_xar, s_xar, pf_xat, s_xat, pf_xunl, s_xunl, pf_xpla, s_xpla, pf_xrbw, s_xrbw, pf_xlw, s_xlw, pf_xlo, s_xlo, pf_isTold, s_isTold, pf_readDigit, s_readDigit, pf_readSign, s_readSign, pf_readLetters, s_readLetters, pf_readWordNumber, s_readWordNumber, pf_readSolver, s_readSolver, pf_readSeconds, s_readSeconds, hC, hC2, hP2, hL2, hf2, hA2, b1, b2, hf, hl, hpp, hS, cAt_S, cAt_P, wS_setI, wP_setI, wI_setI, and_true, and_false, false_and, true_and, Nat.reduceEqDiff, x1, x2, x3, x4, x5, x6, x7, p1, p2, p3, d1, d2, d3, d4, d5, d6, f1, f2, f3, f4, f5]
  repeat' (first | refine And.intro ?_ ?_ | (with_reducible show _ → _; intro _))
  all_goals first | (simp [ptK, ptA, ptP, ptC, sgP, hid, b2i, *]; done) | (simp_all [ptK, ptA, ptP, ptC, sgP, b2i]; done)
def s_readPart : List Value → wMem → Option (Prop × Option Value × wMem) := fun As M => match As with | [.ref r, .ref q] => if r = 1 then some (CG M ∧ (q = 4 ∨ q = 5), some (.int (b2i (ptK (wI M 3) (lenC M) (posC M) = true))), wSetI (wSetI (cAt M (ptP (wI M 3) (lenC M) (posC M))) q 0 (wnV (wI M 3) (lenC M) (posC M))) q 1 (ptC (wI M 3) (lenC M) (posC M) (wI M q 1))) else none | _ => none
def pf_readPart : wPft := pfA 21 s_readPart pf_readSeconds
theorem pf_readPart_ok (G : wG) : wPfOk G pf_readPart := by
  refine pfA_ok (fun As M g o M2 h hg => ?_) (pf_readSeconds_ok G)
  unfold s_readPart at h
  split at h
  · split at h
    · next hc => obtain hc := hc; subst hc; cases h; exact ct_readPart G M _ hg.1 hg.2
    · cases h
  · cases h

set_option maxRecDepth 100000 in
set_option maxHeartbeats 4000000 in
theorem ct_readWholeAsLetters (G : wG) (M : wMem) (h : XG M) : CT G 18 0 0 [.ref 1] M (fun o M' => o = some (.int (if (rl (wI M 3) (lenC M) 6 0 0).1 = lenC M then (rl (wI M 3) (lenC M) 6 0 0).2 else 0)) ∧ M' = cAt M (rl (wI M 3) (lenC M) 6 0 0).1) := by
  have hX := h.1
  have hlb := h.2.2
  have hl := h.2.1
  obtain ⟨⟨x1, x2, x3, x4, x5, x6, x7⟩, ⟨p1, p2, p3⟩, ⟨d1, d2, d3, d4, d5, d6⟩, ⟨f1, f2, f3, f4, f5⟩⟩ := hX
  refine CT.intro wm_18 mo_18 (by decide +kernel) false (by simp) (Nat.le_of_ble_eq_true rfl) ?_
  have b0 : 0 ≤ 60 := by decide
  have b1 := rl_le (f := wI M 3) (n := 6) (c := 0) hlb b0
  have e1 : wI (cAt M (rl (wI M 3) (lenC M) 6 0 0).1) 1 1 = nI (rl (wI M 3) (lenC M) 6 0 0).1 := by rw [cAt_i, if_pos ⟨rfl, rfl⟩]
  have e2 := nI_eqF (show (rl (wI M 3) (lenC M) 6 0 0).1 < 2 ^ 31 by omega) (show lenC M < 2 ^ 31 by omega)
  refine wGoC (pf_readPart_ok G) 120 [] [] (fun C c0 c1 c2 c3 c4 c5 c6 c7 c8 c9 c10 c11 c12 => ?_)
  simp (config := {maxSteps := 10000000}) only [i1_0, nn_t, nn_f, im_t, im_f, nn_n, xR_s, xR_z, c0, c1, c2, c3, c4, c5, c6, c7, c8, c9, c10, c11, c12, iPuI_e, iPuR_e, iPuL_e, iStoI_e, iStoR_e, iInc_e, iAdd_e, iSub_e, iMul_e, iAnd_e, iOr_e, iShl_e, iShr_e, iPo_i, iLdi_e, iUshr_e, iDiv_e, iRem_e, iLushr_e, iLshl_e, iLand_e, iLor_e, iLcmp_e, iI2l_e, iL2i_e, iI2c_e, iDup_e, iDup2_e, iIf_e, iIfc_e, iSwA, iSw_e, iGetf_r, iGetf_i, iGetf_z, iPutf_i, iPutf_z, iPutf_rt, iPutf_rf, iGets_e, iLdc_e, iAl_e, iAl2_e, iAlr_e, iAq_e, iAq2_e, iAsI_e, iAsZ_e, iAsC_e, iAs2_e, iAt_e, iAt2_e, iLen_e, iNew_e, iNwa_e, iNwq_e, iPop, iCl2_s, iCl2_n, iIv2_e, iIv_e, iIv_c, iIs2_e, iIs_e, iIs_n, iIs_max, iIs_min, iIs_cop, iCp2_e, iIp2_e, iIp_o, iIp_2, iIp_3, iRet_i, iRet_z, iRtv_e, xE_iconst, xE_bipush, xE_sipush, xE_lconst, xE_ldc2_w, xE_iload_n, xE_iload, xE_lload_n, xE_aload_n, xE_aload, xE_istore_n, xE_istore, xE_astore_n, xE_astore, xE_iinc, xE_iadd, xE_isub, xE_imul, xE_idiv, xE_irem, xE_iand, xE_ior, xE_ishl, xE_ishr, xE_pop, xE_ldc, xE_iushr, xE_lushr, xE_lshl, xE_land, xE_lor, xE_lcmp, xE_i2l, xE_l2i, xE_i2c, xE_dup, xE_dup2, xE_ifCond, xE_if_icmp, xE_goto, xE_getfield, xE_putfield, xE_getstatic, xE_baload, xE_caload, xE_iaload, xE_aaload, xE_iastore, xE_bastore, xE_castore, xE_aastore, xE_arraylength, xE_new, xE_newarray_int, xE_newarray_boolean, xE_newarray_char, xE_anewarray, xE_checkcast, xE_invokevirtual, xE_invokestatic, xE_invokespecial, xE_ireturn, xE_return_, xE_tableswitch, eCl, eKd, wCnd, pf0, wArgs, lg_n, lg_0, lg_s, wNl_n, wNl_i, wNl_r, wCat_n, wCat_i, wCat_r, wCat_l, cInt, cRef, cLong, fv0, fv1, fv2, fv3, fw0, fw1, oi_m1, oi_0, oi_1, oi_2, oi_3, oi_4, oi_5, wRf, wLn_n, wLn_c, List.length_cons, List.length_nil, List.replicate, List.set_cons_zero, List.set_cons_succ, List.cons_append, List.nil_append, List.mem_cons, List.not_mem_nil, if_true, if_false, ↓reduceIte, true_and, and_true, or_true, true_or, or_false, false_or, Option.toList, Nat.reduceAdd, Nat.reduceSub, Nat.reduceLT, Nat.reduceLeDiff, Nat.reduceEqDiff, Nat.le_refl, eq_self, Nat.zero_le, Int.cast_ofNat_Int, Int.reduceSub, Int.reduceAdd, Int.reduceLE, Int.reduceToNat, Int.reduceNeg, Int32.reduceAdd, Int32.reduceSub, Int32.reduceMul, Int32.reduceLT, i_leF, Bool.false_eq_true, Bool.true_eq_false, b2i_T, b2i_F, b2i_0, b2i_01, i_a0, not_false_eq_true, oi_6, oi_7, oi_8, oi_9, oi_10, oi_11, oi_12, oi_13, oi_14, oi_15, oi_16, oi_17, oi_18, oi_19, oi_20, oi_21, dX3_readWholeAsLetters_0, dX3_readWholeAsLetters_1, dX3_readWholeAsLetters_2, fo_3_28, dX3_readWholeAsLetters_5, dX3_readWholeAsLetters_6, co_3_32, dX3_readWholeAsLetters_9, dX3_readWholeAsLetters_10, dX3_readWholeAsLetters_11, dX3_readWholeAsLetters_14, dX3_readWholeAsLetters_15, fo_3_12, dX3_readWholeAsLetters_18, fo_3_36, dX3_readWholeAsLetters_21, dX3_readWholeAsLetters_24, dX3_readWholeAsLetters_25, dX3_readWholeAsLetters_28, dX3_readWholeAsLetters_29, pfA, pf1, pf_xin, s_xin, pf_xis, s_xis, pf_xleadingLetters, s_xleadingLetters, pf_xleadingWeight, s_xleadingWeight, pf_xleadOf, s_xleadOf, pf_lettersIn, s_lettersIn, pf_aboutLetters, s_aboutLetters, pf_xhasWord, s_xhasWord, pf_xhasRoom, s_xhasRoom, pf_xkind, s_xkind, pf_xtbr, s_xtbr, pf_xlack, s_xlack, pf_xrank, s_xrank, pf_xwok, s_xwok, pf_xaa, s_xaa, pf_xar, s_xar, pf_xat, s_xat, pf_xunl, s_xunl, pf_xpla, s_xpla, pf_xrbw, s_xrbw, pf_xlw, s_xlw, pf_xlo, s_xlo, pf_isTold, s_isTold, pf_readDigit, s_readDigit, pf_readSign, s_readSign, pf_readLetters, s_readLetters, pf_readWordNumber, s_readWordNumber, pf_readSolver, s_readSolver, pf_readSeconds, s_readSeconds, pf_readPart, s_readPart, cAt_0, CG_at h b0, posC_at b0, lenC_at, cAt_at, cAt_S, cAt_P, cAt_f M _ 3 (by decide), cAt_f M _ 2 (by decide), e1, e2, hl, x1, x2, x3, x4, x5, x6, x7, p1, p2, p3, d1, d2, d3, d4, d5, d6, f1, f2, f3, f4, f5]
  repeat' (first | refine And.intro ?_ ?_ | (with_reducible show _ → _; intro _))
  all_goals simp [*]
