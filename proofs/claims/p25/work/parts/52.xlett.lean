/-! ===== letters of the class ===== -/
theorem s5 : ∀ m, m ≤ 6 → (((nI (5 * m)).toUInt32 &&& Int32.toUInt32 31).toBitVec % 32).toNat = 5 * m := by
  intro m hm
  have : m = 0 ∨ m = 1 ∨ m = 2 ∨ m = 3 ∨ m = 4 ∨ m = 5 ∨ m = 6 := by omega
  rcases this with rfl | rfl | rfl | rfl | rfl | rfl | rfl <;> decide
theorem sh5 {ds : List Nat} (h : okd ds) (hl : ds.length ≤ 6) {m : Nat} (hm : m ≤ 6) : ((nI (enc 32 ds)).toUInt32 >>> ((nI (5 * m)).toUInt32 &&& Int32.toUInt32 31)).toInt32 = nI (enc 32 (ds.drop m)) := by
  rw [pk_ushrN (by have := enc_lt31 (b := 32) (by decide) (by decide) h hl; omega) (nI (5 * m)) (5 * m) (s5 m hm)]
  congr 1
  rw [← enc_dropP (by decide) h m, Nat.pow_mul]
theorem m5 (m : Nat) : (5 : Int32) * nI m = nI (5 * m) := pk_mul 5 m
set_option maxRecDepth 100000 in
set_option maxHeartbeats 4000000 in
theorem ct_lettersIn (G : wG) (M : wMem) (ds : List Nat) (h : okd ds) (hl : ds.length ≤ 6) : CT G 75 0 0 [.int (nI (enc 32 ds))] M (fun o M' => o = some (.int (lMany ds)) ∧ M' = M) := by
  refine CT.intro wm_75 mo_75 (by decide +kernel) false (by simp) (Nat.le_of_ble_eq_true rfl) ?_
  have loop : ∀ m, m ≤ ds.length → wp G 7 false (some .int) 0 0 0 cX7_lettersIn (fun o M' => o = some (.int (lMany ds)) ∧ M' = M) 2 [some (.int (nI (enc 32 ds))), some (.int (nI m))] [] M 0 0 := by
    refine loopD ?_ (fun m hm ih => ?_)
    · by_cases h6 : ds.length = 6
      · have e1 : (nI ds.length < (6 : Int32)) = False := eq_false (nI_nlt (b := 6) (by omega) (by omega))
        refine wGoC (pf1_ok G) 40 [] [2] (fun C c0 c1 c2 c3 c4 c5 c6 c7 c8 c9 c10 c11 c12 => ?_)
        simp (config := {maxSteps := 10000000}) only [i1_0, nn_t, nn_f, im_t, im_f, nn_n, xR_s, xR_z, c0, c1, c2, c3, c4, c5, c6, c7, c8, c9, c10, c11, c12, iPuI_e, iPuR_e, iPuL_e, iStoI_e, iStoR_e, iInc_e, iAdd_e, iSub_e, iMul_e, iAnd_e, iOr_e, iShl_e, iShr_e, iPo_i, iLdi_e, iUshr_e, iDiv_e, iRem_e, iLushr_e, iLshl_e, iLand_e, iLor_e, iLcmp_e, iI2l_e, iL2i_e, iI2c_e, iDup_e, iDup2_e, iIf_e, iIfc_e, iSwA, iSw_e, iGetf_r, iGetf_i, iGetf_z, iPutf_i, iPutf_z, iPutf_rt, iPutf_rf, iGets_e, iLdc_e, iAl_e, iAl2_e, iAlr_e, iAq_e, iAq2_e, iAsI_e, iAsZ_e, iAsC_e, iAs2_e, iAt_e, iAt2_e, iLen_e, iNew_e, iNwa_e, iNwq_e, iPop, iCl2_s, iCl2_n, iIv2_e, iIv_e, iIv_c, iIs2_e, iIs_e, iIs_n, iIs_max, iIs_min, iIs_cop, iCp2_e, iIp2_e, iIp_o, iIp_2, iIp_3, iRet_i, iRet_z, iRtv_e, xE_iconst, xE_bipush, xE_sipush, xE_lconst, xE_ldc2_w, xE_iload_n, xE_iload, xE_lload_n, xE_aload_n, xE_aload, xE_istore_n, xE_istore, xE_astore_n, xE_astore, xE_iinc, xE_iadd, xE_isub, xE_imul, xE_idiv, xE_irem, xE_iand, xE_ior, xE_ishl, xE_ishr, xE_pop, xE_ldc, xE_iushr, xE_lushr, xE_lshl, xE_land, xE_lor, xE_lcmp, xE_i2l, xE_l2i, xE_i2c, xE_dup, xE_dup2, xE_ifCond, xE_if_icmp, xE_goto, xE_getfield, xE_putfield, xE_getstatic, xE_baload, xE_caload, xE_iaload, xE_aaload, xE_iastore, xE_bastore, xE_castore, xE_aastore, xE_arraylength, xE_new, xE_newarray_int, xE_newarray_boolean, xE_newarray_char, xE_anewarray, xE_checkcast, xE_invokevirtual, xE_invokestatic, xE_invokespecial, xE_ireturn, xE_return_, xE_tableswitch, eCl, eKd, wCnd, pf0, wArgs, lg_n, lg_0, lg_s, wNl_n, wNl_i, wNl_r, wCat_n, wCat_i, wCat_r, wCat_l, cInt, cRef, cLong, fv0, fv1, fv2, fv3, fw0, fw1, oi_m1, oi_0, oi_1, oi_2, oi_3, oi_4, oi_5, wRf, wLn_n, wLn_c, List.length_cons, List.length_nil, List.replicate, List.set_cons_zero, List.set_cons_succ, List.cons_append, List.nil_append, List.mem_cons, List.not_mem_nil, if_true, if_false, ↓reduceIte, true_and, and_true, or_true, true_or, or_false, false_or, Option.toList, Nat.reduceAdd, Nat.reduceSub, Nat.reduceLT, Nat.reduceLeDiff, Nat.reduceEqDiff, Nat.le_refl, eq_self, Nat.zero_le, Int.cast_ofNat_Int, Int.reduceSub, Int.reduceAdd, Int.reduceLE, Int.reduceToNat, Int.reduceNeg, Int32.reduceAdd, Int32.reduceSub, Int32.reduceMul, Int32.reduceLT, i_leF, Bool.false_eq_true, Bool.true_eq_false, b2i_T, b2i_F, b2i_0, b2i_01, i_a0, not_false_eq_true, oi_6, oi_7, oi_8, oi_9, oi_10, oi_11, oi_12, oi_13, oi_14, oi_15, oi_16, oi_17, oi_18, oi_19, oi_20, oi_21, dX7_lettersIn_0, dX7_lettersIn_1, dX7_lettersIn_2, dX7_lettersIn_3, bp_6, dX7_lettersIn_5, dX7_lettersIn_8, dX7_lettersIn_9, dX7_lettersIn_10, dX7_lettersIn_11, dX7_lettersIn_12, dX7_lettersIn_13, dX7_lettersIn_16, dX7_lettersIn_19, dX7_lettersIn_22, dX7_lettersIn_23, pf1, e1]
        rfl
      · have e1 : (nI ds.length < (6 : Int32)) = True := eq_true (nI_lt (b := 6) (by omega) (by omega))
        have e2 : (nI (enc 32 (ds.drop ds.length)) = 0) = True := eq_true (by rw [enc_dropE (Nat.le_refl _)]; rfl)
        refine wGoC (pf1_ok G) 40 [] [2] (fun C c0 c1 c2 c3 c4 c5 c6 c7 c8 c9 c10 c11 c12 => ?_)
        simp (config := {maxSteps := 10000000}) only [i1_0, nn_t, nn_f, im_t, im_f, nn_n, xR_s, xR_z, c0, c1, c2, c3, c4, c5, c6, c7, c8, c9, c10, c11, c12, iPuI_e, iPuR_e, iPuL_e, iStoI_e, iStoR_e, iInc_e, iAdd_e, iSub_e, iMul_e, iAnd_e, iOr_e, iShl_e, iShr_e, iPo_i, iLdi_e, iUshr_e, iDiv_e, iRem_e, iLushr_e, iLshl_e, iLand_e, iLor_e, iLcmp_e, iI2l_e, iL2i_e, iI2c_e, iDup_e, iDup2_e, iIf_e, iIfc_e, iSwA, iSw_e, iGetf_r, iGetf_i, iGetf_z, iPutf_i, iPutf_z, iPutf_rt, iPutf_rf, iGets_e, iLdc_e, iAl_e, iAl2_e, iAlr_e, iAq_e, iAq2_e, iAsI_e, iAsZ_e, iAsC_e, iAs2_e, iAt_e, iAt2_e, iLen_e, iNew_e, iNwa_e, iNwq_e, iPop, iCl2_s, iCl2_n, iIv2_e, iIv_e, iIv_c, iIs2_e, iIs_e, iIs_n, iIs_max, iIs_min, iIs_cop, iCp2_e, iIp2_e, iIp_o, iIp_2, iIp_3, iRet_i, iRet_z, iRtv_e, xE_iconst, xE_bipush, xE_sipush, xE_lconst, xE_ldc2_w, xE_iload_n, xE_iload, xE_lload_n, xE_aload_n, xE_aload, xE_istore_n, xE_istore, xE_astore_n, xE_astore, xE_iinc, xE_iadd, xE_isub, xE_imul, xE_idiv, xE_irem, xE_iand, xE_ior, xE_ishl, xE_ishr, xE_pop, xE_ldc, xE_iushr, xE_lushr, xE_lshl, xE_land, xE_lor, xE_lcmp, xE_i2l, xE_l2i, xE_i2c, xE_dup, xE_dup2, xE_ifCond, xE_if_icmp, xE_goto, xE_getfield, xE_putfield, xE_getstatic, xE_baload, xE_caload, xE_iaload, xE_aaload, xE_iastore, xE_bastore, xE_castore, xE_aastore, xE_arraylength, xE_new, xE_newarray_int, xE_newarray_boolean, xE_newarray_char, xE_anewarray, xE_checkcast, xE_invokevirtual, xE_invokestatic, xE_invokespecial, xE_ireturn, xE_return_, xE_tableswitch, eCl, eKd, wCnd, pf0, wArgs, lg_n, lg_0, lg_s, wNl_n, wNl_i, wNl_r, wCat_n, wCat_i, wCat_r, wCat_l, cInt, cRef, cLong, fv0, fv1, fv2, fv3, fw0, fw1, oi_m1, oi_0, oi_1, oi_2, oi_3, oi_4, oi_5, wRf, wLn_n, wLn_c, List.length_cons, List.length_nil, List.replicate, List.set_cons_zero, List.set_cons_succ, List.cons_append, List.nil_append, List.mem_cons, List.not_mem_nil, if_true, if_false, ↓reduceIte, true_and, and_true, or_true, true_or, or_false, false_or, Option.toList, Nat.reduceAdd, Nat.reduceSub, Nat.reduceLT, Nat.reduceLeDiff, Nat.reduceEqDiff, Nat.le_refl, eq_self, Nat.zero_le, Int.cast_ofNat_Int, Int.reduceSub, Int.reduceAdd, Int.reduceLE, Int.reduceToNat, Int.reduceNeg, Int32.reduceAdd, Int32.reduceSub, Int32.reduceMul, Int32.reduceLT, i_leF, Bool.false_eq_true, Bool.true_eq_false, b2i_T, b2i_F, b2i_0, b2i_01, i_a0, not_false_eq_true, oi_6, oi_7, oi_8, oi_9, oi_10, oi_11, oi_12, oi_13, oi_14, oi_15, oi_16, oi_17, oi_18, oi_19, oi_20, oi_21, dX7_lettersIn_0, dX7_lettersIn_1, dX7_lettersIn_2, dX7_lettersIn_3, bp_6, dX7_lettersIn_5, dX7_lettersIn_8, dX7_lettersIn_9, dX7_lettersIn_10, dX7_lettersIn_11, dX7_lettersIn_12, dX7_lettersIn_13, dX7_lettersIn_16, dX7_lettersIn_19, dX7_lettersIn_22, dX7_lettersIn_23, pf1, e1, m5, sh5 h hl (show ds.length ≤ 6 by omega), e2]
        rfl
    · have e1 : (nI m < (6 : Int32)) = True := eq_true (nI_lt (b := 6) (by omega) (by omega))
      have e2 : (nI (enc 32 (ds.drop m)) = 0) = False := eq_false (nI_ne0 (enc_dropS (b := 32) (by decide) h hm).2.2 (enc_dropL (by decide) (by decide) h hl m))
      refine wGoC (pf1_ok G) 40 [] [2] (fun C c0 c1 c2 c3 c4 c5 c6 c7 c8 c9 c10 c11 c12 => ?_)
      simp (config := {maxSteps := 10000000}) only [i1_0, nn_t, nn_f, im_t, im_f, nn_n, xR_s, xR_z, c0, c1, c2, c3, c4, c5, c6, c7, c8, c9, c10, c11, c12, iPuI_e, iPuR_e, iPuL_e, iStoI_e, iStoR_e, iInc_e, iAdd_e, iSub_e, iMul_e, iAnd_e, iOr_e, iShl_e, iShr_e, iPo_i, iLdi_e, iUshr_e, iDiv_e, iRem_e, iLushr_e, iLshl_e, iLand_e, iLor_e, iLcmp_e, iI2l_e, iL2i_e, iI2c_e, iDup_e, iDup2_e, iIf_e, iIfc_e, iSwA, iSw_e, iGetf_r, iGetf_i, iGetf_z, iPutf_i, iPutf_z, iPutf_rt, iPutf_rf, iGets_e, iLdc_e, iAl_e, iAl2_e, iAlr_e, iAq_e, iAq2_e, iAsI_e, iAsZ_e, iAsC_e, iAs2_e, iAt_e, iAt2_e, iLen_e, iNew_e, iNwa_e, iNwq_e, iPop, iCl2_s, iCl2_n, iIv2_e, iIv_e, iIv_c, iIs2_e, iIs_e, iIs_n, iIs_max, iIs_min, iIs_cop, iCp2_e, iIp2_e, iIp_o, iIp_2, iIp_3, iRet_i, iRet_z, iRtv_e, xE_iconst, xE_bipush, xE_sipush, xE_lconst, xE_ldc2_w, xE_iload_n, xE_iload, xE_lload_n, xE_aload_n, xE_aload, xE_istore_n, xE_istore, xE_astore_n, xE_astore, xE_iinc, xE_iadd, xE_isub, xE_imul, xE_idiv, xE_irem, xE_iand, xE_ior, xE_ishl, xE_ishr, xE_pop, xE_ldc, xE_iushr, xE_lushr, xE_lshl, xE_land, xE_lor, xE_lcmp, xE_i2l, xE_l2i, xE_i2c, xE_dup, xE_dup2, xE_ifCond, xE_if_icmp, xE_goto, xE_getfield, xE_putfield, xE_getstatic, xE_baload, xE_caload, xE_iaload, xE_aaload, xE_iastore, xE_bastore, xE_castore, xE_aastore, xE_arraylength, xE_new, xE_newarray_int, xE_newarray_boolean, xE_newarray_char, xE_anewarray, xE_checkcast, xE_invokevirtual, xE_invokestatic, xE_invokespecial, xE_ireturn, xE_return_, xE_tableswitch, eCl, eKd, wCnd, pf0, wArgs, lg_n, lg_0, lg_s, wNl_n, wNl_i, wNl_r, wCat_n, wCat_i, wCat_r, wCat_l, cInt, cRef, cLong, fv0, fv1, fv2, fv3, fw0, fw1, oi_m1, oi_0, oi_1, oi_2, oi_3, oi_4, oi_5, wRf, wLn_n, wLn_c, List.length_cons, List.length_nil, List.replicate, List.set_cons_zero, List.set_cons_succ, List.cons_append, List.nil_append, List.mem_cons, List.not_mem_nil, if_true, if_false, ↓reduceIte, true_and, and_true, or_true, true_or, or_false, false_or, Option.toList, Nat.reduceAdd, Nat.reduceSub, Nat.reduceLT, Nat.reduceLeDiff, Nat.reduceEqDiff, Nat.le_refl, eq_self, Nat.zero_le, Int.cast_ofNat_Int, Int.reduceSub, Int.reduceAdd, Int.reduceLE, Int.reduceToNat, Int.reduceNeg, Int32.reduceAdd, Int32.reduceSub, Int32.reduceMul, Int32.reduceLT, i_leF, Bool.false_eq_true, Bool.true_eq_false, b2i_T, b2i_F, b2i_0, b2i_01, i_a0, not_false_eq_true, oi_6, oi_7, oi_8, oi_9, oi_10, oi_11, oi_12, oi_13, oi_14, oi_15, oi_16, oi_17, oi_18, oi_19, oi_20, oi_21, dX7_lettersIn_0, dX7_lettersIn_1, dX7_lettersIn_2, dX7_lettersIn_3, bp_6, dX7_lettersIn_5, dX7_lettersIn_8, dX7_lettersIn_9, dX7_lettersIn_10, dX7_lettersIn_11, dX7_lettersIn_12, dX7_lettersIn_13, dX7_lettersIn_16, dX7_lettersIn_19, dX7_lettersIn_22, dX7_lettersIn_23, pf1, e1, m5, sh5 h hl (show m ≤ 6 by omega), e2, nI_1s]
      exact ih
  refine wGoC (pf1_ok G) 40 [] [2] (fun C c0 c1 c2 c3 c4 c5 c6 c7 c8 c9 c10 c11 c12 => ?_)
  simp (config := {maxSteps := 10000000}) only [i1_0, nn_t, nn_f, im_t, im_f, nn_n, xR_s, xR_z, c0, c1, c2, c3, c4, c5, c6, c7, c8, c9, c10, c11, c12, iPuI_e, iPuR_e, iPuL_e, iStoI_e, iStoR_e, iInc_e, iAdd_e, iSub_e, iMul_e, iAnd_e, iOr_e, iShl_e, iShr_e, iPo_i, iLdi_e, iUshr_e, iDiv_e, iRem_e, iLushr_e, iLshl_e, iLand_e, iLor_e, iLcmp_e, iI2l_e, iL2i_e, iI2c_e, iDup_e, iDup2_e, iIf_e, iIfc_e, iSwA, iSw_e, iGetf_r, iGetf_i, iGetf_z, iPutf_i, iPutf_z, iPutf_rt, iPutf_rf, iGets_e, iLdc_e, iAl_e, iAl2_e, iAlr_e, iAq_e, iAq2_e, iAsI_e, iAsZ_e, iAsC_e, iAs2_e, iAt_e, iAt2_e, iLen_e, iNew_e, iNwa_e, iNwq_e, iPop, iCl2_s, iCl2_n, iIv2_e, iIv_e, iIv_c, iIs2_e, iIs_e, iIs_n, iIs_max, iIs_min, iIs_cop, iCp2_e, iIp2_e, iIp_o, iIp_2, iIp_3, iRet_i, iRet_z, iRtv_e, xE_iconst, xE_bipush, xE_sipush, xE_lconst, xE_ldc2_w, xE_iload_n, xE_iload, xE_lload_n, xE_aload_n, xE_aload, xE_istore_n, xE_istore, xE_astore_n, xE_astore, xE_iinc, xE_iadd, xE_isub, xE_imul, xE_idiv, xE_irem, xE_iand, xE_ior, xE_ishl, xE_ishr, xE_pop, xE_ldc, xE_iushr, xE_lushr, xE_lshl, xE_land, xE_lor, xE_lcmp, xE_i2l, xE_l2i, xE_i2c, xE_dup, xE_dup2, xE_ifCond, xE_if_icmp, xE_goto, xE_getfield, xE_putfield, xE_getstatic, xE_baload, xE_caload, xE_iaload, xE_aaload, xE_iastore, xE_bastore, xE_castore, xE_aastore, xE_arraylength, xE_new, xE_newarray_int, xE_newarray_boolean, xE_newarray_char, xE_anewarray, xE_checkcast, xE_invokevirtual, xE_invokestatic, xE_invokespecial, xE_ireturn, xE_return_, xE_tableswitch, eCl, eKd, wCnd, pf0, wArgs, lg_n, lg_0, lg_s, wNl_n, wNl_i, wNl_r, wCat_n, wCat_i, wCat_r, wCat_l, cInt, cRef, cLong, fv0, fv1, fv2, fv3, fw0, fw1, oi_m1, oi_0, oi_1, oi_2, oi_3, oi_4, oi_5, wRf, wLn_n, wLn_c, List.length_cons, List.length_nil, List.replicate, List.set_cons_zero, List.set_cons_succ, List.cons_append, List.nil_append, List.mem_cons, List.not_mem_nil, if_true, if_false, ↓reduceIte, true_and, and_true, or_true, true_or, or_false, false_or, Option.toList, Nat.reduceAdd, Nat.reduceSub, Nat.reduceLT, Nat.reduceLeDiff, Nat.reduceEqDiff, Nat.le_refl, eq_self, Nat.zero_le, Int.cast_ofNat_Int, Int.reduceSub, Int.reduceAdd, Int.reduceLE, Int.reduceToNat, Int.reduceNeg, Int32.reduceAdd, Int32.reduceSub, Int32.reduceMul, Int32.reduceLT, i_leF, Bool.false_eq_true, Bool.true_eq_false, b2i_T, b2i_F, b2i_0, b2i_01, i_a0, not_false_eq_true, oi_6, oi_7, oi_8, oi_9, oi_10, oi_11, oi_12, oi_13, oi_14, oi_15, oi_16, oi_17, oi_18, oi_19, oi_20, oi_21, dX7_lettersIn_0, dX7_lettersIn_1, dX7_lettersIn_2, dX7_lettersIn_3, bp_6, dX7_lettersIn_5, dX7_lettersIn_8, dX7_lettersIn_9, dX7_lettersIn_10, dX7_lettersIn_11, dX7_lettersIn_12, dX7_lettersIn_13, dX7_lettersIn_16, dX7_lettersIn_19, dX7_lettersIn_22, dX7_lettersIn_23, pf1]
  exact loop 0 (by omega)
theorem ct_lettersInC (G : wG) (M : wMem) (c : Int32) (h : isC 32 c) : CT G 75 0 0 [.int c] M (fun o M' => o = some (.int (lMany (dlc 32 c))) ∧ M' = M) := by
  obtain ⟨ds, h1, h2, rfl⟩ := h
  rw [dlc_enc (by decide) (by decide) h2 h1]
  exact ct_lettersIn G M ds h2 h1
def s_lettersIn : List Value → wMem → Option (Prop × Option Value × wMem) := fun As M => match As with | [.int c] => some (isC 32 c, some (.int (lMany (dlc 32 c))), M) | _ => none
def pf_lettersIn : wPft := pfA 75 s_lettersIn pf_xleadOf
theorem pf_lettersIn_ok (G : wG) : wPfOk G pf_lettersIn := by
  refine pfA_ok (fun As M g o M2 h hg => ?_) (pf_xleadOf_ok G)
  unfold s_lettersIn at h
  split at h
  · cases h; exact ct_lettersInC G M _ hg
  · cases h

def alV (ds : List Nat) (w : Nat) : Int32 := if w = 0 then (if ds.length = 0 then -6 else lMany ds) else lAt ds (w - 1)
theorem and31 {n : Nat} (h : n < 2 ^ 32) : nI n &&& 31 = nI (n % 32) := pk_andN (m := 31) h 5 (by decide)
set_option maxRecDepth 100000 in
set_option maxHeartbeats 4000000 in
theorem ct_aboutLetters (G : wG) (M : wMem) (ds : List Nat) (h : okd ds) (hl : ds.length ≤ 6) (w : Nat) (hw : w < 2 ^ 31) : CT G 76 0 0 [.int (nI (enc 32 ds)), .int (nI w)] M (fun o M' => o = some (.int (alV ds w)) ∧ M' = M) := by
  have hC : isC 32 (nI (enc 32 ds)) := ⟨ds, hl, h, rfl⟩
  have hD : dlc 32 (nI (enc 32 ds)) = ds := dlc_enc (by decide) (by decide) h hl
  refine CT.intro wm_76 mo_76 (by decide +kernel) false (by simp) (Nat.le_of_ble_eq_true rfl) ?_
  by_cases h0 : ds.length = 0
  · have e1 : (lMany ds = 0) = True := eq_true (by unfold lMany; rw [h0]; rfl)
    refine wGoC (pf_lettersIn_ok G) 60 [] [] (fun C c0 c1 c2 c3 c4 c5 c6 c7 c8 c9 c10 c11 c12 => ?_)
    simp (config := {maxSteps := 10000000}) only [i1_0, nn_t, nn_f, im_t, im_f, nn_n, xR_s, xR_z, c0, c1, c2, c3, c4, c5, c6, c7, c8, c9, c10, c11, c12, iPuI_e, iPuR_e, iPuL_e, iStoI_e, iStoR_e, iInc_e, iAdd_e, iSub_e, iMul_e, iAnd_e, iOr_e, iShl_e, iShr_e, iPo_i, iLdi_e, iUshr_e, iDiv_e, iRem_e, iLushr_e, iLshl_e, iLand_e, iLor_e, iLcmp_e, iI2l_e, iL2i_e, iI2c_e, iDup_e, iDup2_e, iIf_e, iIfc_e, iSwA, iSw_e, iGetf_r, iGetf_i, iGetf_z, iPutf_i, iPutf_z, iPutf_rt, iPutf_rf, iGets_e, iLdc_e, iAl_e, iAl2_e, iAlr_e, iAq_e, iAq2_e, iAsI_e, iAsZ_e, iAsC_e, iAs2_e, iAt_e, iAt2_e, iLen_e, iNew_e, iNwa_e, iNwq_e, iPop, iCl2_s, iCl2_n, iIv2_e, iIv_e, iIv_c, iIs2_e, iIs_e, iIs_n, iIs_max, iIs_min, iIs_cop, iCp2_e, iIp2_e, iIp_o, iIp_2, iIp_3, iRet_i, iRet_z, iRtv_e, xE_iconst, xE_bipush, xE_sipush, xE_lconst, xE_ldc2_w, xE_iload_n, xE_iload, xE_lload_n, xE_aload_n, xE_aload, xE_istore_n, xE_istore, xE_astore_n, xE_astore, xE_iinc, xE_iadd, xE_isub, xE_imul, xE_idiv, xE_irem, xE_iand, xE_ior, xE_ishl, xE_ishr, xE_pop, xE_ldc, xE_iushr, xE_lushr, xE_lshl, xE_land, xE_lor, xE_lcmp, xE_i2l, xE_l2i, xE_i2c, xE_dup, xE_dup2, xE_ifCond, xE_if_icmp, xE_goto, xE_getfield, xE_putfield, xE_getstatic, xE_baload, xE_caload, xE_iaload, xE_aaload, xE_iastore, xE_bastore, xE_castore, xE_aastore, xE_arraylength, xE_new, xE_newarray_int, xE_newarray_boolean, xE_newarray_char, xE_anewarray, xE_checkcast, xE_invokevirtual, xE_invokestatic, xE_invokespecial, xE_ireturn, xE_return_, xE_tableswitch, eCl, eKd, wCnd, pf0, wArgs, lg_n, lg_0, lg_s, wNl_n, wNl_i, wNl_r, wCat_n, wCat_i, wCat_r, wCat_l, cInt, cRef, cLong, fv0, fv1, fv2, fv3, fw0, fw1, oi_m1, oi_0, oi_1, oi_2, oi_3, oi_4, oi_5, wRf, wLn_n, wLn_c, List.length_cons, List.length_nil, List.replicate, List.set_cons_zero, List.set_cons_succ, List.cons_append, List.nil_append, List.mem_cons, List.not_mem_nil, if_true, if_false, ↓reduceIte, true_and, and_true, or_true, true_or, or_false, false_or, Option.toList, Nat.reduceAdd, Nat.reduceSub, Nat.reduceLT, Nat.reduceLeDiff, Nat.reduceEqDiff, Nat.le_refl, eq_self, Nat.zero_le, Int.cast_ofNat_Int, Int.reduceSub, Int.reduceAdd, Int.reduceLE, Int.reduceToNat, Int.reduceNeg, Int32.reduceAdd, Int32.reduceSub, Int32.reduceMul, Int32.reduceLT, i_leF, Bool.false_eq_true, Bool.true_eq_false, b2i_T, b2i_F, b2i_0, b2i_01, i_a0, not_false_eq_true, oi_6, oi_7, oi_8, oi_9, oi_10, oi_11, oi_12, oi_13, oi_14, oi_15, oi_16, oi_17, oi_18, oi_19, oi_20, oi_21, dX7_aboutLetters_0, dX7_aboutLetters_1, co_7_243, dX7_aboutLetters_4, dX7_aboutLetters_5, dX7_aboutLetters_6, dX7_aboutLetters_9, dX7_aboutLetters_10, dX7_aboutLetters_11, dX7_aboutLetters_14, bp_m6, dX7_aboutLetters_16, dX7_aboutLetters_17, dX7_aboutLetters_18, dX7_aboutLetters_21, dX7_aboutLetters_22, dX7_aboutLetters_23, bp_96, dX7_aboutLetters_25, dX7_aboutLetters_26, dX7_aboutLetters_27, dX7_aboutLetters_28, dX7_aboutLetters_29, dX7_aboutLetters_30, dX7_aboutLetters_31, dX7_aboutLetters_32, bp_31, dX7_aboutLetters_34, dX7_aboutLetters_35, dX7_aboutLetters_36, pfA, pf1, pf_xin, s_xin, pf_xis, s_xis, pf_xleadingLetters, s_xleadingLetters, pf_xleadingWeight, s_xleadingWeight, pf_xleadOf, s_xleadOf, pf_lettersIn, s_lettersIn, hC, hD, e1]
    unfold alV lAt
    split
    · rfl
    · rw [if_neg (by omega)]
  · have e1 : (nI ds.length = 0) = False := eq_false (nI_ne0 (by omega) (by omega))
    by_cases hlt : ds.length < w
    · have e2 : (nI ds.length < nI w) = True := eq_true (nI_lt hlt hw)
      refine wGoC (pf_lettersIn_ok G) 60 [] [] (fun C c0 c1 c2 c3 c4 c5 c6 c7 c8 c9 c10 c11 c12 => ?_)
      simp (config := {maxSteps := 10000000}) only [i1_0, nn_t, nn_f, im_t, im_f, nn_n, xR_s, xR_z, c0, c1, c2, c3, c4, c5, c6, c7, c8, c9, c10, c11, c12, iPuI_e, iPuR_e, iPuL_e, iStoI_e, iStoR_e, iInc_e, iAdd_e, iSub_e, iMul_e, iAnd_e, iOr_e, iShl_e, iShr_e, iPo_i, iLdi_e, iUshr_e, iDiv_e, iRem_e, iLushr_e, iLshl_e, iLand_e, iLor_e, iLcmp_e, iI2l_e, iL2i_e, iI2c_e, iDup_e, iDup2_e, iIf_e, iIfc_e, iSwA, iSw_e, iGetf_r, iGetf_i, iGetf_z, iPutf_i, iPutf_z, iPutf_rt, iPutf_rf, iGets_e, iLdc_e, iAl_e, iAl2_e, iAlr_e, iAq_e, iAq2_e, iAsI_e, iAsZ_e, iAsC_e, iAs2_e, iAt_e, iAt2_e, iLen_e, iNew_e, iNwa_e, iNwq_e, iPop, iCl2_s, iCl2_n, iIv2_e, iIv_e, iIv_c, iIs2_e, iIs_e, iIs_n, iIs_max, iIs_min, iIs_cop, iCp2_e, iIp2_e, iIp_o, iIp_2, iIp_3, iRet_i, iRet_z, iRtv_e, xE_iconst, xE_bipush, xE_sipush, xE_lconst, xE_ldc2_w, xE_iload_n, xE_iload, xE_lload_n, xE_aload_n, xE_aload, xE_istore_n, xE_istore, xE_astore_n, xE_astore, xE_iinc, xE_iadd, xE_isub, xE_imul, xE_idiv, xE_irem, xE_iand, xE_ior, xE_ishl, xE_ishr, xE_pop, xE_ldc, xE_iushr, xE_lushr, xE_lshl, xE_land, xE_lor, xE_lcmp, xE_i2l, xE_l2i, xE_i2c, xE_dup, xE_dup2, xE_ifCond, xE_if_icmp, xE_goto, xE_getfield, xE_putfield, xE_getstatic, xE_baload, xE_caload, xE_iaload, xE_aaload, xE_iastore, xE_bastore, xE_castore, xE_aastore, xE_arraylength, xE_new, xE_newarray_int, xE_newarray_boolean, xE_newarray_char, xE_anewarray, xE_checkcast, xE_invokevirtual, xE_invokestatic, xE_invokespecial, xE_ireturn, xE_return_, xE_tableswitch, eCl, eKd, wCnd, pf0, wArgs, lg_n, lg_0, lg_s, wNl_n, wNl_i, wNl_r, wCat_n, wCat_i, wCat_r, wCat_l, cInt, cRef, cLong, fv0, fv1, fv2, fv3, fw0, fw1, oi_m1, oi_0, oi_1, oi_2, oi_3, oi_4, oi_5, wRf, wLn_n, wLn_c, List.length_cons, List.length_nil, List.replicate, List.set_cons_zero, List.set_cons_succ, List.cons_append, List.nil_append, List.mem_cons, List.not_mem_nil, if_true, if_false, ↓reduceIte, true_and, and_true, or_true, true_or, or_false, false_or, Option.toList, Nat.reduceAdd, Nat.reduceSub, Nat.reduceLT, Nat.reduceLeDiff, Nat.reduceEqDiff, Nat.le_refl, eq_self, Nat.zero_le, Int.cast_ofNat_Int, Int.reduceSub, Int.reduceAdd, Int.reduceLE, Int.reduceToNat, Int.reduceNeg, Int32.reduceAdd, Int32.reduceSub, Int32.reduceMul, Int32.reduceLT, i_leF, Bool.false_eq_true, Bool.true_eq_false, b2i_T, b2i_F, b2i_0, b2i_01, i_a0, not_false_eq_true, oi_6, oi_7, oi_8, oi_9, oi_10, oi_11, oi_12, oi_13, oi_14, oi_15, oi_16, oi_17, oi_18, oi_19, oi_20, oi_21, dX7_aboutLetters_0, dX7_aboutLetters_1, co_7_243, dX7_aboutLetters_4, dX7_aboutLetters_5, dX7_aboutLetters_6, dX7_aboutLetters_9, dX7_aboutLetters_10, dX7_aboutLetters_11, dX7_aboutLetters_14, bp_m6, dX7_aboutLetters_16, dX7_aboutLetters_17, dX7_aboutLetters_18, dX7_aboutLetters_21, dX7_aboutLetters_22, dX7_aboutLetters_23, bp_96, dX7_aboutLetters_25, dX7_aboutLetters_26, dX7_aboutLetters_27, dX7_aboutLetters_28, dX7_aboutLetters_29, dX7_aboutLetters_30, dX7_aboutLetters_31, dX7_aboutLetters_32, bp_31, dX7_aboutLetters_34, dX7_aboutLetters_35, dX7_aboutLetters_36, pfA, pf1, pf_xin, s_xin, pf_xis, s_xis, pf_xleadingLetters, s_xleadingLetters, pf_xleadingWeight, s_xleadingWeight, pf_xleadOf, s_xleadOf, pf_lettersIn, s_lettersIn, hC, hD, lMany, e1, e2]
      unfold alV lAt
      rw [if_neg (by omega), if_neg (by omega)]
    · have e2 : (nI ds.length < nI w) = False := eq_false (nI_nlt (by omega) (by omega))
      by_cases hw0 : w = 0
      · subst hw0
        have e3 : (nI 0 = (0 : Int32)) = True := eq_true rfl
        refine wGoC (pf_lettersIn_ok G) 60 [] [] (fun C c0 c1 c2 c3 c4 c5 c6 c7 c8 c9 c10 c11 c12 => ?_)
        simp (config := {maxSteps := 10000000}) only [i1_0, nn_t, nn_f, im_t, im_f, nn_n, xR_s, xR_z, c0, c1, c2, c3, c4, c5, c6, c7, c8, c9, c10, c11, c12, iPuI_e, iPuR_e, iPuL_e, iStoI_e, iStoR_e, iInc_e, iAdd_e, iSub_e, iMul_e, iAnd_e, iOr_e, iShl_e, iShr_e, iPo_i, iLdi_e, iUshr_e, iDiv_e, iRem_e, iLushr_e, iLshl_e, iLand_e, iLor_e, iLcmp_e, iI2l_e, iL2i_e, iI2c_e, iDup_e, iDup2_e, iIf_e, iIfc_e, iSwA, iSw_e, iGetf_r, iGetf_i, iGetf_z, iPutf_i, iPutf_z, iPutf_rt, iPutf_rf, iGets_e, iLdc_e, iAl_e, iAl2_e, iAlr_e, iAq_e, iAq2_e, iAsI_e, iAsZ_e, iAsC_e, iAs2_e, iAt_e, iAt2_e, iLen_e, iNew_e, iNwa_e, iNwq_e, iPop, iCl2_s, iCl2_n, iIv2_e, iIv_e, iIv_c, iIs2_e, iIs_e, iIs_n, iIs_max, iIs_min, iIs_cop, iCp2_e, iIp2_e, iIp_o, iIp_2, iIp_3, iRet_i, iRet_z, iRtv_e, xE_iconst, xE_bipush, xE_sipush, xE_lconst, xE_ldc2_w, xE_iload_n, xE_iload, xE_lload_n, xE_aload_n, xE_aload, xE_istore_n, xE_istore, xE_astore_n, xE_astore, xE_iinc, xE_iadd, xE_isub, xE_imul, xE_idiv, xE_irem, xE_iand, xE_ior, xE_ishl, xE_ishr, xE_pop, xE_ldc, xE_iushr, xE_lushr, xE_lshl, xE_land, xE_lor, xE_lcmp, xE_i2l, xE_l2i, xE_i2c, xE_dup, xE_dup2, xE_ifCond, xE_if_icmp, xE_goto, xE_getfield, xE_putfield, xE_getstatic, xE_baload, xE_caload, xE_iaload, xE_aaload, xE_iastore, xE_bastore, xE_castore, xE_aastore, xE_arraylength, xE_new, xE_newarray_int, xE_newarray_boolean, xE_newarray_char, xE_anewarray, xE_checkcast, xE_invokevirtual, xE_invokestatic, xE_invokespecial, xE_ireturn, xE_return_, xE_tableswitch, eCl, eKd, wCnd, pf0, wArgs, lg_n, lg_0, lg_s, wNl_n, wNl_i, wNl_r, wCat_n, wCat_i, wCat_r, wCat_l, cInt, cRef, cLong, fv0, fv1, fv2, fv3, fw0, fw1, oi_m1, oi_0, oi_1, oi_2, oi_3, oi_4, oi_5, wRf, wLn_n, wLn_c, List.length_cons, List.length_nil, List.replicate, List.set_cons_zero, List.set_cons_succ, List.cons_append, List.nil_append, List.mem_cons, List.not_mem_nil, if_true, if_false, ↓reduceIte, true_and, and_true, or_true, true_or, or_false, false_or, Option.toList, Nat.reduceAdd, Nat.reduceSub, Nat.reduceLT, Nat.reduceLeDiff, Nat.reduceEqDiff, Nat.le_refl, eq_self, Nat.zero_le, Int.cast_ofNat_Int, Int.reduceSub, Int.reduceAdd, Int.reduceLE, Int.reduceToNat, Int.reduceNeg, Int32.reduceAdd, Int32.reduceSub, Int32.reduceMul, Int32.reduceLT, i_leF, Bool.false_eq_true, Bool.true_eq_false, b2i_T, b2i_F, b2i_0, b2i_01, i_a0, not_false_eq_true, oi_6, oi_7, oi_8, oi_9, oi_10, oi_11, oi_12, oi_13, oi_14, oi_15, oi_16, oi_17, oi_18, oi_19, oi_20, oi_21, dX7_aboutLetters_0, dX7_aboutLetters_1, co_7_243, dX7_aboutLetters_4, dX7_aboutLetters_5, dX7_aboutLetters_6, dX7_aboutLetters_9, dX7_aboutLetters_10, dX7_aboutLetters_11, dX7_aboutLetters_14, bp_m6, dX7_aboutLetters_16, dX7_aboutLetters_17, dX7_aboutLetters_18, dX7_aboutLetters_21, dX7_aboutLetters_22, dX7_aboutLetters_23, bp_96, dX7_aboutLetters_25, dX7_aboutLetters_26, dX7_aboutLetters_27, dX7_aboutLetters_28, dX7_aboutLetters_29, dX7_aboutLetters_30, dX7_aboutLetters_31, dX7_aboutLetters_32, bp_31, dX7_aboutLetters_34, dX7_aboutLetters_35, dX7_aboutLetters_36, pfA, pf1, pf_xin, s_xin, pf_xis, s_xis, pf_xleadingLetters, s_xleadingLetters, pf_xleadingWeight, s_xleadingWeight, pf_xleadOf, s_xleadOf, pf_lettersIn, s_lettersIn, hC, hD, lMany, e1, e2, e3]
        unfold alV
        rw [if_pos rfl, if_neg h0]
        rfl
      · have e3 : (nI w = 0) = False := eq_false (nI_ne0 (by omega) hw)
        have e4 : nI ds.length - nI w = nI (ds.length - w) := pk_sub (by omega)
        have e6 := enc_dropS (b := 32) (by decide) h (show ds.length - w < ds.length by omega)
        refine wGoC (pf_lettersIn_ok G) 60 [] [] (fun C c0 c1 c2 c3 c4 c5 c6 c7 c8 c9 c10 c11 c12 => ?_)
        simp (config := {maxSteps := 10000000}) only [i1_0, nn_t, nn_f, im_t, im_f, nn_n, xR_s, xR_z, c0, c1, c2, c3, c4, c5, c6, c7, c8, c9, c10, c11, c12, iPuI_e, iPuR_e, iPuL_e, iStoI_e, iStoR_e, iInc_e, iAdd_e, iSub_e, iMul_e, iAnd_e, iOr_e, iShl_e, iShr_e, iPo_i, iLdi_e, iUshr_e, iDiv_e, iRem_e, iLushr_e, iLshl_e, iLand_e, iLor_e, iLcmp_e, iI2l_e, iL2i_e, iI2c_e, iDup_e, iDup2_e, iIf_e, iIfc_e, iSwA, iSw_e, iGetf_r, iGetf_i, iGetf_z, iPutf_i, iPutf_z, iPutf_rt, iPutf_rf, iGets_e, iLdc_e, iAl_e, iAl2_e, iAlr_e, iAq_e, iAq2_e, iAsI_e, iAsZ_e, iAsC_e, iAs2_e, iAt_e, iAt2_e, iLen_e, iNew_e, iNwa_e, iNwq_e, iPop, iCl2_s, iCl2_n, iIv2_e, iIv_e, iIv_c, iIs2_e, iIs_e, iIs_n, iIs_max, iIs_min, iIs_cop, iCp2_e, iIp2_e, iIp_o, iIp_2, iIp_3, iRet_i, iRet_z, iRtv_e, xE_iconst, xE_bipush, xE_sipush, xE_lconst, xE_ldc2_w, xE_iload_n, xE_iload, xE_lload_n, xE_aload_n, xE_aload, xE_istore_n, xE_istore, xE_astore_n, xE_astore, xE_iinc, xE_iadd, xE_isub, xE_imul, xE_idiv, xE_irem, xE_iand, xE_ior, xE_ishl, xE_ishr, xE_pop, xE_ldc, xE_iushr, xE_lushr, xE_lshl, xE_land, xE_lor, xE_lcmp, xE_i2l, xE_l2i, xE_i2c, xE_dup, xE_dup2, xE_ifCond, xE_if_icmp, xE_goto, xE_getfield, xE_putfield, xE_getstatic, xE_baload, xE_caload, xE_iaload, xE_aaload, xE_iastore, xE_bastore, xE_castore, xE_aastore, xE_arraylength, xE_new, xE_newarray_int, xE_newarray_boolean, xE_newarray_char, xE_anewarray, xE_checkcast, xE_invokevirtual, xE_invokestatic, xE_invokespecial, xE_ireturn, xE_return_, xE_tableswitch, eCl, eKd, wCnd, pf0, wArgs, lg_n, lg_0, lg_s, wNl_n, wNl_i, wNl_r, wCat_n, wCat_i, wCat_r, wCat_l, cInt, cRef, cLong, fv0, fv1, fv2, fv3, fw0, fw1, oi_m1, oi_0, oi_1, oi_2, oi_3, oi_4, oi_5, wRf, wLn_n, wLn_c, List.length_cons, List.length_nil, List.replicate, List.set_cons_zero, List.set_cons_succ, List.cons_append, List.nil_append, List.mem_cons, List.not_mem_nil, if_true, if_false, ↓reduceIte, true_and, and_true, or_true, true_or, or_false, false_or, Option.toList, Nat.reduceAdd, Nat.reduceSub, Nat.reduceLT, Nat.reduceLeDiff, Nat.reduceEqDiff, Nat.le_refl, eq_self, Nat.zero_le, Int.cast_ofNat_Int, Int.reduceSub, Int.reduceAdd, Int.reduceLE, Int.reduceToNat, Int.reduceNeg, Int32.reduceAdd, Int32.reduceSub, Int32.reduceMul, Int32.reduceLT, i_leF, Bool.false_eq_true, Bool.true_eq_false, b2i_T, b2i_F, b2i_0, b2i_01, i_a0, not_false_eq_true, oi_6, oi_7, oi_8, oi_9, oi_10, oi_11, oi_12, oi_13, oi_14, oi_15, oi_16, oi_17, oi_18, oi_19, oi_20, oi_21, dX7_aboutLetters_0, dX7_aboutLetters_1, co_7_243, dX7_aboutLetters_4, dX7_aboutLetters_5, dX7_aboutLetters_6, dX7_aboutLetters_9, dX7_aboutLetters_10, dX7_aboutLetters_11, dX7_aboutLetters_14, bp_m6, dX7_aboutLetters_16, dX7_aboutLetters_17, dX7_aboutLetters_18, dX7_aboutLetters_21, dX7_aboutLetters_22, dX7_aboutLetters_23, bp_96, dX7_aboutLetters_25, dX7_aboutLetters_26, dX7_aboutLetters_27, dX7_aboutLetters_28, dX7_aboutLetters_29, dX7_aboutLetters_30, dX7_aboutLetters_31, dX7_aboutLetters_32, bp_31, dX7_aboutLetters_34, dX7_aboutLetters_35, dX7_aboutLetters_36, pfA, pf1, pf_xin, s_xin, pf_xis, s_xis, pf_xleadingLetters, s_xleadingLetters, pf_xleadingWeight, s_xleadingWeight, pf_xleadOf, s_xleadOf, pf_lettersIn, s_lettersIn, hC, hD, lMany, e1, e2, e3, e4, m5, sh5 h hl (show ds.length - w ≤ 6 by omega), and31 (show enc 32 (ds.drop (ds.length - w)) < 2 ^ 32 by have := enc_dropL (b := 32) (by decide) (by decide) h hl (ds.length - w); omega), e6.2.1]
        unfold alV lAt
        rw [if_neg hw0, if_pos (by omega), ← nI_add, show ds.length - 1 - (w - 1) = ds.length - w by omega]
        rfl
theorem ct_aboutLettersC (G : wG) (M : wMem) (c w : Int32) (h : isC 32 c) (hw : isIx w 2147483648) : CT G 76 0 0 [.int c, .int w] M (fun o M' => o = some (.int (alV (dlc 32 c) w.toNatClampNeg)) ∧ M' = M) := by
  obtain ⟨ds, h1, h2, rfl⟩ := h
  obtain ⟨k, hk, rfl⟩ := isIx_k hw
  rw [dlc_enc (by decide) (by decide) h2 h1, nI_clamp hk]
  exact ct_aboutLetters G M ds h2 h1 k hk
def s_aboutLetters : List Value → wMem → Option (Prop × Option Value × wMem) := fun As M => match As with | [.int c, .int w] => some (isC 32 c ∧ isIx w 2147483648, some (.int (alV (dlc 32 c) w.toNatClampNeg)), M) | _ => none
def pf_aboutLetters : wPft := pfA 76 s_aboutLetters pf_lettersIn
theorem pf_aboutLetters_ok (G : wG) : wPfOk G pf_aboutLetters := by
  refine pfA_ok (fun As M g o M2 h hg => ?_) (pf_lettersIn_ok G)
  unfold s_aboutLetters at h
  split at h
  · cases h; exact ct_aboutLettersC G M _ _ hg.1 hg.2
  · cases h

theorem LR_al {a b : Int32} (h : LR a b) (w : Nat) : alV (dlc 32 a) w = if w = 0 then (if b = 0 then -6 else lMany (dlc 27 b)) else lAt (dlc 27 b) (w - 1) := by
  obtain ⟨e, -, hb⟩ := LR_dlc h
  rw [e]
  unfold alV
  obtain ⟨ds, h1, h2, rfl⟩ := hb
  rw [dlc_enc (by decide) (by decide) h2 h1]
  by_cases hd : ds = []
  · subst hd
    simp [enc, nI_0]
  · have h3 : ¬ ds.length = 0 := fun q => hd (List.length_eq_zero_iff.mp q)
    have h4 : ¬ nI (enc 27 ds) = 0 := by
      cases ds with
      | nil => exact absurd rfl hd
      | cons d r => exact nI_ne0 (enc_pos h2) (enc_lt31 (by decide) (by decide) h2 h1)
    rw [if_neg h3, if_neg h4]
/-! ===== what the reference's row keeps to ===== -/
def IV (T : Nat) (v : Nat → Int32) : Prop :=
  (isIx (v 0) 401 ∧ isIx (v 1) 201 ∧ isIx (v 2) 10 ∧ isIx (v 3) 61 ∧ isIx (v 4) 21 ∧ isIx (v 5) 51) ∧ (∀ i, i < 6 → isIx (v (12 + 4 * i)) 101)
  ∧ (∀ i, i < nW v → isIx (v (37 + 6 * i)) 10 ∧ (v (36 + 6 * i) = 1 → v (38 + 6 * i) = 0)) ∧ (∀ k, k < sN v → isIx (eW v k) (100 * T + 1) ∧ ¬ eH v k = 0)
  ∧ (∀ i j, i < sN v → j < sN v → eO v i = eO v j → eH v i = eH v j → i = j)
  ∧ sumF (fun i => v (13 + 4 * i)) 6 = v 7 ∧ sumF (fun i => v (14 + 4 * i)) 6 = v 8 ∧ 3 * sN v ≤ T
theorem isIx_31 {k : Nat} (h : k < 2 ^ 31) : isIx (nI k) 2147483648 = True := eq_true ⟨by rw [nI_clamp h], by rw [nI_clamp h]; exact h⟩
theorem isIx_mono {x : Int32} {a b : Nat} (h : isIx x a) (hab : a ≤ b) : isIx x b := ⟨h.1, Nat.lt_of_lt_of_le h.2 hab⟩
theorem IV_mono {T T' : Nat} {v : Nat → Int32} (h : IV T v) (hT : T ≤ T') : IV T' v :=
  ⟨h.1, h.2.1, h.2.2.1, fun k hk => ⟨isIx_mono (h.2.2.2.1 k hk).1 (by omega), (h.2.2.2.1 k hk).2⟩, h.2.2.2.2.1, h.2.2.2.2.2.1, h.2.2.2.2.2.2.1, by have := h.2.2.2.2.2.2.2; omega⟩
def RN (M : wMem) : Prop := XL M ∧ SL 6 M ∧ RV 6 M (wI M 253) ∧ IV 512 (wI M 253)
theorem ct_weightLackingI (G : wG) (M : wMem) (w : Int32) (h : RN M) (hw : isIx w (nW (wI M 253))) : CT G 39 0 0 [.ref 6, .int w] M (fun o M' => o = some (.int (mLck (wI M 253) w.toNatClampNeg)) ∧ M' = M) := by
  obtain ⟨k, hk, rfl⟩ := isIx_k hw
  have := h.2.2.1.1.2.1
  rw [nI_clamp (by omega)]
  exact ct_weightLacking G M _ h.2.1 h.2.2.1 k hk
theorem ct_rankByTrustI (G : wG) (M : wMem) (w : Int32) (h : RN M) (hw : isIx w 6) : CT G 41 0 0 [.ref 6, .int w] M (fun o M' => o = some (.int (nI (cntP (plS (sT (wI M 253)) w.toNatClampNeg) 6))) ∧ M' = M) := by
  obtain ⟨k, hk, rfl⟩ := isIx_k hw
  rw [nI_clamp (by omega)]
  exact ct_rankByTrust G M _ h.2.1 h.2.2.1 h.2.2.2.2.1 k hk
theorem ct_unlikeX (G : wG) (M : wMem) (w : Int32) (h : RN M) : CT G 3 0 0 [.ref 10, .int w] M (fun o M' => o = some (.int (nI (cntP (fun k => decide (eO (wI M 253) k = w)) (sN (wI M 253))))) ∧ M' = M) := by
  have := ct_unlikeAnswers G M w (BG_e h.2.1 h.2.2.1)
  rw [bN_e h.2.2.1, cntP_c (p' := fun k => decide (eO (wI M 253) k = w)) (fun k hk => by simp only [show wI M 11 k = eO (wI M 253) k from (h.2.2.1.2.2.2.2.2.2 k hk).1])] at this
  exact this
theorem ct_placeX (G : wG) (M : wMem) (w a : Int32) (h : RN M) : CT G 2 0 0 [.ref 10, .int w, .int a] M (fun o M' => o = some (.int (oN (entO (wI M 253) w a) (-1))) ∧ M' = M) := by
  have := ct_placeOfAnswer G M w a (BG_e h.2.1 h.2.2.1)
  rw [bN_e h.2.2.1, fstP_c (p' := fun k => decide (eO (wI M 253) k = w ∧ nI (cntP (fun k => decide (eO (wI M 253) k = w)) k) = a)) (fun k hk => by
    simp only [show wI M 11 k = eO (wI M 253) k from (h.2.2.1.2.2.2.2.2.2 k hk).1]
    rw [cntP_c (p' := fun k => decide (eO (wI M 253) k = w)) (fun j hj => by simp only [show wI M 11 j = eO (wI M 253) j from (h.2.2.1.2.2.2.2.2.2 j (by omega)).1])])] at this
  exact this
theorem ct_rankX (G : wG) (M : wMem) (w : Int32) (h : RN M) (hw : isIx w (sN (wI M 253))) : CT G 7 0 0 [.ref 10, .int w] M (fun o M' => o = some (.int (nI (cntP (plP (eO (wI M 253)) (eW (wI M 253)) w.toNatClampNeg) (sN (wI M 253))))) ∧ M' = M) := by
  obtain ⟨j, hj, rfl⟩ := isIx_k hw
  have h17 := h.2.2.1.1.2.2.2
  rw [nI_clamp (by omega)]
  have := ct_rankByWeight G M j (BG_e h.2.1 h.2.2.1) (by rw [bN_e h.2.2.1]; exact hj)
  rw [bN_e h.2.2.1, cntP_c (p' := plP (eO (wI M 253)) (eW (wI M 253)) j) (fun k hk => by
    have e1 := h.2.2.1.2.2.2.2.2.2 k hk
    have e2 := h.2.2.1.2.2.2.2.2.2 j hj
    simp only [plP, show wI M 11 k = eO (wI M 253) k from e1.1, show wI M 11 j = eO (wI M 253) j from e2.1, show wI M 14 k = eW (wI M 253) k from e1.2.2.2, show wI M 14 j = eW (wI M 253) j from e2.2.2.2])] at this
  exact this
theorem ct_lwX (G : wG) (M : wMem) (w : Int32) (h : RN M) : CT G 5 0 0 [.ref 10, .int w] M (fun o M' => o = some (.int (mWt (wI M 253) w)) ∧ M' = M) := by
  have := ct_leadingWeight G M w (BG_e h.2.1 h.2.2.1)
  rw [bWt_e h.2.2.1] at this
  exact this
theorem ct_loX (G : wG) (M : wMem) (w : Int32) (h : RN M) : CT G 6 0 0 [.ref 10, .int w] M (fun o M' => o = some (.int (mLo (wI M 253) w)) ∧ M' = M) := by
  have := ct_leadOf G M w (BG_e h.2.1 h.2.2.1)
  rw [bLo_e h.2.2.1] at this
  exact this
def s_xhasWord : List Value → wMem → Option (Prop × Option Value × wMem) := fun As M => match As with | [.ref b, .int w] => if b = 6 then some (RN M, some (.int (b2i (isW (wI M 253) w = true))), M) else none | _ => none
def pf_xhasWord : wPft := pfA 31 s_xhasWord pf_aboutLetters
theorem pf_xhasWord_ok (G : wG) : wPfOk G pf_xhasWord := by
  refine pfA_ok (fun As M g o M2 h hg => ?_) (pf_aboutLetters_ok G)
  unfold s_xhasWord at h
  split at h
  · split at h
    · next hc => obtain hc := hc; subst hc; cases h; exact ct_hasWord G M _ hg.2.1 hg.2.2.1 _
    · cases h
  · cases h

def s_xhasRoom : List Value → wMem → Option (Prop × Option Value × wMem) := fun As M => match As with | [.ref b] => if b = 6 then some (RN M, some (.int (b2i (nW (wI M 253) < 12))), M) else none | _ => none
def pf_xhasRoom : wPft := pfA 32 s_xhasRoom pf_xhasWord
theorem pf_xhasRoom_ok (G : wG) : wPfOk G pf_xhasRoom := by
  refine pfA_ok (fun As M g o M2 h hg => ?_) (pf_xhasWord_ok G)
  unfold s_xhasRoom at h
  split at h
  · split at h
    · next hc => obtain hc := hc; subst hc; cases h; exact ct_hasRoom G M _ hg.2.1 hg.2.2.1
    · cases h
  · cases h

def s_xkind : List Value → wMem → Option (Prop × Option Value × wMem) := fun As M => match As with | [.ref b, .int x, .int y] => if b = 6 then some (RN M, some (.int (mBec (wI M 253) x y)), M) else none | _ => none
def pf_xkind : wPft := pfA 38 s_xkind pf_xhasRoom
theorem pf_xkind_ok (G : wG) : wPfOk G pf_xkind := by
  refine pfA_ok (fun As M g o M2 h hg => ?_) (pf_xhasRoom_ok G)
  unfold s_xkind at h
  split at h
  · split at h
    · next hc => obtain hc := hc; subst hc; cases h; exact ct_kindWhenAgreed G M _ hg.2.1 hg.2.2.1 _ _
    · cases h
  · cases h

def s_xtbr : List Value → wMem → Option (Prop × Option Value × wMem) := fun As M => match As with | [.ref b, .int t] => if b = 6 then some (RN M, some (.int (trUp (wI M 253 4) t)), M) else none | _ => none
def pf_xtbr : wPft := pfA 40 s_xtbr pf_xkind
theorem pf_xtbr_ok (G : wG) : wPfOk G pf_xtbr := by
  refine pfA_ok (fun As M g o M2 h hg => ?_) (pf_xkind_ok G)
  unfold s_xtbr at h
  split at h
  · split at h
    · next hc => obtain hc := hc; subst hc; cases h; exact ct_trustBehindRight G M _ hg.2.1 hg.2.2.1 _
    · cases h
  · cases h

def s_xlack : List Value → wMem → Option (Prop × Option Value × wMem) := fun As M => match As with | [.ref b, .int w] => if b = 6 then some (RN M ∧ isIx w (nW (wI M 253)), some (.int (mLck (wI M 253) w.toNatClampNeg)), M) else none | _ => none
def pf_xlack : wPft := pfA 39 s_xlack pf_xtbr
theorem pf_xlack_ok (G : wG) : wPfOk G pf_xlack := by
  refine pfA_ok (fun As M g o M2 h hg => ?_) (pf_xtbr_ok G)
  unfold s_xlack at h
  split at h
  · split at h
    · next hc => obtain hc := hc; subst hc; cases h; exact ct_weightLackingI G M _ hg.1 hg.2
    · cases h
  · cases h

def s_xrank : List Value → wMem → Option (Prop × Option Value × wMem) := fun As M => match As with | [.ref b, .int w] => if b = 6 then some (RN M ∧ isIx w 6, some (.int (nI (cntP (plS (sT (wI M 253)) w.toNatClampNeg) 6))), M) else none | _ => none
def pf_xrank : wPft := pfA 41 s_xrank pf_xlack
theorem pf_xrank_ok (G : wG) : wPfOk G pf_xrank := by
  refine pfA_ok (fun As M g o M2 h hg => ?_) (pf_xlack_ok G)
  unfold s_xrank at h
  split at h
  · split at h
    · next hc => obtain hc := hc; subst hc; cases h; exact ct_rankByTrustI G M _ hg.1 hg.2
    · cases h
  · cases h

def s_xwok : List Value → wMem → Option (Prop × Option Value × wMem) := fun As M => match As with | [.ref b, .int c] => if b = 6 then some (RN M, some (.int (nI (cntP (fun k => decide (wK (wI M 253) k = c)) (nW (wI M 253))))), M) else none | _ => none
def pf_xwok : wPft := pfA 42 s_xwok pf_xrank
theorem pf_xwok_ok (G : wG) : wPfOk G pf_xwok := by
  refine pfA_ok (fun As M g o M2 h hg => ?_) (pf_xrank_ok G)
  unfold s_xwok at h
  split at h
  · split at h
    · next hc => obtain hc := hc; subst hc; cases h; exact ct_wordsOfKind G M _ hg.2.1 hg.2.2.1 _
    · cases h
  · cases h

def s_xaa : List Value → wMem → Option (Prop × Option Value × wMem) := fun As M => match As with | [.ref b] => if b = 6 then some (RN M, some (.int (sumF (fun i => wI M 253 (13 + 4 * i)) 6)), M) else none | _ => none
def pf_xaa : wPft := pfA 43 s_xaa pf_xwok
theorem pf_xaa_ok (G : wG) : wPfOk G pf_xaa := by
  refine pfA_ok (fun As M g o M2 h hg => ?_) (pf_xwok_ok G)
  unfold s_xaa at h
  split at h
  · split at h
    · next hc => obtain hc := hc; subst hc; cases h; exact ct_xallAnswers G M _ hg.2.1 hg.2.2.1
    · cases h
  · cases h

def s_xar : List Value → wMem → Option (Prop × Option Value × wMem) := fun As M => match As with | [.ref b] => if b = 6 then some (RN M, some (.int (sumF (fun i => wI M 253 (14 + 4 * i)) 6)), M) else none | _ => none
def pf_xar : wPft := pfA 44 s_xar pf_xaa
theorem pf_xar_ok (G : wG) : wPfOk G pf_xar := by
  refine pfA_ok (fun As M g o M2 h hg => ?_) (pf_xaa_ok G)
  unfold s_xar at h
  split at h
  · split at h
    · next hc => obtain hc := hc; subst hc; cases h; exact ct_xallRight G M _ hg.2.1 hg.2.2.1
    · cases h
  · cases h

def s_xat : List Value → wMem → Option (Prop × Option Value × wMem) := fun As M => match As with | [.ref b] => if b = 6 then some (RN M, some (.int (sumF (fun i => wI M 253 (12 + 4 * i)) 6)), M) else none | _ => none
def pf_xat : wPft := pfA 45 s_xat pf_xar
theorem pf_xat_ok (G : wG) : wPfOk G pf_xat := by
  refine pfA_ok (fun As M g o M2 h hg => ?_) (pf_xar_ok G)
  unfold s_xat at h
  split at h
  · split at h
    · next hc => obtain hc := hc; subst hc; cases h; exact ct_xallTrust G M _ hg.2.1 hg.2.2.1
    · cases h
  · cases h

def s_xunl : List Value → wMem → Option (Prop × Option Value × wMem) := fun As M => match As with | [.ref b, .int w] => if b = 10 then some (RN M, some (.int (nI (cntP (fun k => decide (eO (wI M 253) k = w)) (sN (wI M 253))))), M) else none | _ => none
def pf_xunl : wPft := pfA 3 s_xunl pf_xat
theorem pf_xunl_ok (G : wG) : wPfOk G pf_xunl := by
  refine pfA_ok (fun As M g o M2 h hg => ?_) (pf_xat_ok G)
  unfold s_xunl at h
  split at h
  · split at h
    · next hc => obtain hc := hc; subst hc; cases h; exact ct_unlikeX G M _ hg
    · cases h
  · cases h

def s_xpla : List Value → wMem → Option (Prop × Option Value × wMem) := fun As M => match As with | [.ref b, .int w, .int a] => if b = 10 then some (RN M, some (.int (oN (entO (wI M 253) w a) (-1))), M) else none | _ => none
def pf_xpla : wPft := pfA 2 s_xpla pf_xunl
theorem pf_xpla_ok (G : wG) : wPfOk G pf_xpla := by
  refine pfA_ok (fun As M g o M2 h hg => ?_) (pf_xunl_ok G)
  unfold s_xpla at h
  split at h
  · split at h
    · next hc => obtain hc := hc; subst hc; cases h; exact ct_placeX G M _ _ hg
    · cases h
  · cases h

def s_xrbw : List Value → wMem → Option (Prop × Option Value × wMem) := fun As M => match As with | [.ref b, .int w] => if b = 10 then some (RN M ∧ isIx w (sN (wI M 253)), some (.int (nI (cntP (plP (eO (wI M 253)) (eW (wI M 253)) w.toNatClampNeg) (sN (wI M 253))))), M) else none | _ => none
def pf_xrbw : wPft := pfA 7 s_xrbw pf_xpla
theorem pf_xrbw_ok (G : wG) : wPfOk G pf_xrbw := by
  refine pfA_ok (fun As M g o M2 h hg => ?_) (pf_xpla_ok G)
  unfold s_xrbw at h
  split at h
  · split at h
    · next hc => obtain hc := hc; subst hc; cases h; exact ct_rankX G M _ hg.1 hg.2
    · cases h
  · cases h

def s_xlw : List Value → wMem → Option (Prop × Option Value × wMem) := fun As M => match As with | [.ref b, .int w] => if b = 10 then some (RN M, some (.int (mWt (wI M 253) w)), M) else none | _ => none
def pf_xlw : wPft := pfA 5 s_xlw pf_xrbw
theorem pf_xlw_ok (G : wG) : wPfOk G pf_xlw := by
  refine pfA_ok (fun As M g o M2 h hg => ?_) (pf_xrbw_ok G)
  unfold s_xlw at h
  split at h
  · split at h
    · next hc => obtain hc := hc; subst hc; cases h; exact ct_lwX G M _ hg
    · cases h
  · cases h

def s_xlo : List Value → wMem → Option (Prop × Option Value × wMem) := fun As M => match As with | [.ref b, .int w] => if b = 10 then some (RN M, some (.int (mLo (wI M 253) w)), M) else none | _ => none
def pf_xlo : wPft := pfA 6 s_xlo pf_xlw
theorem pf_xlo_ok (G : wG) : wPfOk G pf_xlo := by
  refine pfA_ok (fun As M g o M2 h hg => ?_) (pf_xlw_ok G)
  unfold s_xlo at h
  split at h
  · split at h
    · next hc => obtain hc := hc; subst hc; cases h; exact ct_loX G M _ hg
    · cases h
  · cases h

def tldB (x : Int32) : Bool := decide (x = 0 ∨ x = 2)
set_option maxRecDepth 100000 in
set_option maxHeartbeats 4000000 in
theorem ct_isTold (G : wG) (M : wMem) (q : Nat) (h : wS M q = some (6, 0)) : CT G 48 0 0 [.ref q] M (fun o M' => o = some (.int (b2i (tldB (wI M q 0) = true))) ∧ M' = M) := by
  refine CT.intro wm_48 mo_48 (by decide +kernel) false (by simp) (Nat.le_of_ble_eq_true rfl) ?_
  refine wGoC (pf1_ok G) 60 [] [] (fun C c0 c1 c2 c3 c4 c5 c6 c7 c8 c9 c10 c11 c12 => ?_)
  simp (config := {maxSteps := 10000000}) only [i1_0, nn_t, nn_f, im_t, im_f, nn_n, xR_s, xR_z, c0, c1, c2, c3, c4, c5, c6, c7, c8, c9, c10, c11, c12, iPuI_e, iPuR_e, iPuL_e, iStoI_e, iStoR_e, iInc_e, iAdd_e, iSub_e, iMul_e, iAnd_e, iOr_e, iShl_e, iShr_e, iPo_i, iLdi_e, iUshr_e, iDiv_e, iRem_e, iLushr_e, iLshl_e, iLand_e, iLor_e, iLcmp_e, iI2l_e, iL2i_e, iI2c_e, iDup_e, iDup2_e, iIf_e, iIfc_e, iSwA, iSw_e, iGetf_r, iGetf_i, iGetf_z, iPutf_i, iPutf_z, iPutf_rt, iPutf_rf, iGets_e, iLdc_e, iAl_e, iAl2_e, iAlr_e, iAq_e, iAq2_e, iAsI_e, iAsZ_e, iAsC_e, iAs2_e, iAt_e, iAt2_e, iLen_e, iNew_e, iNwa_e, iNwq_e, iPop, iCl2_s, iCl2_n, iIv2_e, iIv_e, iIv_c, iIs2_e, iIs_e, iIs_n, iIs_max, iIs_min, iIs_cop, iCp2_e, iIp2_e, iIp_o, iIp_2, iIp_3, iRet_i, iRet_z, iRtv_e, xE_iconst, xE_bipush, xE_sipush, xE_lconst, xE_ldc2_w, xE_iload_n, xE_iload, xE_lload_n, xE_aload_n, xE_aload, xE_istore_n, xE_istore, xE_astore_n, xE_astore, xE_iinc, xE_iadd, xE_isub, xE_imul, xE_idiv, xE_irem, xE_iand, xE_ior, xE_ishl, xE_ishr, xE_pop, xE_ldc, xE_iushr, xE_lushr, xE_lshl, xE_land, xE_lor, xE_lcmp, xE_i2l, xE_l2i, xE_i2c, xE_dup, xE_dup2, xE_ifCond, xE_if_icmp, xE_goto, xE_getfield, xE_putfield, xE_getstatic, xE_baload, xE_caload, xE_iaload, xE_aaload, xE_iastore, xE_bastore, xE_castore, xE_aastore, xE_arraylength, xE_new, xE_newarray_int, xE_newarray_boolean, xE_newarray_char, xE_anewarray, xE_checkcast, xE_invokevirtual, xE_invokestatic, xE_invokespecial, xE_ireturn, xE_return_, xE_tableswitch, eCl, eKd, wCnd, pf0, wArgs, lg_n, lg_0, lg_s, wNl_n, wNl_i, wNl_r, wCat_n, wCat_i, wCat_r, wCat_l, cInt, cRef, cLong, fv0, fv1, fv2, fv3, fw0, fw1, oi_m1, oi_0, oi_1, oi_2, oi_3, oi_4, oi_5, wRf, wLn_n, wLn_c, List.length_cons, List.length_nil, List.replicate, List.set_cons_zero, List.set_cons_succ, List.cons_append, List.nil_append, List.mem_cons, List.not_mem_nil, if_true, if_false, ↓reduceIte, true_and, and_true, or_true, true_or, or_false, false_or, Option.toList, Nat.reduceAdd, Nat.reduceSub, Nat.reduceLT, Nat.reduceLeDiff, Nat.reduceEqDiff, Nat.le_refl, eq_self, Nat.zero_le, Int.cast_ofNat_Int, Int.reduceSub, Int.reduceAdd, Int.reduceLE, Int.reduceToNat, Int.reduceNeg, Int32.reduceAdd, Int32.reduceSub, Int32.reduceMul, Int32.reduceLT, i_leF, Bool.false_eq_true, Bool.true_eq_false, b2i_T, b2i_F, b2i_0, b2i_01, i_a0, not_false_eq_true, oi_6, oi_7, oi_8, oi_9, oi_10, oi_11, oi_12, oi_13, oi_14, oi_15, oi_16, oi_17, oi_18, oi_19, oi_20, oi_21, dX6_isTold_0, dX6_isTold_1, fo_6_9, dX6_isTold_4, dX6_isTold_7, dX6_isTold_8, dX6_isTold_11, dX6_isTold_12, dX6_isTold_15, dX6_isTold_16, dX6_isTold_19, dX6_isTold_20, pf1, h]
  repeat' (first | refine And.intro ?_ ?_ | (with_reducible show _ → _; intro _))
  all_goals simp [b2i, tldB, *]
def s_isTold : List Value → wMem → Option (Prop × Option Value × wMem) := fun As M => match As with | [.ref q] => some (wS M q = some (6, 0), some (.int (b2i (tldB (wI M q 0) = true))), M) | _ => none
def pf_isTold : wPft := pfA 48 s_isTold pf_xlo
theorem pf_isTold_ok (G : wG) : wPfOk G pf_isTold := by
  refine pfA_ok (fun As M g o M2 h hg => ?_) (pf_xlo_ok G)
  unfold s_isTold at h
  split at h
  · cases h; exact ct_isTold G M _ hg
  · cases h

