/-! ===== the reference: the pad is read ===== -/
abbrev pS : Type := Nat × Bool
def tkC (f : Nat → Int32) (L : Nat) (s : pS) : Int32 := if s.1 < L then f s.1 else 0
def tk (f : Nat → Int32) (L : Nat) (s : pS) (lo hi : Int32) : pS := if s.2 = false ∧ inB (tkC f L s) lo hi = true then (s.1 + 1, false) else (s.1, true)
def nx (f : Nat → Int32) (L : Nat) (s : pS) (lo hi : Int32) : Bool := !s.2 && decide (s.1 < L) && inB (f s.1) lo hi
def stOf (M : wMem) : pS := ((wI M 252 7).toNatClampNeg, decide (¬ wI M 252 8 = 0))
def lenM (M : wMem) : Nat := (wI M 252 6).toNatClampNeg
def TG (M : wMem) : Prop := MLay M ∧ wI M 252 7 = nI (stOf M).1 ∧ (stOf M).1 ≤ 60 ∧ wI M 252 8 = b2i ((stOf M).2 = true) ∧ wI M 252 6 = nI (lenM M) ∧ lenM M ≤ 60
def setP (M : wMem) (s : pS) : wMem := wSetF M 252 (up1 (up1 (wI M 252) 8 (b2i (s.2 = true))) 7 (nI s.1))
set_option maxRecDepth 100000 in
set_option maxHeartbeats 4000000 in
theorem ct_takes (G : wG) (M : wMem) (lo hi : Int32) (h : TG M) : CT G 110 0 0 [.ref 252, .int lo, .int hi] M (fun o M' => o = some (.int (tkC (wI M 257) (lenM M) (stOf M) - lo)) ∧ M' = setP M (tk (wI M 257) (lenM M) (stOf M) lo hi)) := by
  obtain ⟨hL, h7, h7b, h8, h6, h6b⟩ := h
  obtain ⟨l1, l2, l3, l4, l5, l6, l7, l8, l9, l10, l11, l12, l13⟩ := hL
  generalize hs : stOf M = s at *
  obtain ⟨p, w⟩ := s
  simp only at h7 h7b h8
  generalize hl : lenM M = L at *
  refine CT.intro wm_110 mo_110 (by decide +kernel) false (by simp) (Nat.le_of_ble_eq_true rfl) ?_
  have cp := nI_clamp (show p < 2 ^ 31 by omega)
  have hlt := nI_ltF (a := p) (b := L) (by omega) (by omega)
  by_cases hp : p < L
  · have vp : vp_in (nI p) 60 := vp_in_nI (by omega) (by decide)
    cases hb : inB (wI M 257 p) lo hi <;> cases w
    all_goals simp only [Bool.false_eq_true, eq_self, b2i_T, b2i_F] at h8
    all_goals refine wGoC (pf_forgets_ok G) 80 [] [] (fun C c0 c1 c2 c3 c4 c5 c6 c7 c8 c9 c10 c11 c12 => ?_)
    all_goals (simp (config := {maxSteps := 10000000}) only [i1_0, nn_t, nn_f, im_t, im_f, nn_n, xR_s, xR_z, c0, c1, c2, c3, c4, c5, c6, c7, c8, c9, c10, c11, c12, iPuI_e, iPuR_e, iPuL_e, iStoI_e, iStoR_e, iInc_e, iAdd_e, iSub_e, iMul_e, iAnd_e, iOr_e, iShl_e, iUshr_e, iDiv_e, iRem_e, iLushr_e, iLshl_e, iLand_e, iLor_e, iLcmp_e, iI2l_e, iL2i_e, iI2c_e, iDup_e, iDup2_e, iIf_e, iIfc_e, iSwA, iSw_e, iGetf_r, iGetf_i, iGetf_z, iPutf_i, iPutf_z, iPutf_rt, iPutf_rf, iGets_e, iLdc_e, iAl_e, iAl2_e, iAlr_e, iAq_e, iAq2_e, iAsI_e, iAsZ_e, iAsC_e, iAs2_e, iAt_e, iAt2_e, iLen_e, iNew_e, iNwa_e, iNwq_e, iPop, iCl2_s, iCl2_n, iIv2_e, iIv_e, iIv_c, iIs2_e, iIs_e, iIs_n, iIs_max, iIs_min, iIs_cop, iCp2_e, iIp2_e, iIp_o, iIp_2, iIp_3, iRet_i, iRet_z, iRtv_e, xE_iconst, xE_bipush, xE_sipush, xE_lconst, xE_ldc2_w, xE_iload_n, xE_iload, xE_lload_n, xE_aload_n, xE_aload, xE_istore_n, xE_istore, xE_astore_n, xE_astore, xE_iinc, xE_iadd, xE_isub, xE_imul, xE_idiv, xE_irem, xE_iand, xE_ior, xE_ishl, xE_iushr, xE_lushr, xE_lshl, xE_land, xE_lor, xE_lcmp, xE_i2l, xE_l2i, xE_i2c, xE_dup, xE_dup2, xE_ifCond, xE_if_icmp, xE_goto, xE_getfield, xE_putfield, xE_getstatic, xE_baload, xE_caload, xE_iaload, xE_aaload, xE_iastore, xE_bastore, xE_castore, xE_aastore, xE_arraylength, xE_new, xE_newarray_int, xE_newarray_boolean, xE_newarray_char, xE_anewarray, xE_checkcast, xE_invokevirtual, xE_invokestatic, xE_invokespecial, xE_ireturn, xE_return_, xE_tableswitch, eCl, eKd, wCnd, pf0, wArgs, lg_n, lg_0, lg_s, wNl_n, wNl_i, wNl_r, wCat_n, wCat_i, wCat_r, wCat_l, cInt, cRef, cLong, fv0, fv1, fv2, fv3, fw0, fw1, oi_m1, oi_0, oi_1, oi_2, oi_3, oi_4, oi_5, wRf, wLn_n, wLn_c, List.length_cons, List.length_nil, List.replicate, List.set_cons_zero, List.set_cons_succ, List.cons_append, List.nil_append, List.mem_cons, List.not_mem_nil, if_true, if_false, ↓reduceIte, true_and, and_true, or_true, true_or, or_false, false_or, Option.toList, Nat.reduceAdd, Nat.reduceSub, Nat.reduceLT, Nat.reduceLeDiff, Nat.reduceEqDiff, Nat.le_refl, eq_self, Nat.zero_le, Int.cast_ofNat_Int, Int.reduceSub, Int.reduceAdd, Int.reduceLE, Int.reduceToNat, Int.reduceNeg, Int32.reduceAdd, Int32.reduceSub, Int32.reduceMul, Int32.reduceLT, i_leF, Bool.false_eq_true, Bool.true_eq_false, b2i_T, b2i_F, b2i_0, b2i_01, i_a0, not_false_eq_true, oi_6, oi_7, oi_8, oi_9, oi_10, oi_11, oi_12, oi_13, oi_14, oi_15, oi_16, oi_17, oi_18, oi_19, oi_20, oi_21, dX8_takes_0, dX8_takes_1, fo_8_91, dX8_takes_4, dX8_takes_5, fo_8_94, dX8_takes_8, dX8_takes_11, dX8_takes_12, fo_8_23, dX8_takes_15, dX8_takes_16, dX8_takes_19, dX8_takes_20, dX8_takes_23, dX8_takes_24, dX8_takes_25, dX8_takes_26, dX8_takes_27, fo_8_87, dX8_takes_30, dX8_takes_33, dX8_takes_34, dX8_takes_35, dX8_takes_36, co_8_33, dX8_takes_39, dX8_takes_42, dX8_takes_43, dX8_takes_46, dX8_takes_47, dX8_takes_50, dX8_takes_51, dX8_takes_52, dX8_takes_55, dX8_takes_56, dX8_takes_59, dX8_takes_62, dX8_takes_63, dX8_takes_66, dX8_takes_67, dX8_takes_68, dX8_takes_71, dX8_takes_72, dX8_takes_73, dX8_takes_74, pfA, pf1, pf_leading, s_leading, pf_weightOf, s_weightOf, pf_mleadOf, s_mleadOf, pf_find, s_find, pf_answersTo, s_answersTo, pf_entryOf, s_entryOf, pf_isWord, s_isWord, pf_isKind, s_isKind, pf_due, s_due, pf_isAgreed, s_isAgreed, pf_becomes, s_becomes, pf_lacks, s_lacks, pf_placeOf, s_placeOf, pf_placeOfSolver, s_placeOfSolver, pf_mallTrust, s_mallTrust, pf_wordsOf, s_wordsOf, pf_lettersOf, s_lettersOf, pf_letterOf, s_letterOf, pf_min, s_min, pf_xin, s_xin, pf_mis, s_mis, pf_xis, s_xis, pf_record, s_record, pf_lays, s_lays, pf_least, s_least, pf_most, s_most, pf_adds, s_adds, pf_votes, s_votes, pf_forgets, s_forgets, l1, l2, l3, l4, l5, l6, l7, l8, l9, l10, l11, l12, l13, h7, h8, h6, cp, hlt, hp, vp, hb, iDup_r, iDup_i, iDup2_ir, wSetI_F, wF_I, wF_S, wF_P, wF_Z, wF_F, up1_e, nI_1, i_a0, at_00, of_00, os_00, atx_1, aty_1, aty_2, aty_3, ofx_1, ofy_1, ofy_2, ofy_3, ofy_4, ofy_5, osx_1, osy_1, osy_2, osy_3, vi_0, vc_0, vi_1, vc_1, vi_2, vc_2, vi_3, vc_3, vi_4, vc_4, vi_5, vc_5, vi_6, vc_6, vi_7, vc_7, vi_8, vc_8, vi_9, vc_9, vi_10, vc_10, vi_11, vc_11])
    all_goals simp [tk, tkC, hp, hb, setP, b2i_T, b2i_F, nI_1]
  · cases hb : inB 0 lo hi <;> cases w
    all_goals simp only [Bool.false_eq_true, eq_self, b2i_T, b2i_F] at h8
    all_goals refine wGoC (pf_forgets_ok G) 80 [] [] (fun C c0 c1 c2 c3 c4 c5 c6 c7 c8 c9 c10 c11 c12 => ?_)
    all_goals (simp (config := {maxSteps := 10000000}) only [i1_0, nn_t, nn_f, im_t, im_f, nn_n, xR_s, xR_z, c0, c1, c2, c3, c4, c5, c6, c7, c8, c9, c10, c11, c12, iPuI_e, iPuR_e, iPuL_e, iStoI_e, iStoR_e, iInc_e, iAdd_e, iSub_e, iMul_e, iAnd_e, iOr_e, iShl_e, iUshr_e, iDiv_e, iRem_e, iLushr_e, iLshl_e, iLand_e, iLor_e, iLcmp_e, iI2l_e, iL2i_e, iI2c_e, iDup_e, iDup2_e, iIf_e, iIfc_e, iSwA, iSw_e, iGetf_r, iGetf_i, iGetf_z, iPutf_i, iPutf_z, iPutf_rt, iPutf_rf, iGets_e, iLdc_e, iAl_e, iAl2_e, iAlr_e, iAq_e, iAq2_e, iAsI_e, iAsZ_e, iAsC_e, iAs2_e, iAt_e, iAt2_e, iLen_e, iNew_e, iNwa_e, iNwq_e, iPop, iCl2_s, iCl2_n, iIv2_e, iIv_e, iIv_c, iIs2_e, iIs_e, iIs_n, iIs_max, iIs_min, iIs_cop, iCp2_e, iIp2_e, iIp_o, iIp_2, iIp_3, iRet_i, iRet_z, iRtv_e, xE_iconst, xE_bipush, xE_sipush, xE_lconst, xE_ldc2_w, xE_iload_n, xE_iload, xE_lload_n, xE_aload_n, xE_aload, xE_istore_n, xE_istore, xE_astore_n, xE_astore, xE_iinc, xE_iadd, xE_isub, xE_imul, xE_idiv, xE_irem, xE_iand, xE_ior, xE_ishl, xE_iushr, xE_lushr, xE_lshl, xE_land, xE_lor, xE_lcmp, xE_i2l, xE_l2i, xE_i2c, xE_dup, xE_dup2, xE_ifCond, xE_if_icmp, xE_goto, xE_getfield, xE_putfield, xE_getstatic, xE_baload, xE_caload, xE_iaload, xE_aaload, xE_iastore, xE_bastore, xE_castore, xE_aastore, xE_arraylength, xE_new, xE_newarray_int, xE_newarray_boolean, xE_newarray_char, xE_anewarray, xE_checkcast, xE_invokevirtual, xE_invokestatic, xE_invokespecial, xE_ireturn, xE_return_, xE_tableswitch, eCl, eKd, wCnd, pf0, wArgs, lg_n, lg_0, lg_s, wNl_n, wNl_i, wNl_r, wCat_n, wCat_i, wCat_r, wCat_l, cInt, cRef, cLong, fv0, fv1, fv2, fv3, fw0, fw1, oi_m1, oi_0, oi_1, oi_2, oi_3, oi_4, oi_5, wRf, wLn_n, wLn_c, List.length_cons, List.length_nil, List.replicate, List.set_cons_zero, List.set_cons_succ, List.cons_append, List.nil_append, List.mem_cons, List.not_mem_nil, if_true, if_false, ↓reduceIte, true_and, and_true, or_true, true_or, or_false, false_or, Option.toList, Nat.reduceAdd, Nat.reduceSub, Nat.reduceLT, Nat.reduceLeDiff, Nat.reduceEqDiff, Nat.le_refl, eq_self, Nat.zero_le, Int.cast_ofNat_Int, Int.reduceSub, Int.reduceAdd, Int.reduceLE, Int.reduceToNat, Int.reduceNeg, Int32.reduceAdd, Int32.reduceSub, Int32.reduceMul, Int32.reduceLT, i_leF, Bool.false_eq_true, Bool.true_eq_false, b2i_T, b2i_F, b2i_0, b2i_01, i_a0, not_false_eq_true, oi_6, oi_7, oi_8, oi_9, oi_10, oi_11, oi_12, oi_13, oi_14, oi_15, oi_16, oi_17, oi_18, oi_19, oi_20, oi_21, dX8_takes_0, dX8_takes_1, fo_8_91, dX8_takes_4, dX8_takes_5, fo_8_94, dX8_takes_8, dX8_takes_11, dX8_takes_12, fo_8_23, dX8_takes_15, dX8_takes_16, dX8_takes_19, dX8_takes_20, dX8_takes_23, dX8_takes_24, dX8_takes_25, dX8_takes_26, dX8_takes_27, fo_8_87, dX8_takes_30, dX8_takes_33, dX8_takes_34, dX8_takes_35, dX8_takes_36, co_8_33, dX8_takes_39, dX8_takes_42, dX8_takes_43, dX8_takes_46, dX8_takes_47, dX8_takes_50, dX8_takes_51, dX8_takes_52, dX8_takes_55, dX8_takes_56, dX8_takes_59, dX8_takes_62, dX8_takes_63, dX8_takes_66, dX8_takes_67, dX8_takes_68, dX8_takes_71, dX8_takes_72, dX8_takes_73, dX8_takes_74, pfA, pf1, pf_leading, s_leading, pf_weightOf, s_weightOf, pf_mleadOf, s_mleadOf, pf_find, s_find, pf_answersTo, s_answersTo, pf_entryOf, s_entryOf, pf_isWord, s_isWord, pf_isKind, s_isKind, pf_due, s_due, pf_isAgreed, s_isAgreed, pf_becomes, s_becomes, pf_lacks, s_lacks, pf_placeOf, s_placeOf, pf_placeOfSolver, s_placeOfSolver, pf_mallTrust, s_mallTrust, pf_wordsOf, s_wordsOf, pf_lettersOf, s_lettersOf, pf_letterOf, s_letterOf, pf_min, s_min, pf_xin, s_xin, pf_mis, s_mis, pf_xis, s_xis, pf_record, s_record, pf_lays, s_lays, pf_least, s_least, pf_most, s_most, pf_adds, s_adds, pf_votes, s_votes, pf_forgets, s_forgets, l1, l2, l3, l4, l5, l6, l7, l8, l9, l10, l11, l12, l13, h7, h8, h6, cp, hlt, hp, hb, iDup_r, iDup_i, iDup2_ir, wSetI_F, wF_I, wF_S, wF_P, wF_Z, wF_F, up1_e, nI_1, i_a0, at_00, of_00, os_00, atx_1, aty_1, aty_2, aty_3, ofx_1, ofy_1, ofy_2, ofy_3, ofy_4, ofy_5, osx_1, osy_1, osy_2, osy_3, vi_0, vc_0, vi_1, vc_1, vi_2, vc_2, vi_3, vc_3, vi_4, vc_4, vi_5, vc_5, vi_6, vc_6, vi_7, vc_7, vi_8, vc_8, vi_9, vc_9, vi_10, vc_10, vi_11, vc_11])
    all_goals simp [tk, tkC, hp, hb, setP, b2i_T, b2i_F, nI_1]
def s_takes : List Value → wMem → Option (Prop × Option Value × wMem) := fun As M => match As with | [.ref m, .int lo, .int hi] => if m = 252 then some (TG M, some (.int (tkC (wI M 257) (lenM M) (stOf M) - lo)), setP M (tk (wI M 257) (lenM M) (stOf M) lo hi)) else none | _ => none
def pf_takes : wPft := pfA 110 s_takes pf_forgets
theorem pf_takes_ok (G : wG) : wPfOk G pf_takes := by
  refine pfA_ok (fun As M g o M2 h hg => ?_) (pf_forgets_ok G)
  unfold s_takes at h
  split at h
  · split at h
    · next hc => obtain hc := hc; subst hc; cases h; exact ct_takes G M _ _ hg
    · cases h
  · cases h

set_option maxRecDepth 100000 in
set_option maxHeartbeats 4000000 in
theorem ct_isNext (G : wG) (M : wMem) (lo hi : Int32) (h : TG M) : CT G 109 0 0 [.ref 252, .int lo, .int hi] M (fun o M' => o = some (.int (b2i (nx (wI M 257) (lenM M) (stOf M) lo hi = true))) ∧ M' = M) := by
  obtain ⟨hL, h7, h7b, h8, h6, h6b⟩ := h
  obtain ⟨l1, l2, l3, l4, l5, l6, l7, l8, l9, l10, l11, l12, l13⟩ := hL
  generalize hs : stOf M = s at *
  obtain ⟨p, w⟩ := s
  simp only at h7 h7b h8
  generalize hl : lenM M = L at *
  refine CT.intro wm_109 mo_109 (by decide +kernel) false (by simp) (Nat.le_of_ble_eq_true rfl) ?_
  have cp := nI_clamp (show p < 2 ^ 31 by omega)
  have hlt := nI_ltF (a := p) (b := L) (by omega) (by omega)
  by_cases hp : p < L
  · have vp : vp_in (nI p) 60 := vp_in_nI (by omega) (by decide)
    cases hb : inB (wI M 257 p) lo hi <;> cases w
    all_goals simp only [Bool.false_eq_true, eq_self, b2i_T, b2i_F] at h8
    all_goals refine wGoC (pf_takes_ok G) 80 [] [] (fun C c0 c1 c2 c3 c4 c5 c6 c7 c8 c9 c10 c11 c12 => ?_)
    all_goals (simp (config := {maxSteps := 10000000}) only [i1_0, nn_t, nn_f, im_t, im_f, nn_n, xR_s, xR_z, c0, c1, c2, c3, c4, c5, c6, c7, c8, c9, c10, c11, c12, iPuI_e, iPuR_e, iPuL_e, iStoI_e, iStoR_e, iInc_e, iAdd_e, iSub_e, iMul_e, iAnd_e, iOr_e, iShl_e, iUshr_e, iDiv_e, iRem_e, iLushr_e, iLshl_e, iLand_e, iLor_e, iLcmp_e, iI2l_e, iL2i_e, iI2c_e, iDup_e, iDup2_e, iIf_e, iIfc_e, iSwA, iSw_e, iGetf_r, iGetf_i, iGetf_z, iPutf_i, iPutf_z, iPutf_rt, iPutf_rf, iGets_e, iLdc_e, iAl_e, iAl2_e, iAlr_e, iAq_e, iAq2_e, iAsI_e, iAsZ_e, iAsC_e, iAs2_e, iAt_e, iAt2_e, iLen_e, iNew_e, iNwa_e, iNwq_e, iPop, iCl2_s, iCl2_n, iIv2_e, iIv_e, iIv_c, iIs2_e, iIs_e, iIs_n, iIs_max, iIs_min, iIs_cop, iCp2_e, iIp2_e, iIp_o, iIp_2, iIp_3, iRet_i, iRet_z, iRtv_e, xE_iconst, xE_bipush, xE_sipush, xE_lconst, xE_ldc2_w, xE_iload_n, xE_iload, xE_lload_n, xE_aload_n, xE_aload, xE_istore_n, xE_istore, xE_astore_n, xE_astore, xE_iinc, xE_iadd, xE_isub, xE_imul, xE_idiv, xE_irem, xE_iand, xE_ior, xE_ishl, xE_iushr, xE_lushr, xE_lshl, xE_land, xE_lor, xE_lcmp, xE_i2l, xE_l2i, xE_i2c, xE_dup, xE_dup2, xE_ifCond, xE_if_icmp, xE_goto, xE_getfield, xE_putfield, xE_getstatic, xE_baload, xE_caload, xE_iaload, xE_aaload, xE_iastore, xE_bastore, xE_castore, xE_aastore, xE_arraylength, xE_new, xE_newarray_int, xE_newarray_boolean, xE_newarray_char, xE_anewarray, xE_checkcast, xE_invokevirtual, xE_invokestatic, xE_invokespecial, xE_ireturn, xE_return_, xE_tableswitch, eCl, eKd, wCnd, pf0, wArgs, lg_n, lg_0, lg_s, wNl_n, wNl_i, wNl_r, wCat_n, wCat_i, wCat_r, wCat_l, cInt, cRef, cLong, fv0, fv1, fv2, fv3, fw0, fw1, oi_m1, oi_0, oi_1, oi_2, oi_3, oi_4, oi_5, wRf, wLn_n, wLn_c, List.length_cons, List.length_nil, List.replicate, List.set_cons_zero, List.set_cons_succ, List.cons_append, List.nil_append, List.mem_cons, List.not_mem_nil, if_true, if_false, ↓reduceIte, true_and, and_true, or_true, true_or, or_false, false_or, Option.toList, Nat.reduceAdd, Nat.reduceSub, Nat.reduceLT, Nat.reduceLeDiff, Nat.reduceEqDiff, Nat.le_refl, eq_self, Nat.zero_le, Int.cast_ofNat_Int, Int.reduceSub, Int.reduceAdd, Int.reduceLE, Int.reduceToNat, Int.reduceNeg, Int32.reduceAdd, Int32.reduceSub, Int32.reduceMul, Int32.reduceLT, i_leF, Bool.false_eq_true, Bool.true_eq_false, b2i_T, b2i_F, b2i_0, b2i_01, i_a0, not_false_eq_true, oi_6, oi_7, oi_8, oi_9, oi_10, oi_11, oi_12, oi_13, oi_14, oi_15, oi_16, oi_17, oi_18, oi_19, oi_20, oi_21, dX8_isNext_0, dX8_isNext_1, fo_8_87, dX8_isNext_4, dX8_isNext_7, dX8_isNext_8, fo_8_91, dX8_isNext_11, dX8_isNext_12, fo_8_94, dX8_isNext_15, dX8_isNext_18, dX8_isNext_19, fo_8_23, dX8_isNext_22, dX8_isNext_23, dX8_isNext_26, dX8_isNext_27, dX8_isNext_28, dX8_isNext_29, co_8_33, dX8_isNext_32, dX8_isNext_35, dX8_isNext_36, dX8_isNext_39, dX8_isNext_40, pfA, pf1, pf_leading, s_leading, pf_weightOf, s_weightOf, pf_mleadOf, s_mleadOf, pf_find, s_find, pf_answersTo, s_answersTo, pf_entryOf, s_entryOf, pf_isWord, s_isWord, pf_isKind, s_isKind, pf_due, s_due, pf_isAgreed, s_isAgreed, pf_becomes, s_becomes, pf_lacks, s_lacks, pf_placeOf, s_placeOf, pf_placeOfSolver, s_placeOfSolver, pf_mallTrust, s_mallTrust, pf_wordsOf, s_wordsOf, pf_lettersOf, s_lettersOf, pf_letterOf, s_letterOf, pf_min, s_min, pf_xin, s_xin, pf_mis, s_mis, pf_xis, s_xis, pf_record, s_record, pf_lays, s_lays, pf_least, s_least, pf_most, s_most, pf_adds, s_adds, pf_votes, s_votes, pf_forgets, s_forgets, pf_takes, s_takes, l1, l2, l3, l4, l5, l6, l7, l8, l9, l10, l11, l12, l13, h7, h8, h6, cp, hlt, hp, vp, hb, iDup_r, iDup_i, iDup2_ir, wSetI_F, wF_I, wF_S, wF_P, wF_Z, wF_F, nI_1, i_a0, at_00, of_00, os_00, atx_1, aty_1, aty_2, aty_3, ofx_1, ofy_1, ofy_2, ofy_3, ofy_4, ofy_5, osx_1, osy_1, osy_2, osy_3, vi_0, vc_0, vi_1, vc_1, vi_2, vc_2, vi_3, vc_3, vi_4, vc_4, vi_5, vc_5, vi_6, vc_6, vi_7, vc_7, vi_8, vc_8, vi_9, vc_9, vi_10, vc_10, vi_11, vc_11])
    all_goals simp [nx, hp, hb, b2i_T, b2i_F]
  · cases w
    all_goals simp only [Bool.false_eq_true, eq_self, b2i_T, b2i_F] at h8
    all_goals refine wGoC (pf_takes_ok G) 80 [] [] (fun C c0 c1 c2 c3 c4 c5 c6 c7 c8 c9 c10 c11 c12 => ?_)
    all_goals (simp (config := {maxSteps := 10000000}) only [i1_0, nn_t, nn_f, im_t, im_f, nn_n, xR_s, xR_z, c0, c1, c2, c3, c4, c5, c6, c7, c8, c9, c10, c11, c12, iPuI_e, iPuR_e, iPuL_e, iStoI_e, iStoR_e, iInc_e, iAdd_e, iSub_e, iMul_e, iAnd_e, iOr_e, iShl_e, iUshr_e, iDiv_e, iRem_e, iLushr_e, iLshl_e, iLand_e, iLor_e, iLcmp_e, iI2l_e, iL2i_e, iI2c_e, iDup_e, iDup2_e, iIf_e, iIfc_e, iSwA, iSw_e, iGetf_r, iGetf_i, iGetf_z, iPutf_i, iPutf_z, iPutf_rt, iPutf_rf, iGets_e, iLdc_e, iAl_e, iAl2_e, iAlr_e, iAq_e, iAq2_e, iAsI_e, iAsZ_e, iAsC_e, iAs2_e, iAt_e, iAt2_e, iLen_e, iNew_e, iNwa_e, iNwq_e, iPop, iCl2_s, iCl2_n, iIv2_e, iIv_e, iIv_c, iIs2_e, iIs_e, iIs_n, iIs_max, iIs_min, iIs_cop, iCp2_e, iIp2_e, iIp_o, iIp_2, iIp_3, iRet_i, iRet_z, iRtv_e, xE_iconst, xE_bipush, xE_sipush, xE_lconst, xE_ldc2_w, xE_iload_n, xE_iload, xE_lload_n, xE_aload_n, xE_aload, xE_istore_n, xE_istore, xE_astore_n, xE_astore, xE_iinc, xE_iadd, xE_isub, xE_imul, xE_idiv, xE_irem, xE_iand, xE_ior, xE_ishl, xE_iushr, xE_lushr, xE_lshl, xE_land, xE_lor, xE_lcmp, xE_i2l, xE_l2i, xE_i2c, xE_dup, xE_dup2, xE_ifCond, xE_if_icmp, xE_goto, xE_getfield, xE_putfield, xE_getstatic, xE_baload, xE_caload, xE_iaload, xE_aaload, xE_iastore, xE_bastore, xE_castore, xE_aastore, xE_arraylength, xE_new, xE_newarray_int, xE_newarray_boolean, xE_newarray_char, xE_anewarray, xE_checkcast, xE_invokevirtual, xE_invokestatic, xE_invokespecial, xE_ireturn, xE_return_, xE_tableswitch, eCl, eKd, wCnd, pf0, wArgs, lg_n, lg_0, lg_s, wNl_n, wNl_i, wNl_r, wCat_n, wCat_i, wCat_r, wCat_l, cInt, cRef, cLong, fv0, fv1, fv2, fv3, fw0, fw1, oi_m1, oi_0, oi_1, oi_2, oi_3, oi_4, oi_5, wRf, wLn_n, wLn_c, List.length_cons, List.length_nil, List.replicate, List.set_cons_zero, List.set_cons_succ, List.cons_append, List.nil_append, List.mem_cons, List.not_mem_nil, if_true, if_false, ↓reduceIte, true_and, and_true, or_true, true_or, or_false, false_or, Option.toList, Nat.reduceAdd, Nat.reduceSub, Nat.reduceLT, Nat.reduceLeDiff, Nat.reduceEqDiff, Nat.le_refl, eq_self, Nat.zero_le, Int.cast_ofNat_Int, Int.reduceSub, Int.reduceAdd, Int.reduceLE, Int.reduceToNat, Int.reduceNeg, Int32.reduceAdd, Int32.reduceSub, Int32.reduceMul, Int32.reduceLT, i_leF, Bool.false_eq_true, Bool.true_eq_false, b2i_T, b2i_F, b2i_0, b2i_01, i_a0, not_false_eq_true, oi_6, oi_7, oi_8, oi_9, oi_10, oi_11, oi_12, oi_13, oi_14, oi_15, oi_16, oi_17, oi_18, oi_19, oi_20, oi_21, dX8_isNext_0, dX8_isNext_1, fo_8_87, dX8_isNext_4, dX8_isNext_7, dX8_isNext_8, fo_8_91, dX8_isNext_11, dX8_isNext_12, fo_8_94, dX8_isNext_15, dX8_isNext_18, dX8_isNext_19, fo_8_23, dX8_isNext_22, dX8_isNext_23, dX8_isNext_26, dX8_isNext_27, dX8_isNext_28, dX8_isNext_29, co_8_33, dX8_isNext_32, dX8_isNext_35, dX8_isNext_36, dX8_isNext_39, dX8_isNext_40, pfA, pf1, pf_leading, s_leading, pf_weightOf, s_weightOf, pf_mleadOf, s_mleadOf, pf_find, s_find, pf_answersTo, s_answersTo, pf_entryOf, s_entryOf, pf_isWord, s_isWord, pf_isKind, s_isKind, pf_due, s_due, pf_isAgreed, s_isAgreed, pf_becomes, s_becomes, pf_lacks, s_lacks, pf_placeOf, s_placeOf, pf_placeOfSolver, s_placeOfSolver, pf_mallTrust, s_mallTrust, pf_wordsOf, s_wordsOf, pf_lettersOf, s_lettersOf, pf_letterOf, s_letterOf, pf_min, s_min, pf_xin, s_xin, pf_mis, s_mis, pf_xis, s_xis, pf_record, s_record, pf_lays, s_lays, pf_least, s_least, pf_most, s_most, pf_adds, s_adds, pf_votes, s_votes, pf_forgets, s_forgets, pf_takes, s_takes, l1, l2, l3, l4, l5, l6, l7, l8, l9, l10, l11, l12, l13, h7, h8, h6, cp, hlt, hp, iDup_r, iDup_i, iDup2_ir, wSetI_F, wF_I, wF_S, wF_P, wF_Z, wF_F, nI_1, i_a0, at_00, of_00, os_00, atx_1, aty_1, aty_2, aty_3, ofx_1, ofy_1, ofy_2, ofy_3, ofy_4, ofy_5, osx_1, osy_1, osy_2, osy_3, vi_0, vc_0, vi_1, vc_1, vi_2, vc_2, vi_3, vc_3, vi_4, vc_4, vi_5, vc_5, vi_6, vc_6, vi_7, vc_7, vi_8, vc_8, vi_9, vc_9, vi_10, vc_10, vi_11, vc_11])
    all_goals simp [nx, hp, b2i_T, b2i_F]
def s_isNext : List Value → wMem → Option (Prop × Option Value × wMem) := fun As M => match As with | [.ref m, .int lo, .int hi] => if m = 252 then some (TG M, some (.int (b2i (nx (wI M 257) (lenM M) (stOf M) lo hi = true))), M) else none | _ => none
def pf_isNext : wPft := pfA 109 s_isNext pf_takes
theorem pf_isNext_ok (G : wG) : wPfOk G pf_isNext := by
  refine pfA_ok (fun As M g o M2 h hg => ?_) (pf_takes_ok G)
  unfold s_isNext at h
  split at h
  · split at h
    · next hc => obtain hc := hc; subst hc; cases h; exact ct_isNext G M _ _ hg
    · cases h
  · cases h

/-! memories along a reading -/
theorem tk_le {f : Nat → Int32} {L : Nat} {s : pS} {lo hi : Int32} (hL : L ≤ 60) (hlo : 0 < lo) (h : s.1 ≤ 60) : (tk f L s lo hi).1 ≤ 60 := by
  unfold tk
  split
  · next hc =>
    by_cases hs : s.1 < L
    · simp only; omega
    · have := hc.2
      simp only [tkC, if_neg hs] at this
      have := (of_decide_eq_true this).1
      exact absurd hlo (i_nlt.mpr this)
  · exact h
theorem stOf_set {M : wMem} {s : pS} (h : s.1 ≤ 60) : stOf (setP M s) = s := by
  obtain ⟨p, w⟩ := s
  simp only at h
  unfold stOf setP
  rw [wF_I, if_pos rfl, up1_eq, up1_ne _ _ _ (by decide), up1_eq, nI_clamp (by omega)]
  cases w <;> simp [b2i]
theorem lenM_set {M : wMem} {s : pS} : lenM (setP M s) = lenM M := by
  unfold lenM setP
  rw [wF_I, if_pos rfl, up1_ne _ _ _ (by decide), up1_ne _ _ _ (by decide)]
theorem pad_set {M : wMem} {s : pS} : wI (setP M s) 257 = wI M 257 := by unfold setP; rw [wF_I, if_neg (by decide)]
theorem set_set {M : wMem} {s s' : pS} : setP (setP M s) s' = setP M s' := by
  unfold setP
  rw [wF_I, if_pos rfl, wF_F]
  congr 1
  funext j
  simp only [up1]
  repeat' split
  all_goals first | rfl | omega
theorem TG_set {M : wMem} {s : pS} (h : TG M) (hs : s.1 ≤ 60) : TG (setP M s) := by
  refine ⟨h.1, ?_, ?_, ?_, ?_, ?_⟩
  · rw [stOf_set hs]; simp [setP, wF_I, up1]
  · rw [stOf_set hs]; exact hs
  · rw [stOf_set hs]; simp [setP, wF_I, up1]
  · rw [lenM_set]; simpa [setP, wF_I, up1] using h.2.2.2.2.1
  · rw [lenM_set]; exact h.2.2.2.2.2
