/-! ===== the reference: the calls that change nothing ===== -/
def MC (v : Nat → Int32) : Prop := (∀ k, k < nW v → isC 27 (v (38 + 6 * k))) ∧ (∀ k, k < sN v → isC 27 (eH v k))
theorem isW_k {v : Nat → Int32} {w : Int32} (h6 : v 6 = nI (nW v)) (h7 : nW v ≤ 12) (h : isW v w = true) : ∃ k, k < nW v ∧ w = nI k := by
  have h := of_decide_eq_true h
  obtain ⟨k, hk, rfl⟩ := nI_of (x := w) (i_nlt.mpr h.1)
  refine ⟨k, ?_, rfl⟩
  have h2 := h.2
  rw [h6] at h2
  by_cases hz : nW v = 0
  · rw [hz] at h2
    exact absurd (Int32.lt_of_le_of_lt h2 (show nI 0 - 1 < 0 by decide)) (nI_pos hk)
  · rw [nI_pr (by omega)] at h2
    have := (nI_leI hk (by omega)).mp h2
    omega
theorem isW_nI {v : Nat → Int32} {k : Nat} (h6 : v 6 = nI (nW v)) (h7 : nW v ≤ 12) (h : k < nW v) : isW v (nI k) = true := by
  refine decide_eq_true ⟨nI_pos' (by omega), ?_⟩
  rw [h6, nI_pr (by omega)]
  exact nI_le (by omega) (by omega)
theorem oi_6 : Int32.ofInt 6 = 6 := rfl
theorem oi_7 : Int32.ofInt 7 = 7 := rfl
theorem oi_8 : Int32.ofInt 8 = 8 := rfl
theorem oi_9 : Int32.ofInt 9 = 9 := rfl
theorem oi_10 : Int32.ofInt 10 = 10 := rfl
theorem oi_11 : Int32.ofInt 11 = 11 := rfl
theorem oi_12 : Int32.ofInt 12 = 12 := rfl
theorem oi_13 : Int32.ofInt 13 = 13 := rfl
theorem oi_14 : Int32.ofInt 14 = 14 := rfl
theorem oi_15 : Int32.ofInt 15 = 15 := rfl
theorem oi_16 : Int32.ofInt 16 = 16 := rfl
theorem oi_17 : Int32.ofInt 17 = 17 := rfl
theorem oi_18 : Int32.ofInt 18 = 18 := rfl
theorem oi_19 : Int32.ofInt 19 = 19 := rfl
theorem oi_20 : Int32.ofInt 20 = 20 := rfl
theorem oi_21 : Int32.ofInt 21 = 21 := rfl
theorem neL {x : Int32} {c : Int} (h : x.toInt < 0 ∨ c < x.toInt) (d : Int32) (hd : 0 ≤ d.toInt ∧ d.toInt ≤ c) : (x = d) = False := eq_false (fun e => by subst e; omega)
def qWord (v : Nat → Int32) (w x : Int32) : Int32 :=
  if isW v w = true then
    if x = 0 then v (36 + 6 * w.toNatClampNeg)
    else if x = 1 then v (37 + 6 * w.toNatClampNeg)
    else if x = 2 then v (40 + 6 * w.toNatClampNeg)
    else if x = 3 then nI (cntP (fun k => decide (eO v k = w)) (sN v))
    else if x = 4 then mWt v w
    else if x = 5 then mLo v w
    else if x = 6 then meanI (v (41 + 6 * w.toNatClampNeg)) (v (40 + 6 * w.toNatClampNeg))
    else if x = 7 then v (39 + 6 * w.toNatClampNeg)
    else if x = 8 then (if v (38 + 6 * w.toNatClampNeg) = 0 then -6 else lMany (dlc 27 (v (38 + 6 * w.toNatClampNeg))))
    else if x < 0 then -2 else lAt (dlc 27 (v (38 + 6 * w.toNatClampNeg))) (x - 9).toNatClampNeg
  else -1
theorem sw_rng {x : Int32} {c : Int} (n : Nat) (hn : n < 2 ^ 31) (hc : c = n) : (x.toInt < 0 ∨ c < x.toInt) → x < 0 ∨ ∃ k, k < 2 ^ 31 ∧ n < k ∧ x = nI k := by
  intro h
  by_cases h0 : x < 0
  · exact Or.inl h0
  · obtain ⟨k, hk, rfl⟩ := nI_of h0
    rw [nI_toInt hk] at h
    exact Or.inr ⟨k, hk, by omega, rfl⟩
theorem nI_subF {a b : Nat} (h : b ≤ a) : nI a - nI b = nI (a - b) := pk_sub h
set_option maxRecDepth 100000 in
set_option maxHeartbeats 4000000 in
theorem ct_mword (G : wG) (M : wMem) (w x : Int32) (h : MH M) (hc : MC (wI M 253)) : CT G 123 0 0 [.ref 252, .int w, .int x] M (fun o M' => o = some (.int (qWord (wI M 253) w x)) ∧ M' = M) := by
  have hG := h.1
  have hL := h.1.1
  obtain ⟨⟨⟨l1, l2, l3, l4, l5, l6, l7, l8, l9, l10, l11, l12, l13⟩, hn, hn2⟩, h6, h7⟩ := h
  refine CT.intro wm_123 mo_123 (by decide +kernel) false (by simp) (Nat.le_of_ble_eq_true rfl) ?_
  cases hw : isW (wI M 253) w with
  | false =>
    refine wGoC (pf_letterOf_ok G) 80 [] [] (fun C c0 c1 c2 c3 c4 c5 c6 c7 c8 c9 c10 c11 c12 => ?_)
    simp (config := {maxSteps := 10000000}) only [i1_0, nn_t, nn_f, im_t, im_f, nn_n, xR_s, xR_z, c0, c1, c2, c3, c4, c5, c6, c7, c8, c9, c10, c11, c12, iPuI_e, iPuR_e, iPuL_e, iStoI_e, iStoR_e, iInc_e, iAdd_e, iSub_e, iMul_e, iAnd_e, iOr_e, iShl_e, iUshr_e, iDiv_e, iRem_e, iLushr_e, iLshl_e, iLand_e, iLor_e, iLcmp_e, iI2l_e, iL2i_e, iI2c_e, iDup_e, iDup2_e, iIf_e, iIfc_e, iSwA, iSw_e, iGetf_r, iGetf_i, iGetf_z, iPutf_i, iPutf_z, iPutf_rt, iPutf_rf, iGets_e, iLdc_e, iAl_e, iAl2_e, iAlr_e, iAq_e, iAq2_e, iAsI_e, iAsZ_e, iAsC_e, iAs2_e, iAt_e, iAt2_e, iLen_e, iNew_e, iNwa_e, iNwq_e, iPop, iCl2_s, iCl2_n, iIv2_e, iIv_e, iIv_c, iIs2_e, iIs_e, iIs_n, iIs_max, iIs_min, iIs_cop, iCp2_e, iIp2_e, iIp_o, iIp_2, iIp_3, iRet_i, iRet_z, iRtv_e, xE_iconst, xE_bipush, xE_sipush, xE_lconst, xE_ldc2_w, xE_iload_n, xE_iload, xE_lload_n, xE_aload_n, xE_aload, xE_istore_n, xE_istore, xE_astore_n, xE_astore, xE_iinc, xE_iadd, xE_isub, xE_imul, xE_idiv, xE_irem, xE_iand, xE_ior, xE_ishl, xE_iushr, xE_lushr, xE_lshl, xE_land, xE_lor, xE_lcmp, xE_i2l, xE_l2i, xE_i2c, xE_dup, xE_dup2, xE_ifCond, xE_if_icmp, xE_goto, xE_getfield, xE_putfield, xE_getstatic, xE_baload, xE_caload, xE_iaload, xE_aaload, xE_iastore, xE_bastore, xE_castore, xE_aastore, xE_arraylength, xE_new, xE_newarray_int, xE_newarray_boolean, xE_newarray_char, xE_anewarray, xE_checkcast, xE_invokevirtual, xE_invokestatic, xE_invokespecial, xE_ireturn, xE_return_, xE_tableswitch, eCl, eKd, wCnd, pf0, wArgs, lg_n, lg_0, lg_s, wNl_n, wNl_i, wNl_r, wCat_n, wCat_i, wCat_r, wCat_l, cInt, cRef, cLong, fv0, fv1, fv2, fv3, fw0, fw1, oi_m1, oi_0, oi_1, oi_2, oi_3, oi_4, oi_5, wRf, wLn_n, wLn_c, List.length_cons, List.length_nil, List.replicate, List.set_cons_zero, List.set_cons_succ, List.cons_append, List.nil_append, List.mem_cons, List.not_mem_nil, if_true, if_false, ↓reduceIte, true_and, and_true, or_true, true_or, or_false, false_or, Option.toList, Nat.reduceAdd, Nat.reduceSub, Nat.reduceLT, Nat.reduceLeDiff, Nat.reduceEqDiff, Nat.le_refl, eq_self, Nat.zero_le, Int.cast_ofNat_Int, Int.reduceSub, Int.reduceAdd, Int.reduceLE, Int.reduceToNat, Int.reduceNeg, i_leF, Bool.false_eq_true, Bool.true_eq_false, b2i_T, b2i_F, b2i_0, b2i_01, i_a0, not_false_eq_true, oi_6, oi_7, oi_8, oi_9, oi_10, oi_11, oi_12, oi_13, oi_14, oi_15, oi_16, oi_17, oi_18, oi_19, oi_20, oi_21, dX8_word_0, dX8_word_1, dX8_word_2, co_8_125, dX8_word_5, dX8_word_8, dX8_word_9, dX8_word_10, dX8_word_11, dX8_word_60, dX8_word_61, fo_8_7, dX8_word_64, dX8_word_65, dX8_word_66, co_8_37, dX8_word_69, dX8_word_70, dX8_word_71, dX8_word_72, dX8_word_75, dX8_word_76, dX8_word_77, dX8_word_80, dX8_word_81, dX8_word_82, dX8_word_83, dX8_word_84, co_8_142, dX8_word_87, dX8_word_88, dX8_word_89, dX8_word_90, co_8_54, dX8_word_93, dX8_word_94, dX8_word_95, dX8_word_96, co_8_66, dX8_word_99, dX8_word_100, dX8_word_101, dX8_word_102, dX8_word_105, dX8_word_106, dX8_word_107, dX8_word_110, dX8_word_111, dX8_word_112, dX8_word_115, dX8_word_116, dX8_word_117, dX8_word_120, dX8_word_121, co_8_60, dX8_word_124, dX8_word_125, dX8_word_126, dX8_word_129, dX8_word_130, dX8_word_131, dX8_word_134, dX8_word_135, dX8_word_136, dX8_word_137, dX8_word_140, dX8_word_141, dX8_word_142, dX8_word_145, dX8_word_146, dX8_word_149, bp_m6, dX8_word_151, dX8_word_154, dX8_word_155, dX8_word_158, dX8_word_159, dX8_word_160, dX8_word_163, dX8_word_164, co_8_44, dX8_word_167, dX8_word_168, dX8_word_169, dX8_word_172, bp_m2, dX8_word_174, dX8_word_177, dX8_word_178, dX8_word_181, dX8_word_182, dX8_word_183, dX8_word_186, dX8_word_187, dX8_word_188, bp_9, dX8_word_190, dX8_word_191, co_8_145, dX8_word_194, pfA, pf1, pf_leading, s_leading, pf_weightOf, s_weightOf, pf_mleadOf, s_mleadOf, pf_find, s_find, pf_answersTo, s_answersTo, pf_entryOf, s_entryOf, pf_isWord, s_isWord, pf_isKind, s_isKind, pf_due, s_due, pf_isAgreed, s_isAgreed, pf_becomes, s_becomes, pf_lacks, s_lacks, pf_placeOf, s_placeOf, pf_placeOfSolver, s_placeOfSolver, pf_mallTrust, s_mallTrust, pf_wordsOf, s_wordsOf, pf_lettersOf, s_lettersOf, pf_letterOf, s_letterOf, hL, hG, hw, b2i_T, b2i_F, l1, l2, l3, l4, l5, l6, l7, l8, l9, l10, l11, l12, l13, nI_1, i_a0, at_00, of_00, os_00, atx_1, aty_1, aty_2, aty_3, ofx_1, ofy_1, ofy_2, ofy_3, ofy_4, ofy_5, osx_1, osy_1, osy_2, osy_3, vi_0, vc_0, vi_1, vc_1, vi_2, vc_2, vi_3, vc_3, vi_4, vc_4, vi_5, vc_5, vi_6, vc_6, vi_7, vc_7, vi_8, vc_8, vi_9, vc_9, vi_10, vc_10, vi_11, vc_11]
    simp [qWord, hw]
  | true =>
    obtain ⟨k, hk, rfl⟩ := isW_k h6 h7 hw
    have hC : isC 27 (wI M 253 (38 + 6 * k)) := hc.1 k hk
    refine wGoC (pf_letterOf_ok G) 80 [] [] (fun C c0 c1 c2 c3 c4 c5 c6 c7 c8 c9 c10 c11 c12 => ?_)
    simp (config := {maxSteps := 10000000}) only [i1_0, nn_t, nn_f, im_t, im_f, nn_n, xR_s, xR_z, c0, c1, c2, c3, c4, c5, c6, c7, c8, c9, c10, c11, c12, iPuI_e, iPuR_e, iPuL_e, iStoI_e, iStoR_e, iInc_e, iAdd_e, iSub_e, iMul_e, iAnd_e, iOr_e, iShl_e, iUshr_e, iDiv_e, iRem_e, iLushr_e, iLshl_e, iLand_e, iLor_e, iLcmp_e, iI2l_e, iL2i_e, iI2c_e, iDup_e, iDup2_e, iIf_e, iIfc_e, iSwA, iSw_e, iGetf_r, iGetf_i, iGetf_z, iPutf_i, iPutf_z, iPutf_rt, iPutf_rf, iGets_e, iLdc_e, iAl_e, iAl2_e, iAlr_e, iAq_e, iAq2_e, iAsI_e, iAsZ_e, iAsC_e, iAs2_e, iAt_e, iAt2_e, iLen_e, iNew_e, iNwa_e, iNwq_e, iPop, iCl2_s, iCl2_n, iIv2_e, iIv_e, iIv_c, iIs2_e, iIs_e, iIs_n, iIs_max, iIs_min, iIs_cop, iCp2_e, iIp2_e, iIp_o, iIp_2, iIp_3, iRet_i, iRet_z, iRtv_e, xE_iconst, xE_bipush, xE_sipush, xE_lconst, xE_ldc2_w, xE_iload_n, xE_iload, xE_lload_n, xE_aload_n, xE_aload, xE_istore_n, xE_istore, xE_astore_n, xE_astore, xE_iinc, xE_iadd, xE_isub, xE_imul, xE_idiv, xE_irem, xE_iand, xE_ior, xE_ishl, xE_iushr, xE_lushr, xE_lshl, xE_land, xE_lor, xE_lcmp, xE_i2l, xE_l2i, xE_i2c, xE_dup, xE_dup2, xE_ifCond, xE_if_icmp, xE_goto, xE_getfield, xE_putfield, xE_getstatic, xE_baload, xE_caload, xE_iaload, xE_aaload, xE_iastore, xE_bastore, xE_castore, xE_aastore, xE_arraylength, xE_new, xE_newarray_int, xE_newarray_boolean, xE_newarray_char, xE_anewarray, xE_checkcast, xE_invokevirtual, xE_invokestatic, xE_invokespecial, xE_ireturn, xE_return_, xE_tableswitch, eCl, eKd, wCnd, pf0, wArgs, lg_n, lg_0, lg_s, wNl_n, wNl_i, wNl_r, wCat_n, wCat_i, wCat_r, wCat_l, cInt, cRef, cLong, fv0, fv1, fv2, fv3, fw0, fw1, oi_m1, oi_0, oi_1, oi_2, oi_3, oi_4, oi_5, wRf, wLn_n, wLn_c, List.length_cons, List.length_nil, List.replicate, List.set_cons_zero, List.set_cons_succ, List.cons_append, List.nil_append, List.mem_cons, List.not_mem_nil, if_true, if_false, ↓reduceIte, true_and, and_true, or_true, true_or, or_false, false_or, Option.toList, Nat.reduceAdd, Nat.reduceSub, Nat.reduceLT, Nat.reduceLeDiff, Nat.reduceEqDiff, Nat.le_refl, eq_self, Nat.zero_le, Int.cast_ofNat_Int, Int.reduceSub, Int.reduceAdd, Int.reduceLE, Int.reduceToNat, Int.reduceNeg, i_leF, Bool.false_eq_true, Bool.true_eq_false, b2i_T, b2i_F, b2i_0, b2i_01, i_a0, not_false_eq_true, oi_6, oi_7, oi_8, oi_9, oi_10, oi_11, oi_12, oi_13, oi_14, oi_15, oi_16, oi_17, oi_18, oi_19, oi_20, oi_21, dX8_word_0, dX8_word_1, dX8_word_2, co_8_125, dX8_word_5, dX8_word_8, dX8_word_9, dX8_word_10, dX8_word_11, dX8_word_60, dX8_word_61, fo_8_7, dX8_word_64, dX8_word_65, dX8_word_66, co_8_37, dX8_word_69, dX8_word_70, dX8_word_71, dX8_word_72, dX8_word_75, dX8_word_76, dX8_word_77, dX8_word_80, dX8_word_81, dX8_word_82, dX8_word_83, dX8_word_84, co_8_142, dX8_word_87, dX8_word_88, dX8_word_89, dX8_word_90, co_8_54, dX8_word_93, dX8_word_94, dX8_word_95, dX8_word_96, co_8_66, dX8_word_99, dX8_word_100, dX8_word_101, dX8_word_102, dX8_word_105, dX8_word_106, dX8_word_107, dX8_word_110, dX8_word_111, dX8_word_112, dX8_word_115, dX8_word_116, dX8_word_117, dX8_word_120, dX8_word_121, co_8_60, dX8_word_124, dX8_word_125, dX8_word_126, dX8_word_129, dX8_word_130, dX8_word_131, dX8_word_134, dX8_word_135, dX8_word_136, dX8_word_137, dX8_word_140, dX8_word_141, dX8_word_142, dX8_word_145, dX8_word_146, dX8_word_149, bp_m6, dX8_word_151, dX8_word_154, dX8_word_155, dX8_word_158, dX8_word_159, dX8_word_160, dX8_word_163, dX8_word_164, co_8_44, dX8_word_167, dX8_word_168, dX8_word_169, dX8_word_172, bp_m2, dX8_word_174, dX8_word_177, dX8_word_178, dX8_word_181, dX8_word_182, dX8_word_183, dX8_word_186, dX8_word_187, dX8_word_188, bp_9, dX8_word_190, dX8_word_191, co_8_145, dX8_word_194, pfA, pf1, pf_leading, s_leading, pf_weightOf, s_weightOf, pf_mleadOf, s_mleadOf, pf_find, s_find, pf_answersTo, s_answersTo, pf_entryOf, s_entryOf, pf_isWord, s_isWord, pf_isKind, s_isKind, pf_due, s_due, pf_isAgreed, s_isAgreed, pf_becomes, s_becomes, pf_lacks, s_lacks, pf_placeOf, s_placeOf, pf_placeOfSolver, s_placeOfSolver, pf_mallTrust, s_mallTrust, pf_wordsOf, s_wordsOf, pf_lettersOf, s_lettersOf, pf_letterOf, s_letterOf, hL, hG, hw, hC, b2i_T, b2i_F, l1, l2, l3, l4, l5, l6, l7, l8, l9, l10, l11, l12, l13, nI_1, i_a0, at_00, of_00, os_00, atx_1, aty_1, aty_2, aty_3, ofx_1, ofy_1, ofy_2, ofy_3, ofy_4, ofy_5, osx_1, osy_1, osy_2, osy_3, vi_0, vc_0, vi_1, vc_1, vi_2, vc_2, vi_3, vc_3, vi_4, vc_4, vi_5, vc_5, vi_6, vc_6, vi_7, vc_7, vi_8, vc_8, vi_9, vc_9, vi_10, vc_10, vi_11, vc_11, isIx_t (show k < 12 by omega) (by decide), nI_clamp (show k < 2 ^ 31 by omega), oc_1 (show k ≤ 12 by omega), ov_1 (show k ≤ 12 by omega), oc_2 (show k ≤ 12 by omega), ov_2 (show k ≤ 12 by omega), oc_3 (show k ≤ 12 by omega), ov_3 (show k ≤ 12 by omega), oc_4 (show k ≤ 12 by omega), ov_4 (show k ≤ 12 by omega), oc_5 (show k ≤ 12 by omega), ov_5 (show k ≤ 12 by omega)]
    refine ⟨fun h => ?_, ?_⟩
    · have e0 := neL h 0 (by decide)
      have e1 := neL h 1 (by decide)
      have e2 := neL h 2 (by decide)
      have e3 := neL h 3 (by decide)
      have e4 := neL h 4 (by decide)
      have e5 := neL h 5 (by decide)
      have e6 := neL h 6 (by decide)
      have e7 := neL h 7 (by decide)
      have e8 := neL h 8 (by decide)
      rcases sw_rng 8 (by decide) rfl h with h0 | ⟨n, hn, hn8, rfl⟩
      · simp [qWord, hw, h0, e0, e1, e2, e3, e4, e5, e6, e7, e8]
      · have e9 : nI n - 9 = nI (n - 9) := pk_sub (a := n) (b := 9) (by omega)
        have h0 := nI_pos hn
        have hi := isIx_t (n := 2147483648) (show n - 9 < 2147483648 by omega) 
        simp [qWord, hw, h0, e0, e1, e2, e3, e4, e5, e6, e7, e8, e9, isIx, nI_clamp (show k < 2 ^ 31 by omega), nI_clamp (show n - 9 < 2 ^ 31 by omega)]
        omega
    · have c0 := oc_0 (show k ≤ 12 by omega)
      have c1 := oc_1 (show k ≤ 12 by omega)
      have v0 := ov_0 (show k ≤ 12 by omega)
      have v1 := ov_1 (show k ≤ 12 by omega)
      have cc := nI_clamp (show k < 2 ^ 31 by omega)
      repeat' (first | refine And.intro ?_ ?_ | (with_reducible show _ → _; intro _))
      all_goals (subst_vars; try simp only [i_a0, ofy_1] at *)
      all_goals first | assumption | simp [qWord, *]
