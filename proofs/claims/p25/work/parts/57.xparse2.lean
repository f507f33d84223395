theorem dgV_neg {f : Nat → Int32} {L p : Nat} {lo hi : Int32} (hlo : 0 ≤ lo) : (dgV f L p lo hi < 0) = (dgB f L p lo hi = false) := by
  unfold dgV
  cases h : dgB f L p lo hi with
  | false => rw [if_neg (by decide)]; simp
  | true =>
    rw [if_pos rfl]
    refine propext ⟨fun q => ?_, fun q => by cases q⟩
    unfold dgB at h
    rw [Bool.and_eq_true] at h
    have := (of_decide_eq_true h.2).1
    exact absurd (Int32.lt_of_le_of_lt this q) (i_nlt.mpr hlo)
set_option maxRecDepth 100000 in
set_option maxHeartbeats 4000000 in
theorem ct_readWordNumber (G : wG) (M : wMem) (h : CG M) : CT G 23 0 0 [.ref 1] M (fun o M' => o = some (.int (wnV (wI M 3) (lenC M) (posC M))) ∧ M' = cAt M (wnP (wI M 3) (lenC M) (posC M))) := by
  have hC := h
  obtain ⟨hXG, hp, hpb⟩ := h
  have hX := hXG.1
  have hlb := hXG.2.2
  obtain ⟨⟨x1, x2, x3, x4, x5, x6, x7⟩, ⟨p1, p2, p3⟩, ⟨d1, d2, d3, d4, d5, d6⟩, ⟨f1, f2, f3, f4, f5⟩⟩ := hX
  refine CT.intro wm_23 mo_23 (by decide +kernel) false (by simp) (Nat.le_of_ble_eq_true rfl) ?_
  have b1 := dgP_le (f := wI M 3) (L := lenC M) (p := posC M) (lo := 0) (hi := 9) hlb hpb
  refine wGoC (pf_readLetters_ok G) 80 [] [] (fun C c0 c1 c2 c3 c4 c5 c6 c7 c8 c9 c10 c11 c12 => ?_)
  simp (config := {maxSteps := 10000000}) only [i1_0, nn_t, nn_f, im_t, im_f, nn_n, xR_s, xR_z, c0, c1, c2, c3, c4, c5, c6, c7, c8, c9, c10, c11, c12, iPuI_e, iPuR_e, iPuL_e, iStoI_e, iStoR_e, iInc_e, iAdd_e, iSub_e, iMul_e, iAnd_e, iOr_e, iShl_e, iShr_e, iPo_i, iLdi_e, iUshr_e, iDiv_e, iRem_e, iLushr_e, iLshl_e, iLand_e, iLor_e, iLcmp_e, iI2l_e, iL2i_e, iI2c_e, iDup_e, iDup2_e, iIf_e, iIfc_e, iSwA, iSw_e, iGetf_r, iGetf_i, iGetf_z, iPutf_i, iPutf_z, iPutf_rt, iPutf_rf, iGets_e, iLdc_e, iAl_e, iAl2_e, iAlr_e, iAq_e, iAq2_e, iAsI_e, iAsZ_e, iAsC_e, iAs2_e, iAt_e, iAt2_e, iLen_e, iNew_e, iNwa_e, iNwq_e, iPop, iCl2_s, iCl2_n, iIv2_e, iIv_e, iIv_c, iIs2_e, iIs_e, iIs_n, iIs_max, iIs_min, iIs_cop, iCp2_e, iIp2_e, iIp_o, iIp_2, iIp_3, iRet_i, iRet_z, iRtv_e, xE_iconst, xE_bipush, xE_sipush, xE_lconst, xE_ldc2_w, xE_iload_n, xE_iload, xE_lload_n, xE_aload_n, xE_aload, xE_istore_n, xE_istore, xE_astore_n, xE_astore, xE_iinc, xE_iadd, xE_isub, xE_imul, xE_idiv, xE_irem, xE_iand, xE_ior, xE_ishl, xE_ishr, xE_pop, xE_ldc, xE_iushr, xE_lushr, xE_lshl, xE_land, xE_lor, xE_lcmp, xE_i2l, xE_l2i, xE_i2c, xE_dup, xE_dup2, xE_ifCond, xE_if_icmp, xE_goto, xE_getfield, xE_putfield, xE_getstatic, xE_baload, xE_caload, xE_iaload, xE_aaload, xE_iastore, xE_bastore, xE_castore, xE_aastore, xE_arraylength, xE_new, xE_newarray_int, xE_newarray_boolean, xE_newarray_char, xE_anewarray, xE_checkcast, xE_invokevirtual, xE_invokestatic, xE_invokespecial, xE_ireturn, xE_return_, xE_tableswitch, eCl, eKd, wCnd, pf0, wArgs, lg_n, lg_0, lg_s, wNl_n, wNl_i, wNl_r, wCat_n, wCat_i, wCat_r, wCat_l, cInt, cRef, cLong, fv0, fv1, fv2, fv3, fw0, fw1, oi_m1, oi_0, oi_1, oi_2, oi_3, oi_4, oi_5, wRf, wLn_n, wLn_c, List.length_cons, List.length_nil, List.replicate, List.set_cons_zero, List.set_cons_succ, List.cons_append, List.nil_append, List.mem_cons, List.not_mem_nil, if_true, if_false, ↓reduceIte, true_and, and_true, or_true, true_or, or_false, false_or, Option.toList, Nat.reduceAdd, Nat.reduceSub, Nat.reduceLT, Nat.reduceLeDiff, Nat.reduceEqDiff, Nat.le_refl, eq_self, Nat.zero_le, Int.cast_ofNat_Int, Int.reduceSub, Int.reduceAdd, Int.reduceLE, Int.reduceToNat, Int.reduceNeg, Int32.reduceAdd, Int32.reduceSub, Int32.reduceMul, Int32.reduceLT, i_leF, Bool.false_eq_true, Bool.true_eq_false, b2i_T, b2i_F, b2i_0, b2i_01, i_a0, not_false_eq_true, oi_6, oi_7, oi_8, oi_9, oi_10, oi_11, oi_12, oi_13, oi_14, oi_15, oi_16, oi_17, oi_18, oi_19, oi_20, oi_21, dX3_readWordNumber_0, dX3_readWordNumber_1, dX3_readWordNumber_2, bp_9, dX3_readWordNumber_4, co_3_54, dX3_readWordNumber_7, dX3_readWordNumber_8, dX3_readWordNumber_9, dX3_readWordNumber_10, dX3_readWordNumber_13, dX3_readWordNumber_14, dX3_readWordNumber_15, dX3_readWordNumber_16, dX3_readWordNumber_17, dX3_readWordNumber_18, dX3_readWordNumber_21, dX3_readWordNumber_22, dX3_readWordNumber_23, dX3_readWordNumber_26, dX3_readWordNumber_27, dX3_readWordNumber_30, bp_10, dX3_readWordNumber_32, dX3_readWordNumber_33, dX3_readWordNumber_34, pfA, pf1, pf_xin, s_xin, pf_xis, s_xis, pf_xleadingLetters, s_xleadingLetters, pf_xleadingWeight, s_xleadingWeight, pf_xleadOf, s_xleadOf, pf_lettersIn, s_lettersIn, pf_aboutLetters, s_aboutLetters, pf_xhasWord, s_xhasWord, pf_xhasRoom, s_xhasRoom, pf_xkind, s_xkind, pf_xtbr, s_xtbr, pf_xlack, s_xlack, pf_xrank, s_xrank, pf_xwok, s_xwok, pf_xaa, s_xaa, pf_xar, s_xar, pf_xat, s_xat, pf_xunl, s_xunl, pf_xpla, s_xpla, pf_xrbw, s_xrbw, pf_xlw, s_xlw, pf_xlo, s_xlo, pf_isTold, s_isTold, pf_readDigit, s_readDigit, pf_readSign, s_readSign, pf_readLetters, s_readLetters, hC, CG_at hXG b1, posC_at b1, lenC_at, cAt_at, cAt_S, cAt_P, cAt_f M _ 3 (by decide), x1, x2, x3, x4, x5, x6, x7, p1, p2, p3, d1, d2, d3, d4, d5, d6, f1, f2, f3, f4, f5]
  repeat' (first | refine And.intro ?_ ?_ | (with_reducible show _ → _; intro _))
  all_goals simp [wnV, wnP, *]
def s_readWordNumber : List Value → wMem → Option (Prop × Option Value × wMem) := fun As M => match As with | [.ref r] => if r = 1 then some (CG M, some (.int (wnV (wI M 3) (lenC M) (posC M))), cAt M (wnP (wI M 3) (lenC M) (posC M))) else none | _ => none
def pf_readWordNumber : wPft := pfA 23 s_readWordNumber pf_readLetters
theorem pf_readWordNumber_ok (G : wG) : wPfOk G pf_readWordNumber := by
  refine pfA_ok (fun As M g o M2 h hg => ?_) (pf_readLetters_ok G)
  unfold s_readWordNumber at h
  split at h
  · split at h
    · next hc => obtain hc := hc; subst hc; cases h; exact ct_readWordNumber G M hg
    · cases h
  · cases h

theorem cAt_3 (M : wMem) (p : Nat) (j : Nat) (h : j ≠ 1) (x : Int32) (p' : Nat) : cAt (wSetI (cAt M p) 1 j x) p' = wSetI (cAt M p') 1 j x := by
  rw [cAt_s _ _ _ _ _ (fun q => h q.2), cAt_at]
theorem set_set3 (M : wMem) (q j : Nat) (x y : Int32) : wSetI (wSetI M q j x) q j y = wSetI M q j y := by
  refine wM_ext rfl rfl (fun a b => ?_) rfl
  rw [wI_setI, wI_setI, wI_setI]
  split <;> rfl
theorem CG_s {M : wMem} {q j : Nat} {x : Int32} (h : CG M) (hq : q = 1 ∧ j ≠ 1 ∨ q = 4 ∨ q = 5) : CG (wSetI M q j x) := by
  have e1 : wI (wSetI M q j x) 1 1 = wI M 1 1 := by rw [wI_setI, if_neg (by rintro ⟨r1, r2⟩; rcases hq with ⟨q1, q2⟩ | q1 | q1 <;> omega)]
  have e2 : wI (wSetI M q j x) 2 1 = wI M 2 1 := by rw [wI_setI, if_neg (by rintro ⟨r1, r2⟩; rcases hq with ⟨q1, q2⟩ | q1 | q1 <;> omega)]
  have e3 : posC (wSetI M q j x) = posC M := by unfold posC; rw [e1]
  have e4 : lenC (wSetI M q j x) = lenC M := by unfold lenC; rw [e2]
  refine ⟨⟨h.1.1, ?_, ?_⟩, ?_, ?_⟩
  · rw [e2, e4]; exact h.1.2.1
  · rw [e4]; exact h.1.2.2
  · rw [e1, e3]; exact h.2.1
  · rw [e3]; exact h.2.2
theorem posC_s {M : wMem} {q j : Nat} {x : Int32} (hq : q = 1 ∧ j ≠ 1 ∨ q = 4 ∨ q = 5) : posC (wSetI M q j x) = posC M := by
  unfold posC
  rw [wI_setI, if_neg (by rintro ⟨r1, r2⟩; rcases hq with ⟨q1, q2⟩ | q1 | q1 <;> omega)]
theorem lenC_s {M : wMem} {q j : Nat} {x : Int32} (hq : q = 1 ∧ j ≠ 1 ∨ q = 4 ∨ q = 5) : lenC (wSetI M q j x) = lenC M := by
  unfold lenC
  rw [wI_setI, if_neg (by rintro ⟨r1, r2⟩; rcases hq with ⟨q1, q2⟩ | q1 | q1 <;> omega)]
theorem ch_s {M : wMem} {q j : Nat} {x : Int32} (hq : q ≠ 3) : wI (wSetI M q j x) 3 = wI M 3 := by
  funext a
  rw [wI_setI, if_neg (fun r => hq r.1.symm)]
set_option maxRecDepth 100000 in
set_option maxHeartbeats 4000000 in
theorem ct_readSolver (G : wG) (M : wMem) (h : CG M) : CT G 20 0 0 [.ref 1] M (fun o M' => o = some (.int (b2i (dgB (wI M 3) (lenC M) (posC M) 0 5 = true))) ∧ M' = wSetI (cAt M (dgP (wI M 3) (lenC M) (posC M) 0 5)) 1 2 (dgV (wI M 3) (lenC M) (posC M) 0 5)) := by
  have hC := h
  obtain ⟨hXG, hp, hpb⟩ := h
  have hX := hXG.1
  obtain ⟨⟨x1, x2, x3, x4, x5, x6, x7⟩, ⟨p1, p2, p3⟩, ⟨d1, d2, d3, d4, d5, d6⟩, ⟨f1, f2, f3, f4, f5⟩⟩ := hX
  refine CT.intro wm_20 mo_20 (by decide +kernel) false (by simp) (Nat.le_of_ble_eq_true rfl) ?_
  refine wGoC (pf_readWordNumber_ok G) 80 [] [] (fun C c0 c1 c2 c3 c4 c5 c6 c7 c8 c9 c10 c11 c12 => ?_)
  simp (config := {maxSteps := 10000000}) only [i1_0, nn_t, nn_f, im_t, im_f, nn_n, xR_s, xR_z, c0, c1, c2, c3, c4, c5, c6, c7, c8, c9, c10, c11, c12, iPuI_e, iPuR_e, iPuL_e, iStoI_e, iStoR_e, iInc_e, iAdd_e, iSub_e, iMul_e, iAnd_e, iOr_e, iShl_e, iShr_e, iPo_i, iLdi_e, iUshr_e, iDiv_e, iRem_e, iLushr_e, iLshl_e, iLand_e, iLor_e, iLcmp_e, iI2l_e, iL2i_e, iI2c_e, iDup_e, iDup2_e, iIf_e, iIfc_e, iSwA, iSw_e, iGetf_r, iGetf_i, iGetf_z, iPutf_i, iPutf_z, iPutf_rt, iPutf_rf, iGets_e, iLdc_e, iAl_e, iAl2_e, iAlr_e, iAq_e, iAq2_e, iAsI_e, iAsZ_e, iAsC_e, iAs2_e, iAt_e, iAt2_e, iLen_e, iNew_e, iNwa_e, iNwq_e, iPop, iCl2_s, iCl2_n, iIv2_e, iIv_e, iIv_c, iIs2_e, iIs_e, iIs_n, iIs_max, iIs_min, iIs_cop, iCp2_e, iIp2_e, iIp_o, iIp_2, iIp_3, iRet_i, iRet_z, iRtv_e, xE_iconst, xE_bipush, xE_sipush, xE_lconst, xE_ldc2_w, xE_iload_n, xE_iload, xE_lload_n, xE_aload_n, xE_aload, xE_istore_n, xE_istore, xE_astore_n, xE_astore, xE_iinc, xE_iadd, xE_isub, xE_imul, xE_idiv, xE_irem, xE_iand, xE_ior, xE_ishl, xE_ishr, xE_pop, xE_ldc, xE_iushr, xE_lushr, xE_lshl, xE_land, xE_lor, xE_lcmp, xE_i2l, xE_l2i, xE_i2c, xE_dup, xE_dup2, xE_ifCond, xE_if_icmp, xE_goto, xE_getfield, xE_putfield, xE_getstatic, xE_baload, xE_caload, xE_iaload, xE_aaload, xE_iastore, xE_bastore, xE_castore, xE_aastore, xE_arraylength, xE_new, xE_newarray_int, xE_newarray_boolean, xE_newarray_char, xE_anewarray, xE_checkcast, xE_invokevirtual, xE_invokestatic, xE_invokespecial, xE_ireturn, xE_return_, xE_tableswitch, eCl, eKd, wCnd, pf0, wArgs, lg_n, lg_0, lg_s, wNl_n, wNl_i, wNl_r, wCat_n, wCat_i, wCat_r, wCat_l, cInt, cRef, cLong, fv0, fv1, fv2, fv3, fw0, fw1, oi_m1, oi_0, oi_1, oi_2, oi_3, oi_4, oi_5, wRf, wLn_n, wLn_c, List.length_cons, List.length_nil, List.replicate, List.set_cons_zero, List.set_cons_succ, List.cons_append, List.nil_append, List.mem_cons, List.not_mem_nil, if_true, if_false, ↓reduceIte, true_and, and_true, or_true, true_or, or_false, false_or, Option.toList, Nat.reduceAdd, Nat.reduceSub, Nat.reduceLT, Nat.reduceLeDiff, Nat.reduceEqDiff, Nat.le_refl, eq_self, Nat.zero_le, Int.cast_ofNat_Int, Int.reduceSub, Int.reduceAdd, Int.reduceLE, Int.reduceToNat, Int.reduceNeg, Int32.reduceAdd, Int32.reduceSub, Int32.reduceMul, Int32.reduceLT, i_leF, Bool.false_eq_true, Bool.true_eq_false, b2i_T, b2i_F, b2i_0, b2i_01, i_a0, not_false_eq_true, oi_6, oi_7, oi_8, oi_9, oi_10, oi_11, oi_12, oi_13, oi_14, oi_15, oi_16, oi_17, oi_18, oi_19, oi_20, oi_21, dX3_readSolver_0, dX3_readSolver_1, dX3_readSolver_2, dX3_readSolver_3, dX3_readSolver_4, co_3_54, dX3_readSolver_7, fo_3_58, dX3_readSolver_10, dX3_readSolver_11, dX3_readSolver_14, dX3_readSolver_17, dX3_readSolver_18, dX3_readSolver_21, dX3_readSolver_22, pfA, pf1, pf_xin, s_xin, pf_xis, s_xis, pf_xleadingLetters, s_xleadingLetters, pf_xleadingWeight, s_xleadingWeight, pf_xleadOf, s_xleadOf, pf_lettersIn, s_lettersIn, pf_aboutLetters, s_aboutLetters, pf_xhasWord, s_xhasWord, pf_xhasRoom, s_xhasRoom, pf_xkind, s_xkind, pf_xtbr, s_xtbr, pf_xlack, s_xlack, pf_xrank, s_xrank, pf_xwok, s_xwok, pf_xaa, s_xaa, pf_xar, s_xar, pf_xat, s_xat, pf_xunl, s_xunl, pf_xpla, s_xpla, pf_xrbw, s_xrbw, pf_xlw, s_xlw, pf_xlo, s_xlo, pf_isTold, s_isTold, pf_readDigit, s_readDigit, pf_readSign, s_readSign, pf_readLetters, s_readLetters, pf_readWordNumber, s_readWordNumber, hC, cAt_S, cAt_P, wS_setI, wP_setI, wI_setI, dgV_neg (show (0 : Int32) ≤ 0 by decide), x1, x2, x3, x4, x5, x6, x7, p1, p2, p3, d1, d2, d3, d4, d5, d6, f1, f2, f3, f4, f5]
  repeat' (first | refine And.intro ?_ ?_ | (with_reducible show _ → _; intro _))
  all_goals simp [b2i, *]
def s_readSolver : List Value → wMem → Option (Prop × Option Value × wMem) := fun As M => match As with | [.ref r] => if r = 1 then some (CG M, some (.int (b2i (dgB (wI M 3) (lenC M) (posC M) 0 5 = true))), wSetI (cAt M (dgP (wI M 3) (lenC M) (posC M) 0 5)) 1 2 (dgV (wI M 3) (lenC M) (posC M) 0 5)) else none | _ => none
def pf_readSolver : wPft := pfA 20 s_readSolver pf_readWordNumber
theorem pf_readSolver_ok (G : wG) : wPfOk G pf_readSolver := by
  refine pfA_ok (fun As M g o M2 h hg => ?_) (pf_readWordNumber_ok G)
  unfold s_readSolver at h
  split at h
  · split at h
    · next hc => obtain hc := hc; subst hc; cases h; exact ct_readSolver G M hg
    · cases h
  · cases h

set_option maxRecDepth 100000 in
set_option maxHeartbeats 4000000 in
theorem ct_readSeconds (G : wG) (M : wMem) (h : CG M) : CT G 22 0 0 [.ref 1] M (fun o M' => o = some (.int (b2i (0 < scV (wI M 3) (lenC M) (posC M)))) ∧ M' = wSetI (cAt M (scP (wI M 3) (lenC M) (posC M))) 1 3 (scV (wI M 3) (lenC M) (posC M))) := by
  have hC := h
  obtain ⟨hXG, hp, hpb⟩ := h
  have hX := hXG.1
  have hlb := hXG.2.2
  obtain ⟨⟨x1, x2, x3, x4, x5, x6, x7⟩, ⟨p1, p2, p3⟩, ⟨d1, d2, d3, d4, d5, d6⟩, ⟨f1, f2, f3, f4, f5⟩⟩ := hX
  refine CT.intro wm_22 mo_22 (by decide +kernel) false (by simp) (Nat.le_of_ble_eq_true rfl) ?_
  have b1 := dgP_le (f := wI M 3) (L := lenC M) (p := posC M) (lo := 1) (hi := 9) hlb hpb
  have hC2 : ∀ x, CG (wSetI (cAt M (dgP (wI M 3) (lenC M) (posC M) 1 9)) 1 3 x) := fun x => CG_s (CG_at hXG b1) (Or.inl ⟨rfl, by decide⟩)
  have hP2 : ∀ x, posC (wSetI (cAt M (dgP (wI M 3) (lenC M) (posC M) 1 9)) 1 3 x) = dgP (wI M 3) (lenC M) (posC M) 1 9 := fun x => by rw [posC_s (Or.inl ⟨rfl, by decide⟩), posC_at b1]
  have hL2 : ∀ x, lenC (wSetI (cAt M (dgP (wI M 3) (lenC M) (posC M) 1 9)) 1 3 x) = lenC M := fun x => by rw [lenC_s (Or.inl ⟨rfl, by decide⟩), lenC_at]
  have hf2 : ∀ x, wI (wSetI (cAt M (dgP (wI M 3) (lenC M) (posC M) 1 9)) 1 3 x) 3 = wI M 3 := fun x => by rw [ch_s (by decide), cAt_f _ _ _ (by decide)]
  refine wGoC (pf_readSolver_ok G) 120 [] [] (fun C c0 c1 c2 c3 c4 c5 c6 c7 c8 c9 c10 c11 c12 => ?_)
  simp (config := {maxSteps := 10000000}) only [i1_0, nn_t, nn_f, im_t, im_f, nn_n, xR_s, xR_z, c0, c1, c2, c3, c4, c5, c6, c7, c8, c9, c10, c11, c12, iPuI_e, iPuR_e, iPuL_e, iStoI_e, iStoR_e, iInc_e, iAdd_e, iSub_e, iMul_e, iAnd_e, iOr_e, iShl_e, iShr_e, iPo_i, iLdi_e, iUshr_e, iDiv_e, iRem_e, iLushr_e, iLshl_e, iLand_e, iLor_e, iLcmp_e, iI2l_e, iL2i_e, iI2c_e, iDup_e, iDup2_e, iIf_e, iIfc_e, iSwA, iSw_e, iGetf_r, iGetf_i, iGetf_z, iPutf_i, iPutf_z, iPutf_rt, iPutf_rf, iGets_e, iLdc_e, iAl_e, iAl2_e, iAlr_e, iAq_e, iAq2_e, iAsI_e, iAsZ_e, iAsC_e, iAs2_e, iAt_e, iAt2_e, iLen_e, iNew_e, iNwa_e, iNwq_e, iPop, iCl2_s, iCl2_n, iIv2_e, iIv_e, iIv_c, iIs2_e, iIs_e, iIs_n, iIs_max, iIs_min, iIs_cop, iCp2_e, iIp2_e, iIp_o, iIp_2, iIp_3, iRet_i, iRet_z, iRtv_e, xE_iconst, xE_bipush, xE_sipush, xE_lconst, xE_ldc2_w, xE_iload_n, xE_iload, xE_lload_n, xE_aload_n, xE_aload, xE_istore_n, xE_istore, xE_astore_n, xE_astore, xE_iinc, xE_iadd, xE_isub, xE_imul, xE_idiv, xE_irem, xE_iand, xE_ior, xE_ishl, xE_ishr, xE_pop, xE_ldc, xE_iushr, xE_lushr, xE_lshl, xE_land, xE_lor, xE_lcmp, xE_i2l, xE_l2i, xE_i2c, xE_dup, xE_dup2, xE_ifCond, xE_if_icmp, xE_goto, xE_getfield, xE_putfield, xE_getstatic, xE_baload, xE_caload, xE_iaload, xE_aaload, xE_iastore, xE_bastore, xE_castore, xE_aastore, xE_arraylength, xE_new, xE_newarray_int, xE_newarray_boolean, xE_newarray_char, xE_anewarray, xE_checkcast, xE_invokevirtual, xE_invokestatic, xE_invokespecial, xE_ireturn, xE_return_, xE_tableswitch, eCl, eKd, wCnd, pf0, wArgs, lg_n, lg_0, lg_s, wNl_n, wNl_i, wNl_r, wCat_n, wCat_i, wCat_r, wCat_l, cInt, cRef, cLong, fv0, fv1, fv2, fv3, fw0, fw1, oi_m1, oi_0, oi_1, oi_2, oi_3, oi_4, oi_5, wRf, wLn_n, wLn_c, List.length_cons, List.length_nil, List.replicate, List.set_cons_zero, List.set_cons_succ, List.cons_append, List.nil_append, List.mem_cons, List.not_mem_nil, if_true, if_false, ↓reduceIte, true_and, and_true, or_true, true_or, or_false, false_or, Option.toList, Nat.reduceAdd, Nat.reduceSub, Nat.reduceLT, Nat.reduceLeDiff, Nat.reduceEqDiff, Nat.le_refl, eq_self, Nat.zero_le, Int.cast_ofNat_Int, Int.reduceSub, Int.reduceAdd, Int.reduceLE, Int.reduceToNat, Int.reduceNeg, Int32.reduceAdd, Int32.reduceSub, Int32.reduceMul, Int32.reduceLT, i_leF, Bool.false_eq_true, Bool.true_eq_false, b2i_T, b2i_F, b2i_0, b2i_01, i_a0, not_false_eq_true, oi_6, oi_7, oi_8, oi_9, oi_10, oi_11, oi_12, oi_13, oi_14, oi_15, oi_16, oi_17, oi_18, oi_19, oi_20, oi_21, dX3_readSeconds_0, dX3_readSeconds_1, dX3_readSeconds_2, dX3_readSeconds_3, bp_9, dX3_readSeconds_5, co_3_54, dX3_readSeconds_8, fo_3_70, dX3_readSeconds_11, dX3_readSeconds_12, dX3_readSeconds_15, dX3_readSeconds_16, dX3_readSeconds_19, dX3_readSeconds_20, dX3_readSeconds_23, bp_6, dX3_readSeconds_25, dX3_readSeconds_28, dX3_readSeconds_29, dX3_readSeconds_30, dX3_readSeconds_31, dX3_readSeconds_34, dX3_readSeconds_36, dX3_readSeconds_39, dX3_readSeconds_40, dX3_readSeconds_43, dX3_readSeconds_45, dX3_readSeconds_48, dX3_readSeconds_49, dX3_readSeconds_50, dX3_readSeconds_53, dX3_readSeconds_54, bp_10, dX3_readSeconds_56, dX3_readSeconds_57, dX3_readSeconds_60, dX3_readSeconds_61, dX3_readSeconds_62, dX3_readSeconds_63, dX3_readSeconds_66, dX3_readSeconds_67, dX3_readSeconds_70, dX3_readSeconds_73, dX3_readSeconds_74, dX3_readSeconds_77, dX3_readSeconds_78, pfA, pf1, pf_xin, s_xin, pf_xis, s_xis, pf_xleadingLetters, s_xleadingLetters, pf_xleadingWeight, s_xleadingWeight, pf_xleadOf, s_xleadOf, pf_lettersIn, s_lettersIn, pf_aboutLetters, s_aboutLetters, pf_xhasWord, s_xhasWord, pf_xhasRoom, s_xhasRoom, pf_xkind, s_xkind, pf_xtbr, s_xtbr, pf_xlack, s_xlack, pf_xrank, s_xrank, pf_xwok, s_xwok, pf_xaa, s_xaa, pf_xar, s_xar, pf_xat, s_xat, pf_xunl, s_xunl, pf_xpla, s_xpla, pf_xrbw, s_xrbw, pf_xlw, s_xlw, pf_xlo, s_xlo, pf_isTold, s_isTold, pf_readDigit, s_readDigit, pf_readSign, s_readSign, pf_readLetters, s_readLetters, pf_readWordNumber, s_readWordNumber, pf_readSolver, s_readSolver, hC, hC2, hP2, hL2, hf2, cAt_S, cAt_P, wS_setI, wP_setI, wI_setI, cAt_3 _ _ 3 (by decide), set_set3, x1, x2, x3, x4, x5, x6, x7, p1, p2, p3, d1, d2, d3, d4, d5, d6, f1, f2, f3, f4, f5]
  repeat' (first | refine And.intro ?_ ?_ | (with_reducible show _ → _; intro _))
  all_goals first | (simp [scV, scP, scM, scH, b2i, *]; done) | (simp_all [scV, scP, scM, scH, b2i]; done)
def s_readSeconds : List Value → wMem → Option (Prop × Option Value × wMem) := fun As M => match As with | [.ref r] => if r = 1 then some (CG M, some (.int (b2i (0 < scV (wI M 3) (lenC M) (posC M)))), wSetI (cAt M (scP (wI M 3) (lenC M) (posC M))) 1 3 (scV (wI M 3) (lenC M) (posC M))) else none | _ => none
def pf_readSeconds : wPft := pfA 22 s_readSeconds pf_readSolver
theorem pf_readSeconds_ok (G : wG) : wPfOk G pf_readSeconds := by
  refine pfA_ok (fun As M g o M2 h hg => ?_) (pf_readSolver_ok G)
  unfold s_readSeconds at h
  split at h
  · split at h
    · next hc => obtain hc := hc; subst hc; cases h; exact ct_readSeconds G M hg
    · cases h
  · cases h

