theorem b2i_T {h : Decidable True} : @b2i True h = 1 := by simp [b2i]
theorem b2i_F {h : Decidable False} : @b2i False h = 0 := by simp [b2i]
def isIx (w : Int32) (n : Nat) : Prop := w = nI w.toNatClampNeg ∧ w.toNatClampNeg < n
theorem isIx_t {k n : Nat} (h : k < n) (hn : n < 2 ^ 31) : isIx (nI k) n = True := eq_true ⟨by rw [nI_clamp (by omega)], by rw [nI_clamp (by omega)]; exact h⟩
theorem isIx_k {w : Int32} {n : Nat} (h : isIx w n) : ∃ k, k < n ∧ w = nI k := ⟨w.toNatClampNeg, h.2, h.1⟩
def isW (v : Nat → Int32) (w : Int32) : Bool := decide (0 ≤ w ∧ w ≤ v 6 - 1)
set_option maxRecDepth 100000 in
set_option maxHeartbeats 4000000 in
theorem ct_isWord (G : wG) (M : wMem) (w : Int32) (h : MLay M) : CT G 84 0 0 [.ref 252, .int w] M (fun o M' => o = some (.int (b2i (isW (wI M 253) w = true))) ∧ M' = M) := by
  obtain ⟨l1, l2, l3, l4, l5, l6, l7, l8, l9, l10, l11, l12, l13⟩ := h
  refine CT.intro wm_84 mo_84 (by decide +kernel) false (by simp) (Nat.le_of_ble_eq_true rfl) ?_
  refine wGoC (pf1_ok G) 60 [] [] (fun C c0 c1 c2 c3 c4 c5 c6 c7 c8 c9 c10 c11 c12 => ?_)
  simp (config := {maxSteps := 10000000}) only [i1_0, nn_t, nn_f, im_t, im_f, nn_n, xR_s, xR_z, c0, c1, c2, c3, c4, c5, c6, c7, c8, c9, c10, c11, c12, iPuI_e, iPuR_e, iPuL_e, iStoI_e, iStoR_e, iInc_e, iAdd_e, iSub_e, iMul_e, iAnd_e, iOr_e, iShl_e, iUshr_e, iDiv_e, iRem_e, iLushr_e, iLshl_e, iLand_e, iLor_e, iLcmp_e, iI2l_e, iL2i_e, iI2c_e, iDup_e, iDup2_e, iIf_e, iIfc_e, iSwA, iSw_e, iGetf_r, iGetf_i, iGetf_z, iPutf_i, iPutf_z, iPutf_rt, iPutf_rf, iGets_e, iLdc_e, iAl_e, iAl2_e, iAlr_e, iAq_e, iAq2_e, iAsI_e, iAsZ_e, iAsC_e, iAs2_e, iAt_e, iAt2_e, iLen_e, iNew_e, iNwa_e, iNwq_e, iPop, iCl2_s, iCl2_n, iIv2_e, iIv_e, iIv_c, iIs2_e, iIs_e, iIs_n, iIs_max, iIs_min, iIs_cop, iCp2_e, iIp2_e, iIp_o, iIp_2, iIp_3, iRet_i, iRet_z, iRtv_e, xE_iconst, xE_bipush, xE_sipush, xE_lconst, xE_ldc2_w, xE_iload_n, xE_iload, xE_lload_n, xE_aload_n, xE_aload, xE_istore_n, xE_istore, xE_astore_n, xE_astore, xE_iinc, xE_iadd, xE_isub, xE_imul, xE_idiv, xE_irem, xE_iand, xE_ior, xE_ishl, xE_iushr, xE_lushr, xE_lshl, xE_land, xE_lor, xE_lcmp, xE_i2l, xE_l2i, xE_i2c, xE_dup, xE_dup2, xE_ifCond, xE_if_icmp, xE_goto, xE_getfield, xE_putfield, xE_getstatic, xE_baload, xE_caload, xE_iaload, xE_aaload, xE_iastore, xE_bastore, xE_castore, xE_aastore, xE_arraylength, xE_new, xE_newarray_int, xE_newarray_boolean, xE_newarray_char, xE_anewarray, xE_checkcast, xE_invokevirtual, xE_invokestatic, xE_invokespecial, xE_ireturn, xE_return_, xE_tableswitch, eCl, eKd, wCnd, pf0, wArgs, lg_n, lg_0, lg_s, wNl_n, wNl_i, wNl_r, wCat_n, wCat_i, wCat_r, wCat_l, cInt, cRef, cLong, fv0, fv1, fv2, fv3, fw0, fw1, oi_m1, oi_0, oi_1, oi_2, oi_3, oi_4, oi_5, wRf, wLn_n, wLn_c, List.length_cons, List.length_nil, List.replicate, List.set_cons_zero, List.set_cons_succ, List.cons_append, List.nil_append, List.mem_cons, List.not_mem_nil, if_true, if_false, ↓reduceIte, true_and, and_true, or_true, true_or, or_false, false_or, Option.toList, Nat.reduceAdd, Nat.reduceSub, Nat.reduceLT, Nat.reduceLeDiff, Nat.reduceEqDiff, Nat.le_refl, eq_self, Nat.zero_le, Int.cast_ofNat_Int, Int.reduceSub, Int.reduceAdd, Int.reduceLE, Int.reduceToNat, Int.reduceNeg, dX8_isWord_0, dX8_isWord_1, dX8_isWord_2, dX8_isWord_3, fo_8_7, dX8_isWord_6, bp_6, dX8_isWord_8, dX8_isWord_9, dX8_isWord_10, dX8_isWord_11, co_8_33, dX8_isWord_14, pf1, l1, l2, l3, l4, l5, l6, l7, l8, l9, l10, l11, l12, l13, nI_1, i_a0, at_00, of_00, os_00, atx_1, aty_1, aty_2, aty_3, ofx_1, ofy_1, ofy_2, ofy_3, ofy_4, ofy_5, osx_1, osy_1, osy_2, osy_3, vi_0, vc_0, vi_1, vc_1, vi_2, vc_2, vi_3, vc_3, vi_4, vc_4, vi_5, vc_5, vi_6, vc_6, vi_7, vc_7, vi_8, vc_8, vi_9, vc_9, vi_10, vc_10, vi_11, vc_11, b2i_01, isW, decide_eq_true_eq]
def s_isWord : List Value → wMem → Option (Prop × Option Value × wMem) := fun As M => match As with | [.ref m, .int w] => if m = 252 then some (MLay M, some (.int (b2i (isW (wI M 253) w = true))), M) else none | _ => none
def pf_isWord : wPft := pfA 84 s_isWord pf_entryOf
theorem pf_isWord_ok (G : wG) : wPfOk G pf_isWord := by
  refine pfA_ok (fun As M g o M2 h hg => ?_) (pf_entryOf_ok G)
  unfold s_isWord at h
  split at h
  · split at h
    · next hc => obtain hc := hc; subst hc; cases h; exact ct_isWord G M _ hg
    · cases h
  · cases h

set_option maxRecDepth 100000 in
set_option maxHeartbeats 4000000 in
theorem ct_isKind (G : wG) (M : wMem) (w c : Int32) (h : MLay M) (hw : isIx w 12) : CT G 88 0 0 [.ref 252, .int w, .int c] M (fun o M' => o = some (.int (b2i (wI M 253 (36 + 6 * w.toNatClampNeg) = c))) ∧ M' = M) := by
  obtain ⟨l1, l2, l3, l4, l5, l6, l7, l8, l9, l10, l11, l12, l13⟩ := h
  obtain ⟨k, hk, rfl⟩ := isIx_k hw
  refine CT.intro wm_88 mo_88 (by decide +kernel) false (by simp) (Nat.le_of_ble_eq_true rfl) ?_
  refine wGoC (pf1_ok G) 60 [] [] (fun C c0 c1 c2 c3 c4 c5 c6 c7 c8 c9 c10 c11 c12 => ?_)
  simp (config := {maxSteps := 10000000}) only [i1_0, nn_t, nn_f, im_t, im_f, nn_n, xR_s, xR_z, c0, c1, c2, c3, c4, c5, c6, c7, c8, c9, c10, c11, c12, iPuI_e, iPuR_e, iPuL_e, iStoI_e, iStoR_e, iInc_e, iAdd_e, iSub_e, iMul_e, iAnd_e, iOr_e, iShl_e, iUshr_e, iDiv_e, iRem_e, iLushr_e, iLshl_e, iLand_e, iLor_e, iLcmp_e, iI2l_e, iL2i_e, iI2c_e, iDup_e, iDup2_e, iIf_e, iIfc_e, iSwA, iSw_e, iGetf_r, iGetf_i, iGetf_z, iPutf_i, iPutf_z, iPutf_rt, iPutf_rf, iGets_e, iLdc_e, iAl_e, iAl2_e, iAlr_e, iAq_e, iAq2_e, iAsI_e, iAsZ_e, iAsC_e, iAs2_e, iAt_e, iAt2_e, iLen_e, iNew_e, iNwa_e, iNwq_e, iPop, iCl2_s, iCl2_n, iIv2_e, iIv_e, iIv_c, iIs2_e, iIs_e, iIs_n, iIs_max, iIs_min, iIs_cop, iCp2_e, iIp2_e, iIp_o, iIp_2, iIp_3, iRet_i, iRet_z, iRtv_e, xE_iconst, xE_bipush, xE_sipush, xE_lconst, xE_ldc2_w, xE_iload_n, xE_iload, xE_lload_n, xE_aload_n, xE_aload, xE_istore_n, xE_istore, xE_astore_n, xE_astore, xE_iinc, xE_iadd, xE_isub, xE_imul, xE_idiv, xE_irem, xE_iand, xE_ior, xE_ishl, xE_iushr, xE_lushr, xE_lshl, xE_land, xE_lor, xE_lcmp, xE_i2l, xE_l2i, xE_i2c, xE_dup, xE_dup2, xE_ifCond, xE_if_icmp, xE_goto, xE_getfield, xE_putfield, xE_getstatic, xE_baload, xE_caload, xE_iaload, xE_aaload, xE_iastore, xE_bastore, xE_castore, xE_aastore, xE_arraylength, xE_new, xE_newarray_int, xE_newarray_boolean, xE_newarray_char, xE_anewarray, xE_checkcast, xE_invokevirtual, xE_invokestatic, xE_invokespecial, xE_ireturn, xE_return_, xE_tableswitch, eCl, eKd, wCnd, pf0, wArgs, lg_n, lg_0, lg_s, wNl_n, wNl_i, wNl_r, wCat_n, wCat_i, wCat_r, wCat_l, cInt, cRef, cLong, fv0, fv1, fv2, fv3, fw0, fw1, oi_m1, oi_0, oi_1, oi_2, oi_3, oi_4, oi_5, wRf, wLn_n, wLn_c, List.length_cons, List.length_nil, List.replicate, List.set_cons_zero, List.set_cons_succ, List.cons_append, List.nil_append, List.mem_cons, List.not_mem_nil, if_true, if_false, ↓reduceIte, true_and, and_true, or_true, true_or, or_false, false_or, Option.toList, Nat.reduceAdd, Nat.reduceSub, Nat.reduceLT, Nat.reduceLeDiff, Nat.reduceEqDiff, Nat.le_refl, eq_self, Nat.zero_le, Int.cast_ofNat_Int, Int.reduceSub, Int.reduceAdd, Int.reduceLE, Int.reduceToNat, Int.reduceNeg, i_leF, dX8_isKind_0, dX8_isKind_1, fo_8_7, dX8_isKind_4, dX8_isKind_5, dX8_isKind_6, co_8_37, dX8_isKind_9, dX8_isKind_10, dX8_isKind_11, dX8_isKind_14, dX8_isKind_15, dX8_isKind_18, dX8_isKind_19, pf1, l1, l2, l3, l4, l5, l6, l7, l8, l9, l10, l11, l12, l13, nI_1, i_a0, at_00, of_00, os_00, atx_1, aty_1, aty_2, aty_3, ofx_1, ofy_1, ofy_2, ofy_3, ofy_4, ofy_5, osx_1, osy_1, osy_2, osy_3, vi_0, vc_0, vi_1, vc_1, vi_2, vc_2, vi_3, vc_3, vi_4, vc_4, vi_5, vc_5, vi_6, vc_6, vi_7, vc_7, vi_8, vc_8, vi_9, vc_9, vi_10, vc_10, vi_11, vc_11, oc_0 (show k ≤ 12 by omega), ov_0 (show k ≤ 12 by omega), nI_clamp (show k < 2 ^ 31 by omega)]
  repeat' (first | refine And.intro ?_ ?_ | (show _ → _; intro _))
  all_goals simp [b2i, *]
def s_isKind : List Value → wMem → Option (Prop × Option Value × wMem) := fun As M => match As with | [.ref m, .int w, .int c] => if m = 252 then some (MLay M ∧ isIx w 12, some (.int (b2i (wI M 253 (36 + 6 * w.toNatClampNeg) = c))), M) else none | _ => none
def pf_isKind : wPft := pfA 88 s_isKind pf_isWord
theorem pf_isKind_ok (G : wG) : wPfOk G pf_isKind := by
  refine pfA_ok (fun As M g o M2 h hg => ?_) (pf_isWord_ok G)
  unfold s_isKind at h
  split at h
  · split at h
    · next hc => obtain hc := hc; subst hc; cases h; exact ct_isKind G M _ _ hg.1 hg.2
    · cases h
  · cases h

def mDue (v : Nat → Int32) (k : Nat) : Int32 := v 0 + 10 * v (37 + 6 * k)
set_option maxRecDepth 100000 in
set_option maxHeartbeats 4000000 in
theorem ct_due (G : wG) (M : wMem) (w : Int32) (h : MLay M) (hw : isIx w 12) : CT G 98 0 0 [.ref 252, .int w] M (fun o M' => o = some (.int (mDue (wI M 253) w.toNatClampNeg)) ∧ M' = M) := by
  obtain ⟨l1, l2, l3, l4, l5, l6, l7, l8, l9, l10, l11, l12, l13⟩ := h
  obtain ⟨k, hk, rfl⟩ := isIx_k hw
  refine CT.intro wm_98 mo_98 (by decide +kernel) false (by simp) (Nat.le_of_ble_eq_true rfl) ?_
  refine wGoC (pf1_ok G) 60 [] [] (fun C c0 c1 c2 c3 c4 c5 c6 c7 c8 c9 c10 c11 c12 => ?_)
  simp (config := {maxSteps := 10000000}) only [i1_0, nn_t, nn_f, im_t, im_f, nn_n, xR_s, xR_z, c0, c1, c2, c3, c4, c5, c6, c7, c8, c9, c10, c11, c12, iPuI_e, iPuR_e, iPuL_e, iStoI_e, iStoR_e, iInc_e, iAdd_e, iSub_e, iMul_e, iAnd_e, iOr_e, iShl_e, iUshr_e, iDiv_e, iRem_e, iLushr_e, iLshl_e, iLand_e, iLor_e, iLcmp_e, iI2l_e, iL2i_e, iI2c_e, iDup_e, iDup2_e, iIf_e, iIfc_e, iSwA, iSw_e, iGetf_r, iGetf_i, iGetf_z, iPutf_i, iPutf_z, iPutf_rt, iPutf_rf, iGets_e, iLdc_e, iAl_e, iAl2_e, iAlr_e, iAq_e, iAq2_e, iAsI_e, iAsZ_e, iAsC_e, iAs2_e, iAt_e, iAt2_e, iLen_e, iNew_e, iNwa_e, iNwq_e, iPop, iCl2_s, iCl2_n, iIv2_e, iIv_e, iIv_c, iIs2_e, iIs_e, iIs_n, iIs_max, iIs_min, iIs_cop, iCp2_e, iIp2_e, iIp_o, iIp_2, iIp_3, iRet_i, iRet_z, iRtv_e, xE_iconst, xE_bipush, xE_sipush, xE_lconst, xE_ldc2_w, xE_iload_n, xE_iload, xE_lload_n, xE_aload_n, xE_aload, xE_istore_n, xE_istore, xE_astore_n, xE_astore, xE_iinc, xE_iadd, xE_isub, xE_imul, xE_idiv, xE_irem, xE_iand, xE_ior, xE_ishl, xE_iushr, xE_lushr, xE_lshl, xE_land, xE_lor, xE_lcmp, xE_i2l, xE_l2i, xE_i2c, xE_dup, xE_dup2, xE_ifCond, xE_if_icmp, xE_goto, xE_getfield, xE_putfield, xE_getstatic, xE_baload, xE_caload, xE_iaload, xE_aaload, xE_iastore, xE_bastore, xE_castore, xE_aastore, xE_arraylength, xE_new, xE_newarray_int, xE_newarray_boolean, xE_newarray_char, xE_anewarray, xE_checkcast, xE_invokevirtual, xE_invokestatic, xE_invokespecial, xE_ireturn, xE_return_, xE_tableswitch, eCl, eKd, wCnd, pf0, wArgs, lg_n, lg_0, lg_s, wNl_n, wNl_i, wNl_r, wCat_n, wCat_i, wCat_r, wCat_l, cInt, cRef, cLong, fv0, fv1, fv2, fv3, fw0, fw1, oi_m1, oi_0, oi_1, oi_2, oi_3, oi_4, oi_5, wRf, wLn_n, wLn_c, List.length_cons, List.length_nil, List.replicate, List.set_cons_zero, List.set_cons_succ, List.cons_append, List.nil_append, List.mem_cons, List.not_mem_nil, if_true, if_false, ↓reduceIte, true_and, and_true, or_true, true_or, or_false, false_or, Option.toList, Nat.reduceAdd, Nat.reduceSub, Nat.reduceLT, Nat.reduceLeDiff, Nat.reduceEqDiff, Nat.le_refl, eq_self, Nat.zero_le, Int.cast_ofNat_Int, Int.reduceSub, Int.reduceAdd, Int.reduceLE, Int.reduceToNat, Int.reduceNeg, i_leF, dX8_due_0, dX8_due_1, fo_8_7, dX8_due_4, dX8_due_5, dX8_due_6, bp_10, dX8_due_8, dX8_due_9, dX8_due_12, dX8_due_13, dX8_due_14, co_8_37, dX8_due_17, dX8_due_18, dX8_due_19, dX8_due_20, pf1, l1, l2, l3, l4, l5, l6, l7, l8, l9, l10, l11, l12, l13, nI_1, i_a0, at_00, of_00, os_00, atx_1, aty_1, aty_2, aty_3, ofx_1, ofy_1, ofy_2, ofy_3, ofy_4, ofy_5, osx_1, osy_1, osy_2, osy_3, vi_0, vc_0, vi_1, vc_1, vi_2, vc_2, vi_3, vc_3, vi_4, vc_4, vi_5, vc_5, vi_6, vc_6, vi_7, vc_7, vi_8, vc_8, vi_9, vc_9, vi_10, vc_10, vi_11, vc_11, oc_1 (show k ≤ 12 by omega), ov_1 (show k ≤ 12 by omega), nI_clamp (show k < 2 ^ 31 by omega), mDue]
def s_due : List Value → wMem → Option (Prop × Option Value × wMem) := fun As M => match As with | [.ref m, .int w] => if m = 252 then some (MLay M ∧ isIx w 12, some (.int (mDue (wI M 253) w.toNatClampNeg)), M) else none | _ => none
def pf_due : wPft := pfA 98 s_due pf_isKind
theorem pf_due_ok (G : wG) : wPfOk G pf_due := by
  refine pfA_ok (fun As M g o M2 h hg => ?_) (pf_isKind_ok G)
  unfold s_due at h
  split at h
  · split at h
    · next hc => obtain hc := hc; subst hc; cases h; exact ct_due G M _ hg.1 hg.2
    · cases h
  · cases h

def mAgr (v : Nat → Int32) (k : Nat) (a b : Int32) : Bool := decide (¬ a < mDue v k ∧ ¬ b < v 1)
set_option maxRecDepth 100000 in
set_option maxHeartbeats 4000000 in
theorem ct_isAgreed (G : wG) (M : wMem) (w a b : Int32) (h : MLay M) (hw : isIx w 12) : CT G 99 0 0 [.ref 252, .int w, .int a, .int b] M (fun o M' => o = some (.int (b2i (mAgr (wI M 253) w.toNatClampNeg a b = true))) ∧ M' = M) := by
  have hL := h
  obtain ⟨l1, l2, l3, l4, l5, l6, l7, l8, l9, l10, l11, l12, l13⟩ := h
  refine CT.intro wm_99 mo_99 (by decide +kernel) false (by simp) (Nat.le_of_ble_eq_true rfl) ?_
  refine wGoC (pf_due_ok G) 60 [] [] (fun C c0 c1 c2 c3 c4 c5 c6 c7 c8 c9 c10 c11 c12 => ?_)
  simp (config := {maxSteps := 10000000}) only [i1_0, nn_t, nn_f, im_t, im_f, nn_n, xR_s, xR_z, c0, c1, c2, c3, c4, c5, c6, c7, c8, c9, c10, c11, c12, iPuI_e, iPuR_e, iPuL_e, iStoI_e, iStoR_e, iInc_e, iAdd_e, iSub_e, iMul_e, iAnd_e, iOr_e, iShl_e, iUshr_e, iDiv_e, iRem_e, iLushr_e, iLshl_e, iLand_e, iLor_e, iLcmp_e, iI2l_e, iL2i_e, iI2c_e, iDup_e, iDup2_e, iIf_e, iIfc_e, iSwA, iSw_e, iGetf_r, iGetf_i, iGetf_z, iPutf_i, iPutf_z, iPutf_rt, iPutf_rf, iGets_e, iLdc_e, iAl_e, iAl2_e, iAlr_e, iAq_e, iAq2_e, iAsI_e, iAsZ_e, iAsC_e, iAs2_e, iAt_e, iAt2_e, iLen_e, iNew_e, iNwa_e, iNwq_e, iPop, iCl2_s, iCl2_n, iIv2_e, iIv_e, iIv_c, iIs2_e, iIs_e, iIs_n, iIs_max, iIs_min, iIs_cop, iCp2_e, iIp2_e, iIp_o, iIp_2, iIp_3, iRet_i, iRet_z, iRtv_e, xE_iconst, xE_bipush, xE_sipush, xE_lconst, xE_ldc2_w, xE_iload_n, xE_iload, xE_lload_n, xE_aload_n, xE_aload, xE_istore_n, xE_istore, xE_astore_n, xE_astore, xE_iinc, xE_iadd, xE_isub, xE_imul, xE_idiv, xE_irem, xE_iand, xE_ior, xE_ishl, xE_iushr, xE_lushr, xE_lshl, xE_land, xE_lor, xE_lcmp, xE_i2l, xE_l2i, xE_i2c, xE_dup, xE_dup2, xE_ifCond, xE_if_icmp, xE_goto, xE_getfield, xE_putfield, xE_getstatic, xE_baload, xE_caload, xE_iaload, xE_aaload, xE_iastore, xE_bastore, xE_castore, xE_aastore, xE_arraylength, xE_new, xE_newarray_int, xE_newarray_boolean, xE_newarray_char, xE_anewarray, xE_checkcast, xE_invokevirtual, xE_invokestatic, xE_invokespecial, xE_ireturn, xE_return_, xE_tableswitch, eCl, eKd, wCnd, pf0, wArgs, lg_n, lg_0, lg_s, wNl_n, wNl_i, wNl_r, wCat_n, wCat_i, wCat_r, wCat_l, cInt, cRef, cLong, fv0, fv1, fv2, fv3, fw0, fw1, oi_m1, oi_0, oi_1, oi_2, oi_3, oi_4, oi_5, wRf, wLn_n, wLn_c, List.length_cons, List.length_nil, List.replicate, List.set_cons_zero, List.set_cons_succ, List.cons_append, List.nil_append, List.mem_cons, List.not_mem_nil, if_true, if_false, ↓reduceIte, true_and, and_true, or_true, true_or, or_false, false_or, Option.toList, Nat.reduceAdd, Nat.reduceSub, Nat.reduceLT, Nat.reduceLeDiff, Nat.reduceEqDiff, Nat.le_refl, eq_self, Nat.zero_le, Int.cast_ofNat_Int, Int.reduceSub, Int.reduceAdd, Int.reduceLE, Int.reduceToNat, Int.reduceNeg, i_leF, dX8_isAgreed_0, dX8_isAgreed_1, dX8_isAgreed_2, dX8_isAgreed_3, co_8_57, dX8_isAgreed_6, dX8_isAgreed_9, dX8_isAgreed_10, dX8_isAgreed_11, fo_8_7, dX8_isAgreed_14, dX8_isAgreed_15, dX8_isAgreed_16, dX8_isAgreed_19, dX8_isAgreed_20, dX8_isAgreed_23, dX8_isAgreed_24, pfA, pf1, pf_leading, s_leading, pf_weightOf, s_weightOf, pf_mleadOf, s_mleadOf, pf_find, s_find, pf_answersTo, s_answersTo, pf_entryOf, s_entryOf, pf_isWord, s_isWord, pf_isKind, s_isKind, pf_due, s_due, l1, l2, l3, l4, l5, l6, l7, l8, l9, l10, l11, l12, l13, nI_1, i_a0, at_00, of_00, os_00, atx_1, aty_1, aty_2, aty_3, ofx_1, ofy_1, ofy_2, ofy_3, ofy_4, ofy_5, osx_1, osy_1, osy_2, osy_3, vi_0, vc_0, vi_1, vc_1, vi_2, vc_2, vi_3, vc_3, vi_4, vc_4, vi_5, vc_5, vi_6, vc_6, vi_7, vc_7, vi_8, vc_8, vi_9, vc_9, vi_10, vc_10, vi_11, vc_11, hL, hw, mAgr, decide_eq_true_eq]
  repeat' (first | refine And.intro ?_ ?_ | (show _ → _; intro _))
  all_goals simp [b2i, *]
def s_isAgreed : List Value → wMem → Option (Prop × Option Value × wMem) := fun As M => match As with | [.ref m, .int w, .int a, .int b] => if m = 252 then some (MLay M ∧ isIx w 12, some (.int (b2i (mAgr (wI M 253) w.toNatClampNeg a b = true))), M) else none | _ => none
def pf_isAgreed : wPft := pfA 99 s_isAgreed pf_due
theorem pf_isAgreed_ok (G : wG) : wPfOk G pf_isAgreed := by
  refine pfA_ok (fun As M g o M2 h hg => ?_) (pf_due_ok G)
  unfold s_isAgreed at h
  split at h
  · split at h
    · next hc => obtain hc := hc; subst hc; cases h; exact ct_isAgreed G M _ _ _ hg.1 hg.2
    · cases h
  · cases h

def mBec (v : Nat → Int32) (a b : Int32) : Int32 := if v 2 < a ∧ ¬ meanI b a < v 3 then 2 else 3
set_option maxRecDepth 100000 in
set_option maxHeartbeats 4000000 in
theorem ct_becomes (G : wG) (M : wMem) (a b : Int32) (h : MLay M) : CT G 100 0 0 [.ref 252, .int a, .int b] M (fun o M' => o = some (.int (mBec (wI M 253) a b)) ∧ M' = M) := by
  have hL := h
  obtain ⟨l1, l2, l3, l4, l5, l6, l7, l8, l9, l10, l11, l12, l13⟩ := h
  refine CT.intro wm_100 mo_100 (by decide +kernel) false (by simp) (Nat.le_of_ble_eq_true rfl) ?_
  refine wGoC (pf_isAgreed_ok G) 60 [] [] (fun C c0 c1 c2 c3 c4 c5 c6 c7 c8 c9 c10 c11 c12 => ?_)
  simp (config := {maxSteps := 10000000}) only [i1_0, nn_t, nn_f, im_t, im_f, nn_n, xR_s, xR_z, c0, c1, c2, c3, c4, c5, c6, c7, c8, c9, c10, c11, c12, iPuI_e, iPuR_e, iPuL_e, iStoI_e, iStoR_e, iInc_e, iAdd_e, iSub_e, iMul_e, iAnd_e, iOr_e, iShl_e, iUshr_e, iDiv_e, iRem_e, iLushr_e, iLshl_e, iLand_e, iLor_e, iLcmp_e, iI2l_e, iL2i_e, iI2c_e, iDup_e, iDup2_e, iIf_e, iIfc_e, iSwA, iSw_e, iGetf_r, iGetf_i, iGetf_z, iPutf_i, iPutf_z, iPutf_rt, iPutf_rf, iGets_e, iLdc_e, iAl_e, iAl2_e, iAlr_e, iAq_e, iAq2_e, iAsI_e, iAsZ_e, iAsC_e, iAs2_e, iAt_e, iAt2_e, iLen_e, iNew_e, iNwa_e, iNwq_e, iPop, iCl2_s, iCl2_n, iIv2_e, iIv_e, iIv_c, iIs2_e, iIs_e, iIs_n, iIs_max, iIs_min, iIs_cop, iCp2_e, iIp2_e, iIp_o, iIp_2, iIp_3, iRet_i, iRet_z, iRtv_e, xE_iconst, xE_bipush, xE_sipush, xE_lconst, xE_ldc2_w, xE_iload_n, xE_iload, xE_lload_n, xE_aload_n, xE_aload, xE_istore_n, xE_istore, xE_astore_n, xE_astore, xE_iinc, xE_iadd, xE_isub, xE_imul, xE_idiv, xE_irem, xE_iand, xE_ior, xE_ishl, xE_iushr, xE_lushr, xE_lshl, xE_land, xE_lor, xE_lcmp, xE_i2l, xE_l2i, xE_i2c, xE_dup, xE_dup2, xE_ifCond, xE_if_icmp, xE_goto, xE_getfield, xE_putfield, xE_getstatic, xE_baload, xE_caload, xE_iaload, xE_aaload, xE_iastore, xE_bastore, xE_castore, xE_aastore, xE_arraylength, xE_new, xE_newarray_int, xE_newarray_boolean, xE_newarray_char, xE_anewarray, xE_checkcast, xE_invokevirtual, xE_invokestatic, xE_invokespecial, xE_ireturn, xE_return_, xE_tableswitch, eCl, eKd, wCnd, pf0, wArgs, lg_n, lg_0, lg_s, wNl_n, wNl_i, wNl_r, wCat_n, wCat_i, wCat_r, wCat_l, cInt, cRef, cLong, fv0, fv1, fv2, fv3, fw0, fw1, oi_m1, oi_0, oi_1, oi_2, oi_3, oi_4, oi_5, wRf, wLn_n, wLn_c, List.length_cons, List.length_nil, List.replicate, List.set_cons_zero, List.set_cons_succ, List.cons_append, List.nil_append, List.mem_cons, List.not_mem_nil, if_true, if_false, ↓reduceIte, true_and, and_true, or_true, true_or, or_false, false_or, Option.toList, Nat.reduceAdd, Nat.reduceSub, Nat.reduceLT, Nat.reduceLeDiff, Nat.reduceEqDiff, Nat.le_refl, eq_self, Nat.zero_le, Int.cast_ofNat_Int, Int.reduceSub, Int.reduceAdd, Int.reduceLE, Int.reduceToNat, Int.reduceNeg, i_leF, dX8_becomes_0, dX8_becomes_1, dX8_becomes_2, fo_8_7, dX8_becomes_5, dX8_becomes_6, dX8_becomes_7, dX8_becomes_10, dX8_becomes_11, dX8_becomes_12, dX8_becomes_13, co_8_60, dX8_becomes_16, dX8_becomes_17, dX8_becomes_20, dX8_becomes_21, dX8_becomes_22, dX8_becomes_25, dX8_becomes_26, dX8_becomes_29, dX8_becomes_30, pfA, pf1, pf_leading, s_leading, pf_weightOf, s_weightOf, pf_mleadOf, s_mleadOf, pf_find, s_find, pf_answersTo, s_answersTo, pf_entryOf, s_entryOf, pf_isWord, s_isWord, pf_isKind, s_isKind, pf_due, s_due, pf_isAgreed, s_isAgreed, l1, l2, l3, l4, l5, l6, l7, l8, l9, l10, l11, l12, l13, nI_1, i_a0, at_00, of_00, os_00, atx_1, aty_1, aty_2, aty_3, ofx_1, ofy_1, ofy_2, ofy_3, ofy_4, ofy_5, osx_1, osy_1, osy_2, osy_3, vi_0, vc_0, vi_1, vc_1, vi_2, vc_2, vi_3, vc_3, vi_4, vc_4, vi_5, vc_5, vi_6, vc_6, vi_7, vc_7, vi_8, vc_8, vi_9, vc_9, vi_10, vc_10, vi_11, vc_11, hL, mBec]
  repeat' (first | refine And.intro ?_ ?_ | (show _ → _; intro _))
  all_goals simp [*]
def s_becomes : List Value → wMem → Option (Prop × Option Value × wMem) := fun As M => match As with | [.ref m, .int a, .int b] => if m = 252 then some (MLay M, some (.int (mBec (wI M 253) a b)), M) else none | _ => none
def pf_becomes : wPft := pfA 100 s_becomes pf_isAgreed
theorem pf_becomes_ok (G : wG) : wPfOk G pf_becomes := by
  refine pfA_ok (fun As M g o M2 h hg => ?_) (pf_isAgreed_ok G)
  unfold s_becomes at h
  split at h
  · split at h
    · next hc => obtain hc := hc; subst hc; cases h; exact ct_becomes G M _ _ hg
    · cases h
  · cases h

def mLck (v : Nat → Int32) (k : Nat) : Int32 := iMax 0 (iMax (v 1 - mLo v (nI k)) (mDue v k - mWt v (nI k)))
set_option maxRecDepth 100000 in
set_option maxHeartbeats 4000000 in
theorem ct_lacks (G : wG) (M : wMem) (w : Int32) (h : MG M) (hw : isIx w 12) : CT G 131 0 0 [.ref 252, .int w] M (fun o M' => o = some (.int (mLck (wI M 253) w.toNatClampNeg)) ∧ M' = M) := by
  have hG := h
  have hL := h.1
  obtain ⟨⟨l1, l2, l3, l4, l5, l6, l7, l8, l9, l10, l11, l12, l13⟩, hn, hn2⟩ := h
  have hww : nI w.toNatClampNeg = w := hw.1.symm
  refine CT.intro wm_131 mo_131 (by decide +kernel) false (by simp) (Nat.le_of_ble_eq_true rfl) ?_
  refine wGoC (pf_becomes_ok G) 60 [] [] (fun C c0 c1 c2 c3 c4 c5 c6 c7 c8 c9 c10 c11 c12 => ?_)
  simp (config := {maxSteps := 10000000}) only [i1_0, nn_t, nn_f, im_t, im_f, nn_n, xR_s, xR_z, c0, c1, c2, c3, c4, c5, c6, c7, c8, c9, c10, c11, c12, iPuI_e, iPuR_e, iPuL_e, iStoI_e, iStoR_e, iInc_e, iAdd_e, iSub_e, iMul_e, iAnd_e, iOr_e, iShl_e, iUshr_e, iDiv_e, iRem_e, iLushr_e, iLshl_e, iLand_e, iLor_e, iLcmp_e, iI2l_e, iL2i_e, iI2c_e, iDup_e, iDup2_e, iIf_e, iIfc_e, iSwA, iSw_e, iGetf_r, iGetf_i, iGetf_z, iPutf_i, iPutf_z, iPutf_rt, iPutf_rf, iGets_e, iLdc_e, iAl_e, iAl2_e, iAlr_e, iAq_e, iAq2_e, iAsI_e, iAsZ_e, iAsC_e, iAs2_e, iAt_e, iAt2_e, iLen_e, iNew_e, iNwa_e, iNwq_e, iPop, iCl2_s, iCl2_n, iIv2_e, iIv_e, iIv_c, iIs2_e, iIs_e, iIs_n, iIs_max, iIs_min, iIs_cop, iCp2_e, iIp2_e, iIp_o, iIp_2, iIp_3, iRet_i, iRet_z, iRtv_e, xE_iconst, xE_bipush, xE_sipush, xE_lconst, xE_ldc2_w, xE_iload_n, xE_iload, xE_lload_n, xE_aload_n, xE_aload, xE_istore_n, xE_istore, xE_astore_n, xE_astore, xE_iinc, xE_iadd, xE_isub, xE_imul, xE_idiv, xE_irem, xE_iand, xE_ior, xE_ishl, xE_iushr, xE_lushr, xE_lshl, xE_land, xE_lor, xE_lcmp, xE_i2l, xE_l2i, xE_i2c, xE_dup, xE_dup2, xE_ifCond, xE_if_icmp, xE_goto, xE_getfield, xE_putfield, xE_getstatic, xE_baload, xE_caload, xE_iaload, xE_aaload, xE_iastore, xE_bastore, xE_castore, xE_aastore, xE_arraylength, xE_new, xE_newarray_int, xE_newarray_boolean, xE_newarray_char, xE_anewarray, xE_checkcast, xE_invokevirtual, xE_invokestatic, xE_invokespecial, xE_ireturn, xE_return_, xE_tableswitch, eCl, eKd, wCnd, pf0, wArgs, lg_n, lg_0, lg_s, wNl_n, wNl_i, wNl_r, wCat_n, wCat_i, wCat_r, wCat_l, cInt, cRef, cLong, fv0, fv1, fv2, fv3, fw0, fw1, oi_m1, oi_0, oi_1, oi_2, oi_3, oi_4, oi_5, wRf, wLn_n, wLn_c, List.length_cons, List.length_nil, List.replicate, List.set_cons_zero, List.set_cons_succ, List.cons_append, List.nil_append, List.mem_cons, List.not_mem_nil, if_true, if_false, ↓reduceIte, true_and, and_true, or_true, true_or, or_false, false_or, Option.toList, Nat.reduceAdd, Nat.reduceSub, Nat.reduceLT, Nat.reduceLeDiff, Nat.reduceEqDiff, Nat.le_refl, eq_self, Nat.zero_le, Int.cast_ofNat_Int, Int.reduceSub, Int.reduceAdd, Int.reduceLE, Int.reduceToNat, Int.reduceNeg, i_leF, dX8_lacks_0, dX8_lacks_1, dX8_lacks_2, co_8_57, dX8_lacks_5, dX8_lacks_6, dX8_lacks_7, co_8_54, dX8_lacks_10, dX8_lacks_11, dX8_lacks_12, dX8_lacks_13, fo_8_7, dX8_lacks_16, dX8_lacks_17, dX8_lacks_18, dX8_lacks_19, dX8_lacks_20, co_8_66, dX8_lacks_23, dX8_lacks_24, dX8_lacks_25, dX8_lacks_26, dX8_lacks_27, dX8_lacks_30, dX8_lacks_31, dX8_lacks_34, dX8_lacks_35, dX8_lacks_37, dX8_lacks_39, dX8_lacks_42, dX8_lacks_44, dX8_lacks_47, dX8_lacks_48, pfA, pf1, pf_leading, s_leading, pf_weightOf, s_weightOf, pf_mleadOf, s_mleadOf, pf_find, s_find, pf_answersTo, s_answersTo, pf_entryOf, s_entryOf, pf_isWord, s_isWord, pf_isKind, s_isKind, pf_due, s_due, pf_isAgreed, s_isAgreed, pf_becomes, s_becomes, l1, l2, l3, l4, l5, l6, l7, l8, l9, l10, l11, l12, l13, nI_1, i_a0, at_00, of_00, os_00, atx_1, aty_1, aty_2, aty_3, ofx_1, ofy_1, ofy_2, ofy_3, ofy_4, ofy_5, osx_1, osy_1, osy_2, osy_3, vi_0, vc_0, vi_1, vc_1, vi_2, vc_2, vi_3, vc_3, vi_4, vc_4, vi_5, vc_5, vi_6, vc_6, vi_7, vc_7, vi_8, vc_8, vi_9, vc_9, vi_10, vc_10, vi_11, vc_11, hL, hG, hw, hww, mLck]
  repeat' (first | refine And.intro ?_ ?_ | (show _ → _; intro _))
  all_goals simp [iMax, *]
def s_lacks : List Value → wMem → Option (Prop × Option Value × wMem) := fun As M => match As with | [.ref m, .int w] => if m = 252 then some (MG M ∧ isIx w 12, some (.int (mLck (wI M 253) w.toNatClampNeg)), M) else none | _ => none
def pf_lacks : wPft := pfA 131 s_lacks pf_becomes
theorem pf_lacks_ok (G : wG) : wPfOk G pf_lacks := by
  refine pfA_ok (fun As M g o M2 h hg => ?_) (pf_becomes_ok G)
  unfold s_lacks at h
  split at h
  · split at h
    · next hc => obtain hc := hc; subst hc; cases h; exact ct_lacks G M _ hg.1 hg.2
    · cases h
  · cases h

