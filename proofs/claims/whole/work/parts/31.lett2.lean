/-- the digits of a code -/
def dl (b : Nat) : Nat → Nat → List Nat
  | 0, _ => []
  | f + 1, n => if n = 0 then [] else n % b :: dl b f (n / b)
theorem dl_enc {b : Nat} (hb : 27 ≤ b) : ∀ (f : Nat) (ds : List Nat), okd ds → ds.length ≤ f → dl b f (enc b ds) = ds
  | 0, [], _, _ => rfl
  | 0, d :: r, _, h => by simp at h
  | f + 1, [], _, _ => by simp [dl, enc]
  | f + 1, d :: r, h, hl => by
    have := enc_pos (b := b) h
    simp only [dl]
    rw [if_neg (by omega), enc_mod hb h, enc_div hb h, dl_enc hb f r (okd_t h) (by simpa using hl)]
def isC (b : Nat) (c : Int32) : Prop := ∃ ds : List Nat, ds.length ≤ 6 ∧ okd ds ∧ c = nI (enc b ds)
def dlc (b : Nat) (c : Int32) : List Nat := dl b 6 c.toNatClampNeg
theorem dlc_enc {b : Nat} (hb : 27 ≤ b) (hb2 : b ≤ 32) {ds : List Nat} (h : okd ds) (hl : ds.length ≤ 6) : dlc b (nI (enc b ds)) = ds := by
  unfold dlc
  rw [nI_clamp (enc_lt31 hb hb2 h hl), dl_enc hb 6 ds h hl]
theorem LR_dlc {a b : Int32} (h : LR a b) : dlc 32 a = dlc 27 b ∧ isC 32 a ∧ isC 27 b := by
  obtain ⟨ds, h1, h2, rfl, rfl⟩ := h
  exact ⟨by rw [dlc_enc (by decide) (by decide) h2 h1, dlc_enc (by decide) (by decide) h2 h1], ⟨ds, h1, h2, rfl⟩, ⟨ds, h1, h2, rfl⟩⟩
theorem ct_lettersOfC (G : wG) (M : wMem) (c : Int32) (h : isC 27 c) : CT G 90 0 0 [.int c] M (fun o M' => o = some (.int (lMany (dlc 27 c))) ∧ M' = M) := by
  obtain ⟨ds, h1, h2, rfl⟩ := h
  rw [dlc_enc (by decide) (by decide) h2 h1]
  exact ct_lettersOf G M ds h2 h1
def s_lettersOf : List Value → wMem → Option (Prop × Option Value × wMem) := fun As M => match As with | [.int c] => some (isC 27 c, some (.int (lMany (dlc 27 c))), M) | _ => none
def pf_lettersOf : wPft := pfA 90 s_lettersOf pf_wordsOf
theorem pf_lettersOf_ok (G : wG) : wPfOk G pf_lettersOf := by
  refine pfA_ok (fun As M g o M2 h hg => ?_) (pf_wordsOf_ok G)
  unfold s_lettersOf at h
  split at h
  · cases h; exact ct_lettersOfC G M _ hg
  · cases h

theorem enc_dropS {b : Nat} (hb : 27 ≤ b) {ds : List Nat} (h : okd ds) {j : Nat} (hj : j < ds.length) : enc b (ds.drop j) / b = enc b (ds.drop (j + 1)) ∧ enc b (ds.drop j) % b = ds.getD j 0 ∧ 0 < enc b (ds.drop j) := by
  have e : ds.drop j = ds[j] :: ds.drop (j + 1) := List.drop_eq_getElem_cons hj
  have ho : okd (ds[j] :: ds.drop (j + 1)) := e ▸ okd_drop h j
  rw [e]
  exact ⟨enc_div hb ho, by rw [enc_mod hb ho]; simp [hj], enc_pos ho⟩
theorem enc_dropL {b : Nat} (hb : 27 ≤ b) (hb2 : b ≤ 32) {ds : List Nat} (h : okd ds) (hl : ds.length ≤ 6) (j : Nat) : enc b (ds.drop j) < 2 ^ 31 := enc_lt31 hb hb2 (okd_drop h j) (by simp; omega)
theorem enc_dropE {b : Nat} {ds : List Nat} {j : Nat} (h : ds.length ≤ j) : enc b (ds.drop j) = 0 := by rw [List.drop_eq_nil_of_le h]; rfl
theorem enc_dropP {b : Nat} (hb : 27 ≤ b) {ds : List Nat} (h : okd ds) : ∀ j, enc b ds / b ^ j = enc b (ds.drop j)
  | 0 => by simp
  | j + 1 => by
    rw [Nat.pow_succ, ← Nat.div_div_eq_div_mul, enc_dropP hb h j]
    by_cases hj : j < ds.length
    · exact (enc_dropS hb h hj).1
    · rw [enc_dropE (by omega), enc_dropE (by omega)]; simp
theorem pk_rem27 {n : Nat} (h : n < 2 ^ 31) : nI n - nI n / 27 * 27 = nI (n % 27) := pk_rem (d := 27) h (by decide) (by decide)
theorem nI_pr {m : Nat} (h : 0 < m) : nI m - 1 = nI (m - 1) := by
  obtain ⟨k, rfl⟩ : ∃ k, m = k + 1 := ⟨m - 1, by omega⟩
  exact nI_pred k
theorem nI_pr2 (m : Nat) : nI m - 1 + -1 = nI m - 2 := by
  rw [Int32.sub_eq_add_neg, Int32.sub_eq_add_neg, Int32.add_assoc]
  rfl
set_option maxRecDepth 100000 in
set_option maxHeartbeats 4000000 in
theorem ct_letterOf (G : wG) (M : wMem) (ds : List Nat) (p : Nat) (h : okd ds) (hl : ds.length ≤ 6) (hp : p < 2 ^ 31) : CT G 91 0 0 [.int (nI (enc 27 ds)), .int (nI p)] M (fun o M' => o = some (.int (lAt ds p)) ∧ M' = M) := by
  have hC : isC 27 (nI (enc 27 ds)) := ⟨ds, hl, h, rfl⟩
  have hD : dlc 27 (nI (enc 27 ds)) = ds := dlc_enc (by decide) (by decide) h hl
  refine CT.intro wm_91 mo_91 (by decide +kernel) false (by simp) (Nat.le_of_ble_eq_true rfl) ?_
  have loop : ∀ j, j ≤ ds.length - 1 - p → wp G 8 false (some .int) 1 0 0 cX8_letterOf (fun o M' => o = some (.int (lAt ds p)) ∧ M' = M) 9 [some (.int (nI (enc 27 ds))), some (.int (nI p)), some (.int (nI (enc 27 (ds.drop j)))), some (.int (nI (ds.length - j) - 1))] [] M 0 0 := by
    refine loopD ?_ (fun j hj ih => ?_)
    · by_cases hpl : p < ds.length
      · have e1 : nI (ds.length - (ds.length - 1 - p)) - 1 = nI p := by rw [nI_pr (by omega)]; congr 1; omega
        have e2 : nI ds.length - 1 = nI (ds.length - 1) := nI_pr (by omega)
        have e3 : (nI p < nI p) = False := eq_false (nI_nlt (Nat.le_refl _) hp)
        have e4 : (nI (ds.length - 1) < nI p) = False := eq_false (nI_nlt (by omega) (by omega))
        have e5 : (nI p < 0) = False := eq_false (nI_pos hp)
        have e6 := enc_dropS (b := 27) (by decide) h (show ds.length - 1 - p < ds.length by omega)
        rw [e1]
        refine wGoC (pf_lettersOf_ok G) 60 [] [9] (fun C c0 c1 c2 c3 c4 c5 c6 c7 c8 c9 c10 c11 c12 => ?_)
        simp (config := {maxSteps := 10000000}) only [i1_0, nn_t, nn_f, im_t, im_f, nn_n, xR_s, xR_z, c0, c1, c2, c3, c4, c5, c6, c7, c8, c9, c10, c11, c12, iPuI_e, iPuR_e, iPuL_e, iStoI_e, iStoR_e, iInc_e, iAdd_e, iSub_e, iMul_e, iAnd_e, iOr_e, iShl_e, iUshr_e, iDiv_e, iRem_e, iLushr_e, iLshl_e, iLand_e, iLor_e, iLcmp_e, iI2l_e, iL2i_e, iI2c_e, iDup_e, iDup2_e, iIf_e, iIfc_e, iSwA, iSw_e, iGetf_r, iGetf_i, iGetf_z, iPutf_i, iPutf_z, iPutf_rt, iPutf_rf, iGets_e, iLdc_e, iAl_e, iAl2_e, iAlr_e, iAq_e, iAq2_e, iAsI_e, iAsZ_e, iAsC_e, iAs2_e, iAt_e, iAt2_e, iLen_e, iNew_e, iNwa_e, iNwq_e, iPop, iCl2_s, iCl2_n, iIv2_e, iIv_e, iIv_c, iIs2_e, iIs_e, iIs_n, iIs_max, iIs_min, iIs_cop, iCp2_e, iIp2_e, iIp_o, iIp_2, iIp_3, iRet_i, iRet_z, iRtv_e, xE_iconst, xE_bipush, xE_sipush, xE_lconst, xE_ldc2_w, xE_iload_n, xE_iload, xE_lload_n, xE_aload_n, xE_aload, xE_istore_n, xE_istore, xE_astore_n, xE_astore, xE_iinc, xE_iadd, xE_isub, xE_imul, xE_idiv, xE_irem, xE_iand, xE_ior, xE_ishl, xE_iushr, xE_lushr, xE_lshl, xE_land, xE_lor, xE_lcmp, xE_i2l, xE_l2i, xE_i2c, xE_dup, xE_dup2, xE_ifCond, xE_if_icmp, xE_goto, xE_getfield, xE_putfield, xE_getstatic, xE_baload, xE_caload, xE_iaload, xE_aaload, xE_iastore, xE_bastore, xE_castore, xE_aastore, xE_arraylength, xE_new, xE_newarray_int, xE_newarray_boolean, xE_newarray_char, xE_anewarray, xE_checkcast, xE_invokevirtual, xE_invokestatic, xE_invokespecial, xE_ireturn, xE_return_, xE_tableswitch, eCl, eKd, wCnd, pf0, wArgs, lg_n, lg_0, lg_s, wNl_n, wNl_i, wNl_r, wCat_n, wCat_i, wCat_r, wCat_l, cInt, cRef, cLong, fv0, fv1, fv2, fv3, fw0, fw1, oi_m1, oi_0, oi_1, oi_2, oi_3, oi_4, oi_5, wRf, wLn_n, wLn_c, List.length_cons, List.length_nil, List.replicate, List.set_cons_zero, List.set_cons_succ, List.cons_append, List.nil_append, List.mem_cons, List.not_mem_nil, if_true, if_false, ↓reduceIte, true_and, and_true, or_true, true_or, or_false, false_or, Option.toList, Nat.reduceAdd, Nat.reduceSub, Nat.reduceLT, Nat.reduceLeDiff, Nat.reduceEqDiff, Nat.le_refl, eq_self, Nat.zero_le, Int.cast_ofNat_Int, Int.reduceSub, Int.reduceAdd, Int.reduceLE, Int.reduceToNat, Int.reduceNeg, i_leF, dX8_letterOf_0, dX8_letterOf_1, dX8_letterOf_2, dX8_letterOf_3, co_8_44, dX8_letterOf_6, dX8_letterOf_7, dX8_letterOf_8, dX8_letterOf_9, dX8_letterOf_10, dX8_letterOf_11, dX8_letterOf_14, dX8_letterOf_15, bp_27, dX8_letterOf_17, dX8_letterOf_18, dX8_letterOf_19, dX8_letterOf_22, dX8_letterOf_25, dX8_letterOf_26, dX8_letterOf_27, dX8_letterOf_28, dX8_letterOf_31, dX8_letterOf_32, dX8_letterOf_33, co_8_33, dX8_letterOf_36, dX8_letterOf_39, bp_96, dX8_letterOf_41, dX8_letterOf_42, dX8_letterOf_44, dX8_letterOf_45, dX8_letterOf_46, dX8_letterOf_49, bp_m6, dX8_letterOf_51, pfA, pf1, pf_leading, s_leading, pf_weightOf, s_weightOf, pf_mleadOf, s_mleadOf, pf_find, s_find, pf_answersTo, s_answersTo, pf_entryOf, s_entryOf, pf_isWord, s_isWord, pf_isKind, s_isKind, pf_due, s_due, pf_isAgreed, s_isAgreed, pf_becomes, s_becomes, pf_lacks, s_lacks, pf_placeOf, s_placeOf, pf_placeOfSolver, s_placeOfSolver, pf_mallTrust, s_mallTrust, pf_wordsOf, s_wordsOf, pf_lettersOf, s_lettersOf, hC, hD, lMany, e2, e3, e4, e5, b2i_T, b2i_F, pk_rem27 (enc_dropL (b := 27) (by decide) (by decide) h hl (ds.length - 1 - p)), e6.2.1, nI_1, i_a0, at_00, of_00, os_00, atx_1, aty_1, aty_2, aty_3, ofx_1, ofy_1, ofy_2, ofy_3, ofy_4, ofy_5, osx_1, osy_1, osy_2, osy_3, vi_0, vc_0, vi_1, vc_1, vi_2, vc_2, vi_3, vc_3, vi_4, vc_4, vi_5, vc_5, vi_6, vc_6, vi_7, vc_7, vi_8, vc_8, vi_9, vc_9, vi_10, vc_10, vi_11, vc_11]
        refine ⟨by decide, ?_⟩
        unfold lAt
        rw [if_pos hpl, ← nI_add]
        rfl
      · have e0 : ds.length - 1 - p = 0 := by omega
        rw [e0]
        simp only [Nat.sub_zero, List.drop_zero]
        have e3 : (nI p < nI ds.length - 1) = False := by
          refine eq_false (fun q => ?_)
          by_cases hz : ds.length = 0
          · rw [hz] at q
            exact nI_pos hp (Int32.lt_trans q (by decide))
          · rw [nI_pr (by omega)] at q
            exact nI_nlt (by omega) hp q
        have e4 : (nI ds.length - 1 < nI p) = True := by
          refine eq_true ?_
          by_cases hz : ds.length = 0
          · rw [hz]
            exact Int32.lt_of_lt_of_le (show nI 0 - 1 < 0 by decide) (nI_pos' hp)
          · rw [nI_pr (by omega)]
            exact nI_lt (by omega) hp
        refine wGoC (pf_lettersOf_ok G) 60 [] [9] (fun C c0 c1 c2 c3 c4 c5 c6 c7 c8 c9 c10 c11 c12 => ?_)
        simp (config := {maxSteps := 10000000}) only [i1_0, nn_t, nn_f, im_t, im_f, nn_n, xR_s, xR_z, c0, c1, c2, c3, c4, c5, c6, c7, c8, c9, c10, c11, c12, iPuI_e, iPuR_e, iPuL_e, iStoI_e, iStoR_e, iInc_e, iAdd_e, iSub_e, iMul_e, iAnd_e, iOr_e, iShl_e, iUshr_e, iDiv_e, iRem_e, iLushr_e, iLshl_e, iLand_e, iLor_e, iLcmp_e, iI2l_e, iL2i_e, iI2c_e, iDup_e, iDup2_e, iIf_e, iIfc_e, iSwA, iSw_e, iGetf_r, iGetf_i, iGetf_z, iPutf_i, iPutf_z, iPutf_rt, iPutf_rf, iGets_e, iLdc_e, iAl_e, iAl2_e, iAlr_e, iAq_e, iAq2_e, iAsI_e, iAsZ_e, iAsC_e, iAs2_e, iAt_e, iAt2_e, iLen_e, iNew_e, iNwa_e, iNwq_e, iPop, iCl2_s, iCl2_n, iIv2_e, iIv_e, iIv_c, iIs2_e, iIs_e, iIs_n, iIs_max, iIs_min, iIs_cop, iCp2_e, iIp2_e, iIp_o, iIp_2, iIp_3, iRet_i, iRet_z, iRtv_e, xE_iconst, xE_bipush, xE_sipush, xE_lconst, xE_ldc2_w, xE_iload_n, xE_iload, xE_lload_n, xE_aload_n, xE_aload, xE_istore_n, xE_istore, xE_astore_n, xE_astore, xE_iinc, xE_iadd, xE_isub, xE_imul, xE_idiv, xE_irem, xE_iand, xE_ior, xE_ishl, xE_iushr, xE_lushr, xE_lshl, xE_land, xE_lor, xE_lcmp, xE_i2l, xE_l2i, xE_i2c, xE_dup, xE_dup2, xE_ifCond, xE_if_icmp, xE_goto, xE_getfield, xE_putfield, xE_getstatic, xE_baload, xE_caload, xE_iaload, xE_aaload, xE_iastore, xE_bastore, xE_castore, xE_aastore, xE_arraylength, xE_new, xE_newarray_int, xE_newarray_boolean, xE_newarray_char, xE_anewarray, xE_checkcast, xE_invokevirtual, xE_invokestatic, xE_invokespecial, xE_ireturn, xE_return_, xE_tableswitch, eCl, eKd, wCnd, pf0, wArgs, lg_n, lg_0, lg_s, wNl_n, wNl_i, wNl_r, wCat_n, wCat_i, wCat_r, wCat_l, cInt, cRef, cLong, fv0, fv1, fv2, fv3, fw0, fw1, oi_m1, oi_0, oi_1, oi_2, oi_3, oi_4, oi_5, wRf, wLn_n, wLn_c, List.length_cons, List.length_nil, List.replicate, List.set_cons_zero, List.set_cons_succ, List.cons_append, List.nil_append, List.mem_cons, List.not_mem_nil, if_true, if_false, ↓reduceIte, true_and, and_true, or_true, true_or, or_false, false_or, Option.toList, Nat.reduceAdd, Nat.reduceSub, Nat.reduceLT, Nat.reduceLeDiff, Nat.reduceEqDiff, Nat.le_refl, eq_self, Nat.zero_le, Int.cast_ofNat_Int, Int.reduceSub, Int.reduceAdd, Int.reduceLE, Int.reduceToNat, Int.reduceNeg, i_leF, dX8_letterOf_0, dX8_letterOf_1, dX8_letterOf_2, dX8_letterOf_3, co_8_44, dX8_letterOf_6, dX8_letterOf_7, dX8_letterOf_8, dX8_letterOf_9, dX8_letterOf_10, dX8_letterOf_11, dX8_letterOf_14, dX8_letterOf_15, bp_27, dX8_letterOf_17, dX8_letterOf_18, dX8_letterOf_19, dX8_letterOf_22, dX8_letterOf_25, dX8_letterOf_26, dX8_letterOf_27, dX8_letterOf_28, dX8_letterOf_31, dX8_letterOf_32, dX8_letterOf_33, co_8_33, dX8_letterOf_36, dX8_letterOf_39, bp_96, dX8_letterOf_41, dX8_letterOf_42, dX8_letterOf_44, dX8_letterOf_45, dX8_letterOf_46, dX8_letterOf_49, bp_m6, dX8_letterOf_51, pfA, pf1, pf_leading, s_leading, pf_weightOf, s_weightOf, pf_mleadOf, s_mleadOf, pf_find, s_find, pf_answersTo, s_answersTo, pf_entryOf, s_entryOf, pf_isWord, s_isWord, pf_isKind, s_isKind, pf_due, s_due, pf_isAgreed, s_isAgreed, pf_becomes, s_becomes, pf_lacks, s_lacks, pf_placeOf, s_placeOf, pf_placeOfSolver, s_placeOfSolver, pf_mallTrust, s_mallTrust, pf_wordsOf, s_wordsOf, pf_lettersOf, s_lettersOf, hC, hD, lMany, e3, e4, b2i_T, b2i_F, and_false, not_false_eq_true, nI_1, i_a0, at_00, of_00, os_00, atx_1, aty_1, aty_2, aty_3, ofx_1, ofy_1, ofy_2, ofy_3, ofy_4, ofy_5, osx_1, osy_1, osy_2, osy_3, vi_0, vc_0, vi_1, vc_1, vi_2, vc_2, vi_3, vc_3, vi_4, vc_4, vi_5, vc_5, vi_6, vc_6, vi_7, vc_7, vi_8, vc_8, vi_9, vc_9, vi_10, vc_10, vi_11, vc_11]
        unfold lAt
        rw [if_neg hpl]
        try rfl
    · have e1 : nI (ds.length - j) - 1 = nI (ds.length - j - 1) := nI_pr (by omega)
      have e3 : (nI p < nI (ds.length - j - 1)) = True := eq_true (nI_lt (by omega) (by omega))
      have e6 := enc_dropS (b := 27) (by decide) h (show j < ds.length by omega)
      have e7 : nI (ds.length - j - 1) + -1 = nI (ds.length - (j + 1)) - 1 := by rw [← e1, show ds.length - (j + 1) = ds.length - j - 1 by omega, ← e1, ← Int32.sub_eq_add_neg]
      rw [e1]
      refine wGoC (pf_lettersOf_ok G) 60 [] [9] (fun C c0 c1 c2 c3 c4 c5 c6 c7 c8 c9 c10 c11 c12 => ?_)
      simp (config := {maxSteps := 10000000}) only [i1_0, nn_t, nn_f, im_t, im_f, nn_n, xR_s, xR_z, c0, c1, c2, c3, c4, c5, c6, c7, c8, c9, c10, c11, c12, iPuI_e, iPuR_e, iPuL_e, iStoI_e, iStoR_e, iInc_e, iAdd_e, iSub_e, iMul_e, iAnd_e, iOr_e, iShl_e, iUshr_e, iDiv_e, iRem_e, iLushr_e, iLshl_e, iLand_e, iLor_e, iLcmp_e, iI2l_e, iL2i_e, iI2c_e, iDup_e, iDup2_e, iIf_e, iIfc_e, iSwA, iSw_e, iGetf_r, iGetf_i, iGetf_z, iPutf_i, iPutf_z, iPutf_rt, iPutf_rf, iGets_e, iLdc_e, iAl_e, iAl2_e, iAlr_e, iAq_e, iAq2_e, iAsI_e, iAsZ_e, iAsC_e, iAs2_e, iAt_e, iAt2_e, iLen_e, iNew_e, iNwa_e, iNwq_e, iPop, iCl2_s, iCl2_n, iIv2_e, iIv_e, iIv_c, iIs2_e, iIs_e, iIs_n, iIs_max, iIs_min, iIs_cop, iCp2_e, iIp2_e, iIp_o, iIp_2, iIp_3, iRet_i, iRet_z, iRtv_e, xE_iconst, xE_bipush, xE_sipush, xE_lconst, xE_ldc2_w, xE_iload_n, xE_iload, xE_lload_n, xE_aload_n, xE_aload, xE_istore_n, xE_istore, xE_astore_n, xE_astore, xE_iinc, xE_iadd, xE_isub, xE_imul, xE_idiv, xE_irem, xE_iand, xE_ior, xE_ishl, xE_iushr, xE_lushr, xE_lshl, xE_land, xE_lor, xE_lcmp, xE_i2l, xE_l2i, xE_i2c, xE_dup, xE_dup2, xE_ifCond, xE_if_icmp, xE_goto, xE_getfield, xE_putfield, xE_getstatic, xE_baload, xE_caload, xE_iaload, xE_aaload, xE_iastore, xE_bastore, xE_castore, xE_aastore, xE_arraylength, xE_new, xE_newarray_int, xE_newarray_boolean, xE_newarray_char, xE_anewarray, xE_checkcast, xE_invokevirtual, xE_invokestatic, xE_invokespecial, xE_ireturn, xE_return_, xE_tableswitch, eCl, eKd, wCnd, pf0, wArgs, lg_n, lg_0, lg_s, wNl_n, wNl_i, wNl_r, wCat_n, wCat_i, wCat_r, wCat_l, cInt, cRef, cLong, fv0, fv1, fv2, fv3, fw0, fw1, oi_m1, oi_0, oi_1, oi_2, oi_3, oi_4, oi_5, wRf, wLn_n, wLn_c, List.length_cons, List.length_nil, List.replicate, List.set_cons_zero, List.set_cons_succ, List.cons_append, List.nil_append, List.mem_cons, List.not_mem_nil, if_true, if_false, ↓reduceIte, true_and, and_true, or_true, true_or, or_false, false_or, Option.toList, Nat.reduceAdd, Nat.reduceSub, Nat.reduceLT, Nat.reduceLeDiff, Nat.reduceEqDiff, Nat.le_refl, eq_self, Nat.zero_le, Int.cast_ofNat_Int, Int.reduceSub, Int.reduceAdd, Int.reduceLE, Int.reduceToNat, Int.reduceNeg, i_leF, dX8_letterOf_0, dX8_letterOf_1, dX8_letterOf_2, dX8_letterOf_3, co_8_44, dX8_letterOf_6, dX8_letterOf_7, dX8_letterOf_8, dX8_letterOf_9, dX8_letterOf_10, dX8_letterOf_11, dX8_letterOf_14, dX8_letterOf_15, bp_27, dX8_letterOf_17, dX8_letterOf_18, dX8_letterOf_19, dX8_letterOf_22, dX8_letterOf_25, dX8_letterOf_26, dX8_letterOf_27, dX8_letterOf_28, dX8_letterOf_31, dX8_letterOf_32, dX8_letterOf_33, co_8_33, dX8_letterOf_36, dX8_letterOf_39, bp_96, dX8_letterOf_41, dX8_letterOf_42, dX8_letterOf_44, dX8_letterOf_45, dX8_letterOf_46, dX8_letterOf_49, bp_m6, dX8_letterOf_51, pfA, pf1, pf_leading, s_leading, pf_weightOf, s_weightOf, pf_mleadOf, s_mleadOf, pf_find, s_find, pf_answersTo, s_answersTo, pf_entryOf, s_entryOf, pf_isWord, s_isWord, pf_isKind, s_isKind, pf_due, s_due, pf_isAgreed, s_isAgreed, pf_becomes, s_becomes, pf_lacks, s_lacks, pf_placeOf, s_placeOf, pf_placeOfSolver, s_placeOfSolver, pf_mallTrust, s_mallTrust, pf_wordsOf, s_wordsOf, pf_lettersOf, s_lettersOf, hC, hD, lMany, e3, e7, pk_div27 (enc_dropL (b := 27) (by decide) (by decide) h hl j), e6.1, nI_1, i_a0, at_00, of_00, os_00, atx_1, aty_1, aty_2, aty_3, ofx_1, ofy_1, ofy_2, ofy_3, ofy_4, ofy_5, osx_1, osy_1, osy_2, osy_3, vi_0, vc_0, vi_1, vc_1, vi_2, vc_2, vi_3, vc_3, vi_4, vc_4, vi_5, vc_5, vi_6, vc_6, vi_7, vc_7, vi_8, vc_8, vi_9, vc_9, vi_10, vc_10, vi_11, vc_11]
      exact ⟨by decide, ih⟩
  refine wGoC (pf_lettersOf_ok G) 60 [] [9] (fun C c0 c1 c2 c3 c4 c5 c6 c7 c8 c9 c10 c11 c12 => ?_)
  simp (config := {maxSteps := 10000000}) only [i1_0, nn_t, nn_f, im_t, im_f, nn_n, xR_s, xR_z, c0, c1, c2, c3, c4, c5, c6, c7, c8, c9, c10, c11, c12, iPuI_e, iPuR_e, iPuL_e, iStoI_e, iStoR_e, iInc_e, iAdd_e, iSub_e, iMul_e, iAnd_e, iOr_e, iShl_e, iUshr_e, iDiv_e, iRem_e, iLushr_e, iLshl_e, iLand_e, iLor_e, iLcmp_e, iI2l_e, iL2i_e, iI2c_e, iDup_e, iDup2_e, iIf_e, iIfc_e, iSwA, iSw_e, iGetf_r, iGetf_i, iGetf_z, iPutf_i, iPutf_z, iPutf_rt, iPutf_rf, iGets_e, iLdc_e, iAl_e, iAl2_e, iAlr_e, iAq_e, iAq2_e, iAsI_e, iAsZ_e, iAsC_e, iAs2_e, iAt_e, iAt2_e, iLen_e, iNew_e, iNwa_e, iNwq_e, iPop, iCl2_s, iCl2_n, iIv2_e, iIv_e, iIv_c, iIs2_e, iIs_e, iIs_n, iIs_max, iIs_min, iIs_cop, iCp2_e, iIp2_e, iIp_o, iIp_2, iIp_3, iRet_i, iRet_z, iRtv_e, xE_iconst, xE_bipush, xE_sipush, xE_lconst, xE_ldc2_w, xE_iload_n, xE_iload, xE_lload_n, xE_aload_n, xE_aload, xE_istore_n, xE_istore, xE_astore_n, xE_astore, xE_iinc, xE_iadd, xE_isub, xE_imul, xE_idiv, xE_irem, xE_iand, xE_ior, xE_ishl, xE_iushr, xE_lushr, xE_lshl, xE_land, xE_lor, xE_lcmp, xE_i2l, xE_l2i, xE_i2c, xE_dup, xE_dup2, xE_ifCond, xE_if_icmp, xE_goto, xE_getfield, xE_putfield, xE_getstatic, xE_baload, xE_caload, xE_iaload, xE_aaload, xE_iastore, xE_bastore, xE_castore, xE_aastore, xE_arraylength, xE_new, xE_newarray_int, xE_newarray_boolean, xE_newarray_char, xE_anewarray, xE_checkcast, xE_invokevirtual, xE_invokestatic, xE_invokespecial, xE_ireturn, xE_return_, xE_tableswitch, eCl, eKd, wCnd, pf0, wArgs, lg_n, lg_0, lg_s, wNl_n, wNl_i, wNl_r, wCat_n, wCat_i, wCat_r, wCat_l, cInt, cRef, cLong, fv0, fv1, fv2, fv3, fw0, fw1, oi_m1, oi_0, oi_1, oi_2, oi_3, oi_4, oi_5, wRf, wLn_n, wLn_c, List.length_cons, List.length_nil, List.replicate, List.set_cons_zero, List.set_cons_succ, List.cons_append, List.nil_append, List.mem_cons, List.not_mem_nil, if_true, if_false, ↓reduceIte, true_and, and_true, or_true, true_or, or_false, false_or, Option.toList, Nat.reduceAdd, Nat.reduceSub, Nat.reduceLT, Nat.reduceLeDiff, Nat.reduceEqDiff, Nat.le_refl, eq_self, Nat.zero_le, Int.cast_ofNat_Int, Int.reduceSub, Int.reduceAdd, Int.reduceLE, Int.reduceToNat, Int.reduceNeg, i_leF, dX8_letterOf_0, dX8_letterOf_1, dX8_letterOf_2, dX8_letterOf_3, co_8_44, dX8_letterOf_6, dX8_letterOf_7, dX8_letterOf_8, dX8_letterOf_9, dX8_letterOf_10, dX8_letterOf_11, dX8_letterOf_14, dX8_letterOf_15, bp_27, dX8_letterOf_17, dX8_letterOf_18, dX8_letterOf_19, dX8_letterOf_22, dX8_letterOf_25, dX8_letterOf_26, dX8_letterOf_27, dX8_letterOf_28, dX8_letterOf_31, dX8_letterOf_32, dX8_letterOf_33, co_8_33, dX8_letterOf_36, dX8_letterOf_39, bp_96, dX8_letterOf_41, dX8_letterOf_42, dX8_letterOf_44, dX8_letterOf_45, dX8_letterOf_46, dX8_letterOf_49, bp_m6, dX8_letterOf_51, pfA, pf1, pf_leading, s_leading, pf_weightOf, s_weightOf, pf_mleadOf, s_mleadOf, pf_find, s_find, pf_answersTo, s_answersTo, pf_entryOf, s_entryOf, pf_isWord, s_isWord, pf_isKind, s_isKind, pf_due, s_due, pf_isAgreed, s_isAgreed, pf_becomes, s_becomes, pf_lacks, s_lacks, pf_placeOf, s_placeOf, pf_placeOfSolver, s_placeOfSolver, pf_mallTrust, s_mallTrust, pf_wordsOf, s_wordsOf, pf_lettersOf, s_lettersOf, hC, hD, lMany, nI_1, i_a0, at_00, of_00, os_00, atx_1, aty_1, aty_2, aty_3, ofx_1, ofy_1, ofy_2, ofy_3, ofy_4, ofy_5, osx_1, osy_1, osy_2, osy_3, vi_0, vc_0, vi_1, vc_1, vi_2, vc_2, vi_3, vc_3, vi_4, vc_4, vi_5, vc_5, vi_6, vc_6, vi_7, vc_7, vi_8, vc_8, vi_9, vc_9, vi_10, vc_10, vi_11, vc_11]
  exact loop 0 (by omega)
theorem ct_letterOfC (G : wG) (M : wMem) (c p : Int32) (h : isC 27 c) (hp : isIx p 2147483648) : CT G 91 0 0 [.int c, .int p] M (fun o M' => o = some (.int (lAt (dlc 27 c) p.toNatClampNeg)) ∧ M' = M) := by
  obtain ⟨ds, h1, h2, rfl⟩ := h
  obtain ⟨k, hk, rfl⟩ := isIx_k hp
  rw [dlc_enc (by decide) (by decide) h2 h1, nI_clamp hk]
  exact ct_letterOf G M ds k h2 h1 hk
def s_letterOf : List Value → wMem → Option (Prop × Option Value × wMem) := fun As M => match As with | [.int c, .int p] => some (isC 27 c ∧ isIx p 2147483648, some (.int (lAt (dlc 27 c) p.toNatClampNeg)), M) | _ => none
def pf_letterOf : wPft := pfA 91 s_letterOf pf_lettersOf
theorem pf_letterOf_ok (G : wG) : wPfOk G pf_letterOf := by
  refine pfA_ok (fun As M g o M2 h hg => ?_) (pf_lettersOf_ok G)
  unfold s_letterOf at h
  split at h
  · cases h; exact ct_letterOfC G M _ _ hg.1 hg.2
  · cases h

