/-! how many, and the first -/
def cntP (p : Nat → Bool) : Nat → Nat
  | 0 => 0
  | k + 1 => cntP p k + (if p k = true then 1 else 0)
def fstP (p : Nat → Bool) : Nat → Option Nat
  | 0 => none
  | k + 1 => match fstP p k with
    | some j => some j
    | none => if p k = true then some k else none
theorem cntP_le (p : Nat → Bool) : ∀ n, cntP p n ≤ n
  | 0 => Nat.le_refl 0
  | n + 1 => by
    have := cntP_le p n
    simp only [cntP]
    split <;> omega
theorem fstP_some {p : Nat → Bool} : ∀ {n j : Nat}, fstP p n = some j → j < n ∧ p j = true ∧ ∀ i, i < j → p i = false
  | 0, j, h => by cases h
  | n + 1, j, h => by
    simp only [fstP] at h
    cases e : fstP p n with
    | some i =>
      rw [e] at h
      cases h
      have := fstP_some e
      exact ⟨by omega, this.2⟩
    | none =>
      rw [e] at h
      by_cases hp : p n = true
      · rw [if_pos hp] at h
        cases h
        refine ⟨by omega, hp, ?_⟩
        have key : ∀ m, fstP p m = none → ∀ i, i < m → p i = false := by
          intro m
          induction m with
          | zero => intro _ i hi; omega
          | succ m ih =>
            intro hm i hi
            simp only [fstP] at hm
            cases e2 : fstP p m with
            | some x => rw [e2] at hm; cases hm
            | none =>
              rw [e2] at hm
              by_cases hpm : p m = true
              · rw [if_pos hpm] at hm; cases hm
              · by_cases him : i = m
                · subst him; simpa using hpm
                · exact ih e2 i (by omega)
        exact key n e
      · rw [if_neg hp] at h
        cases h
theorem fstP_none {p : Nat → Bool} : ∀ {n : Nat}, fstP p n = none ↔ ∀ i, i < n → p i = false
  | 0 => by simp [fstP]
  | n + 1 => by
    simp only [fstP]
    cases e : fstP p n with
    | some j =>
      have h := fstP_some e
      constructor
      · intro q; cases q
      · intro q
        have := q j (by omega)
        rw [h.2.1] at this
        cases this
    | none =>
      have h := fstP_none.mp e
      by_cases hp : p n = true
      · rw [if_pos hp]
        constructor
        · intro q; cases q
        · intro q
          rw [q n (by omega)] at hp
          cases hp
      · rw [if_neg hp]
        refine ⟨fun _ i hi => ?_, fun _ => rfl⟩
        by_cases him : i = n
        · subst him; simpa using hp
        · exact h i (by omega)
/-- the most of the others -/
def othM (f g : Nat → Int32) (w : Int32) (l : Option Nat) : Nat → Int32
  | 0 => 0
  | k + 1 => if f k = w ∧ l ≠ some k then iMax (othM f g w l k) (g k) else othM f g w l k
set_option maxRecDepth 100000 in
set_option maxHeartbeats 4000000 in
theorem ct_unlikeAnswers (G : wG) (M : wMem) (w : Int32) (h : BG M) : CT G 3 0 0 [.ref 10, .int w] M (fun o M' => o = some (.int (nI (cntP (fun k => decide (wI M 11 k = w)) (bN M)))) ∧ M' = M) := by
  obtain ⟨⟨l1, l2, l3, l4, l5, l6, l7, l8, l9⟩, hn, hn2⟩ := h
  refine CT.intro wm_3 mo_3 (by decide +kernel) false (by simp) (Nat.le_of_ble_eq_true rfl) ?_
  have loop : ∀ k, k ≤ bN M → wp G 0 false (some .int) 0 0 0 cX0_unlikeAnswers (fun o M' => o = some (.int (nI (cntP (fun k => decide (wI M 11 k = w)) (bN M)))) ∧ M' = M) 4 [some (.ref 10), some (.int w), some (.int (nI (cntP (fun k => decide (wI M 11 k = w)) k))), some (.int (nI k))] [] M 0 0 := by
    refine loopN (fun k hk ih => ?_)
    have hc : (nI k).toNatClampNeg = k := nI_clamp (by omega)
    have hle : (nI (bN M) ≤ nI k) = (bN M ≤ k) := propext (nI_leI (by omega) (by omega))
    refine wGo (pf1_ok G) 60 [] [4] ?_
    simp (config := {maxSteps := 10000000}) only [i1_0, nn_t, nn_f, im_t, im_f, nn_n, wRun_s, wRun_z, wE_step, iPuI_e, iPuR_e, iPuL_e, iStoI_e, iStoR_e, iInc_e, iAdd_e, iSub_e, iMul_e, iAnd_e, iOr_e, iShl_e, iUshr_e, iDiv_e, iRem_e, iLushr_e, iLshl_e, iLand_e, iLor_e, iLcmp_e, iI2l_e, iL2i_e, iI2c_e, iDup_e, iDup2_e, iIf_e, iIfc_e, iSwA, iSw_e, iGetf_r, iGetf_i, iGetf_z, iPutf_i, iPutf_z, iPutf_rt, iPutf_rf, iGets_e, iLdc_e, iAl_e, iAl2_e, iAlr_e, iAq_e, iAq2_e, iAsI_e, iAsZ_e, iAsC_e, iAs2_e, iAt_e, iAt2_e, iLen_e, iNew_e, iNwa_e, iNwq_e, iPop, iCl2_s, iCl2_n, iIv2_e, iIv_e, iIv_c, iIs2_e, iIs_e, iIs_n, iIs_max, iIs_min, iIs_cop, iCp2_e, iIp2_e, iIp_o, iIp_2, iIp_3, iRet_i, iRet_z, iRtv_e, wE_iconst, wE_bipush, wE_sipush, wE_lconst, wE_ldc2_w, wE_iload_n, wE_iload, wE_lload_n, wE_aload_n, wE_aload, wE_istore_n, wE_istore, wE_astore_n, wE_astore, wE_iinc, wE_iadd, wE_isub, wE_imul, wE_idiv, wE_irem, wE_iand, wE_ior, wE_ishl, wE_iushr, wE_lushr, wE_lshl, wE_land, wE_lor, wE_lcmp, wE_i2l, wE_l2i, wE_i2c, wE_dup, wE_dup2, wE_ifCond, wE_if_icmp, wE_goto, wE_getfield, wE_putfield, wE_getstatic, wE_baload, wE_caload, wE_iaload, wE_aaload, wE_iastore, wE_bastore, wE_castore, wE_aastore, wE_arraylength, wE_new, wE_newarray_int, wE_newarray_boolean, wE_newarray_char, wE_anewarray, wE_checkcast, wE_invokevirtual, wE_invokestatic, wE_invokespecial, wE_ireturn, wE_return_, wE_tableswitch, eCl, eKd, wCnd, pf0, wArgs, lg_n, lg_0, lg_s, wNl_n, wNl_i, wNl_r, wCat_n, wCat_i, wCat_r, wCat_l, cInt, cRef, cLong, fv0, fv1, fv2, fv3, fw0, fw1, oi_m1, oi_0, oi_1, oi_2, oi_3, oi_4, oi_5, wRf, wLn_n, wLn_c, List.length_cons, List.length_nil, List.replicate, List.set_cons_zero, List.set_cons_succ, List.cons_append, List.nil_append, List.mem_cons, List.not_mem_nil, if_true, if_false, ↓reduceIte, true_and, and_true, or_true, true_or, or_false, false_or, Option.toList, Nat.reduceAdd, Nat.reduceSub, Nat.reduceLT, Nat.reduceLeDiff, Nat.reduceEqDiff, Nat.le_refl, eq_self, Nat.zero_le, Int.cast_ofNat_Int, Int.reduceSub, Int.reduceAdd, Int.reduceLE, Int.reduceToNat, Int.reduceNeg, dX0_unlikeAnswers_0, dX0_unlikeAnswers_1, dX0_unlikeAnswers_2, dX0_unlikeAnswers_3, dX0_unlikeAnswers_4, dX0_unlikeAnswers_5, dX0_unlikeAnswers_6, fo_0_24, dX0_unlikeAnswers_9, dX0_unlikeAnswers_12, dX0_unlikeAnswers_13, fo_0_9, dX0_unlikeAnswers_16, dX0_unlikeAnswers_17, dX0_unlikeAnswers_18, dX0_unlikeAnswers_19, dX0_unlikeAnswers_22, dX0_unlikeAnswers_25, dX0_unlikeAnswers_28, dX0_unlikeAnswers_31, dX0_unlikeAnswers_32, l1, l2, l3, l4, l5, l6, l7, l8, l9, hn, nI_1, hc, hle]
    refine ⟨fun h => by rw [show k = bN M by omega], fun h => ⟨vp_in_nI (by omega) (by omega), fun h1 => ?_, fun h1 => ?_⟩⟩
    · have ih := ih (by omega)
      simp only [cntP, decide_eq_true_eq, if_neg h1, Nat.add_zero] at ih
      exact ih
    · have ih := ih (by omega)
      simp only [cntP, decide_eq_true_eq, if_pos (h1)] at ih
      exact ih
  refine wGo (pf1_ok G) 60 [] [4] ?_
  simp (config := {maxSteps := 10000000}) only [i1_0, nn_t, nn_f, im_t, im_f, nn_n, wRun_s, wRun_z, wE_step, iPuI_e, iPuR_e, iPuL_e, iStoI_e, iStoR_e, iInc_e, iAdd_e, iSub_e, iMul_e, iAnd_e, iOr_e, iShl_e, iUshr_e, iDiv_e, iRem_e, iLushr_e, iLshl_e, iLand_e, iLor_e, iLcmp_e, iI2l_e, iL2i_e, iI2c_e, iDup_e, iDup2_e, iIf_e, iIfc_e, iSwA, iSw_e, iGetf_r, iGetf_i, iGetf_z, iPutf_i, iPutf_z, iPutf_rt, iPutf_rf, iGets_e, iLdc_e, iAl_e, iAl2_e, iAlr_e, iAq_e, iAq2_e, iAsI_e, iAsZ_e, iAsC_e, iAs2_e, iAt_e, iAt2_e, iLen_e, iNew_e, iNwa_e, iNwq_e, iPop, iCl2_s, iCl2_n, iIv2_e, iIv_e, iIv_c, iIs2_e, iIs_e, iIs_n, iIs_max, iIs_min, iIs_cop, iCp2_e, iIp2_e, iIp_o, iIp_2, iIp_3, iRet_i, iRet_z, iRtv_e, wE_iconst, wE_bipush, wE_sipush, wE_lconst, wE_ldc2_w, wE_iload_n, wE_iload, wE_lload_n, wE_aload_n, wE_aload, wE_istore_n, wE_istore, wE_astore_n, wE_astore, wE_iinc, wE_iadd, wE_isub, wE_imul, wE_idiv, wE_irem, wE_iand, wE_ior, wE_ishl, wE_iushr, wE_lushr, wE_lshl, wE_land, wE_lor, wE_lcmp, wE_i2l, wE_l2i, wE_i2c, wE_dup, wE_dup2, wE_ifCond, wE_if_icmp, wE_goto, wE_getfield, wE_putfield, wE_getstatic, wE_baload, wE_caload, wE_iaload, wE_aaload, wE_iastore, wE_bastore, wE_castore, wE_aastore, wE_arraylength, wE_new, wE_newarray_int, wE_newarray_boolean, wE_newarray_char, wE_anewarray, wE_checkcast, wE_invokevirtual, wE_invokestatic, wE_invokespecial, wE_ireturn, wE_return_, wE_tableswitch, eCl, eKd, wCnd, pf0, wArgs, lg_n, lg_0, lg_s, wNl_n, wNl_i, wNl_r, wCat_n, wCat_i, wCat_r, wCat_l, cInt, cRef, cLong, fv0, fv1, fv2, fv3, fw0, fw1, oi_m1, oi_0, oi_1, oi_2, oi_3, oi_4, oi_5, wRf, wLn_n, wLn_c, List.length_cons, List.length_nil, List.replicate, List.set_cons_zero, List.set_cons_succ, List.cons_append, List.nil_append, List.mem_cons, List.not_mem_nil, if_true, if_false, ↓reduceIte, true_and, and_true, or_true, true_or, or_false, false_or, Option.toList, Nat.reduceAdd, Nat.reduceSub, Nat.reduceLT, Nat.reduceLeDiff, Nat.reduceEqDiff, Nat.le_refl, eq_self, Nat.zero_le, Int.cast_ofNat_Int, Int.reduceSub, Int.reduceAdd, Int.reduceLE, Int.reduceToNat, Int.reduceNeg, dX0_unlikeAnswers_0, dX0_unlikeAnswers_1, dX0_unlikeAnswers_2, dX0_unlikeAnswers_3, dX0_unlikeAnswers_4, dX0_unlikeAnswers_5, dX0_unlikeAnswers_6, fo_0_24, dX0_unlikeAnswers_9, dX0_unlikeAnswers_12, dX0_unlikeAnswers_13, fo_0_9, dX0_unlikeAnswers_16, dX0_unlikeAnswers_17, dX0_unlikeAnswers_18, dX0_unlikeAnswers_19, dX0_unlikeAnswers_22, dX0_unlikeAnswers_25, dX0_unlikeAnswers_28, dX0_unlikeAnswers_31, dX0_unlikeAnswers_32, l1, l2, l3, l4, l5, l6, l7, l8, l9, hn]
  exact loop 0 (by omega)
set_option maxRecDepth 100000 in
set_option maxHeartbeats 4000000 in
theorem ct_placeOfAnswer (G : wG) (M : wMem) (w a : Int32) (h : BG M) : CT G 2 0 0 [.ref 10, .int w, .int a] M (fun o M' => o = some (.int (oN (fstP (fun k => decide (wI M 11 k = w ∧ nI (cntP (fun k => decide (wI M 11 k = w)) k) = a)) (bN M)) (-1))) ∧ M' = M) := by
  obtain ⟨⟨l1, l2, l3, l4, l5, l6, l7, l8, l9⟩, hn, hn2⟩ := h
  refine CT.intro wm_2 mo_2 (by decide +kernel) false (by simp) (Nat.le_of_ble_eq_true rfl) ?_
  generalize hp : (fun k => decide (wI M 11 k = w ∧ nI (cntP (fun k => decide (wI M 11 k = w)) k) = a)) = p
  have loop : ∀ k, k ≤ bN M → fstP p k = none → wp G 0 false (some .int) 0 0 0 cX0_placeOfAnswer (fun o M' => o = some (.int (oN (fstP p (bN M)) (-1))) ∧ M' = M) 5 [some (.ref 10), some (.int w), some (.int a), some (.int (nI (cntP (fun k => decide (wI M 11 k = w)) k))), some (.int (nI k))] [] M 0 0 := by
    refine loopN (fun k hk ih hnone => ?_)
    have hc : (nI k).toNatClampNeg = k := nI_clamp (by omega)
    have hle : (nI (bN M) ≤ nI k) = (bN M ≤ k) := propext (nI_leI (by omega) (by omega))
    refine wGo (pf1_ok G) 60 [] [5] ?_
    simp (config := {maxSteps := 10000000}) only [i1_0, nn_t, nn_f, im_t, im_f, nn_n, wRun_s, wRun_z, wE_step, iPuI_e, iPuR_e, iPuL_e, iStoI_e, iStoR_e, iInc_e, iAdd_e, iSub_e, iMul_e, iAnd_e, iOr_e, iShl_e, iUshr_e, iDiv_e, iRem_e, iLushr_e, iLshl_e, iLand_e, iLor_e, iLcmp_e, iI2l_e, iL2i_e, iI2c_e, iDup_e, iDup2_e, iIf_e, iIfc_e, iSwA, iSw_e, iGetf_r, iGetf_i, iGetf_z, iPutf_i, iPutf_z, iPutf_rt, iPutf_rf, iGets_e, iLdc_e, iAl_e, iAl2_e, iAlr_e, iAq_e, iAq2_e, iAsI_e, iAsZ_e, iAsC_e, iAs2_e, iAt_e, iAt2_e, iLen_e, iNew_e, iNwa_e, iNwq_e, iPop, iCl2_s, iCl2_n, iIv2_e, iIv_e, iIv_c, iIs2_e, iIs_e, iIs_n, iIs_max, iIs_min, iIs_cop, iCp2_e, iIp2_e, iIp_o, iIp_2, iIp_3, iRet_i, iRet_z, iRtv_e, wE_iconst, wE_bipush, wE_sipush, wE_lconst, wE_ldc2_w, wE_iload_n, wE_iload, wE_lload_n, wE_aload_n, wE_aload, wE_istore_n, wE_istore, wE_astore_n, wE_astore, wE_iinc, wE_iadd, wE_isub, wE_imul, wE_idiv, wE_irem, wE_iand, wE_ior, wE_ishl, wE_iushr, wE_lushr, wE_lshl, wE_land, wE_lor, wE_lcmp, wE_i2l, wE_l2i, wE_i2c, wE_dup, wE_dup2, wE_ifCond, wE_if_icmp, wE_goto, wE_getfield, wE_putfield, wE_getstatic, wE_baload, wE_caload, wE_iaload, wE_aaload, wE_iastore, wE_bastore, wE_castore, wE_aastore, wE_arraylength, wE_new, wE_newarray_int, wE_newarray_boolean, wE_newarray_char, wE_anewarray, wE_checkcast, wE_invokevirtual, wE_invokestatic, wE_invokespecial, wE_ireturn, wE_return_, wE_tableswitch, eCl, eKd, wCnd, pf0, wArgs, lg_n, lg_0, lg_s, wNl_n, wNl_i, wNl_r, wCat_n, wCat_i, wCat_r, wCat_l, cInt, cRef, cLong, fv0, fv1, fv2, fv3, fw0, fw1, oi_m1, oi_0, oi_1, oi_2, oi_3, oi_4, oi_5, wRf, wLn_n, wLn_c, List.length_cons, List.length_nil, List.replicate, List.set_cons_zero, List.set_cons_succ, List.cons_append, List.nil_append, List.mem_cons, List.not_mem_nil, if_true, if_false, ↓reduceIte, true_and, and_true, or_true, true_or, or_false, false_or, Option.toList, Nat.reduceAdd, Nat.reduceSub, Nat.reduceLT, Nat.reduceLeDiff, Nat.reduceEqDiff, Nat.le_refl, eq_self, Nat.zero_le, Int.cast_ofNat_Int, Int.reduceSub, Int.reduceAdd, Int.reduceLE, Int.reduceToNat, Int.reduceNeg, dX0_placeOfAnswer_0, dX0_placeOfAnswer_1, dX0_placeOfAnswer_2, dX0_placeOfAnswer_3, dX0_placeOfAnswer_5, dX0_placeOfAnswer_7, dX0_placeOfAnswer_8, fo_0_24, dX0_placeOfAnswer_11, dX0_placeOfAnswer_14, dX0_placeOfAnswer_15, fo_0_9, dX0_placeOfAnswer_18, dX0_placeOfAnswer_20, dX0_placeOfAnswer_21, dX0_placeOfAnswer_22, dX0_placeOfAnswer_25, dX0_placeOfAnswer_26, dX0_placeOfAnswer_27, dX0_placeOfAnswer_30, dX0_placeOfAnswer_32, dX0_placeOfAnswer_33, dX0_placeOfAnswer_36, dX0_placeOfAnswer_39, dX0_placeOfAnswer_42, dX0_placeOfAnswer_43, l1, l2, l3, l4, l5, l6, l7, l8, l9, hn, nI_1, hc, hle]
    have hpk : p k = decide (wI M 11 k = w ∧ nI (cntP (fun k => decide (wI M 11 k = w)) k) = a) := by rw [← hp]
    refine ⟨fun h => by rw [show bN M = k by omega, hnone]; rfl, fun h => ⟨vp_in_nI (by omega) (by omega), fun h1 => ?_, fun h1 => ⟨fun h2 => ?_, fun h2 => ?_⟩⟩⟩
    · have hs : fstP p (k + 1) = none := by
        simp only [fstP, hnone, hpk, decide_eq_true_eq]
        rw [if_neg (fun q => h1 q.1)]
      have ih := ih (by omega) hs
      simp only [cntP, decide_eq_true_eq, if_neg h1, Nat.add_zero] at ih
      exact ih
    · have h1 := h1
      have hs : fstP p (k + 1) = none := by
        simp only [fstP, hnone, hpk, decide_eq_true_eq]
        rw [if_neg (fun q => h2 q.2)]
      have ih := ih (by omega) hs
      simp only [cntP, decide_eq_true_eq, if_pos h1] at ih
      exact ih
    · have h1 := h1

      have hs : fstP p (k + 1) = some k := by
        simp only [fstP, hnone, hpk, decide_eq_true_eq]
        rw [if_pos ⟨h1, h2⟩]
      have hk1 : ∀ d, fstP p (k + 1 + d) = some k := by
        intro d
        induction d with
        | zero => exact hs
        | succ d ihd => rw [← Nat.add_assoc]; simp only [fstP, ihd]
      have := hk1 (bN M - (k + 1))
      rw [show k + 1 + (bN M - (k + 1)) = bN M by omega] at this
      rw [this]
      rfl
  refine wGo (pf1_ok G) 60 [] [5] ?_
  simp (config := {maxSteps := 10000000}) only [i1_0, nn_t, nn_f, im_t, im_f, nn_n, wRun_s, wRun_z, wE_step, iPuI_e, iPuR_e, iPuL_e, iStoI_e, iStoR_e, iInc_e, iAdd_e, iSub_e, iMul_e, iAnd_e, iOr_e, iShl_e, iUshr_e, iDiv_e, iRem_e, iLushr_e, iLshl_e, iLand_e, iLor_e, iLcmp_e, iI2l_e, iL2i_e, iI2c_e, iDup_e, iDup2_e, iIf_e, iIfc_e, iSwA, iSw_e, iGetf_r, iGetf_i, iGetf_z, iPutf_i, iPutf_z, iPutf_rt, iPutf_rf, iGets_e, iLdc_e, iAl_e, iAl2_e, iAlr_e, iAq_e, iAq2_e, iAsI_e, iAsZ_e, iAsC_e, iAs2_e, iAt_e, iAt2_e, iLen_e, iNew_e, iNwa_e, iNwq_e, iPop, iCl2_s, iCl2_n, iIv2_e, iIv_e, iIv_c, iIs2_e, iIs_e, iIs_n, iIs_max, iIs_min, iIs_cop, iCp2_e, iIp2_e, iIp_o, iIp_2, iIp_3, iRet_i, iRet_z, iRtv_e, wE_iconst, wE_bipush, wE_sipush, wE_lconst, wE_ldc2_w, wE_iload_n, wE_iload, wE_lload_n, wE_aload_n, wE_aload, wE_istore_n, wE_istore, wE_astore_n, wE_astore, wE_iinc, wE_iadd, wE_isub, wE_imul, wE_idiv, wE_irem, wE_iand, wE_ior, wE_ishl, wE_iushr, wE_lushr, wE_lshl, wE_land, wE_lor, wE_lcmp, wE_i2l, wE_l2i, wE_i2c, wE_dup, wE_dup2, wE_ifCond, wE_if_icmp, wE_goto, wE_getfield, wE_putfield, wE_getstatic, wE_baload, wE_caload, wE_iaload, wE_aaload, wE_iastore, wE_bastore, wE_castore, wE_aastore, wE_arraylength, wE_new, wE_newarray_int, wE_newarray_boolean, wE_newarray_char, wE_anewarray, wE_checkcast, wE_invokevirtual, wE_invokestatic, wE_invokespecial, wE_ireturn, wE_return_, wE_tableswitch, eCl, eKd, wCnd, pf0, wArgs, lg_n, lg_0, lg_s, wNl_n, wNl_i, wNl_r, wCat_n, wCat_i, wCat_r, wCat_l, cInt, cRef, cLong, fv0, fv1, fv2, fv3, fw0, fw1, oi_m1, oi_0, oi_1, oi_2, oi_3, oi_4, oi_5, wRf, wLn_n, wLn_c, List.length_cons, List.length_nil, List.replicate, List.set_cons_zero, List.set_cons_succ, List.cons_append, List.nil_append, List.mem_cons, List.not_mem_nil, if_true, if_false, ↓reduceIte, true_and, and_true, or_true, true_or, or_false, false_or, Option.toList, Nat.reduceAdd, Nat.reduceSub, Nat.reduceLT, Nat.reduceLeDiff, Nat.reduceEqDiff, Nat.le_refl, eq_self, Nat.zero_le, Int.cast_ofNat_Int, Int.reduceSub, Int.reduceAdd, Int.reduceLE, Int.reduceToNat, Int.reduceNeg, dX0_placeOfAnswer_0, dX0_placeOfAnswer_1, dX0_placeOfAnswer_2, dX0_placeOfAnswer_3, dX0_placeOfAnswer_5, dX0_placeOfAnswer_7, dX0_placeOfAnswer_8, fo_0_24, dX0_placeOfAnswer_11, dX0_placeOfAnswer_14, dX0_placeOfAnswer_15, fo_0_9, dX0_placeOfAnswer_18, dX0_placeOfAnswer_20, dX0_placeOfAnswer_21, dX0_placeOfAnswer_22, dX0_placeOfAnswer_25, dX0_placeOfAnswer_26, dX0_placeOfAnswer_27, dX0_placeOfAnswer_30, dX0_placeOfAnswer_32, dX0_placeOfAnswer_33, dX0_placeOfAnswer_36, dX0_placeOfAnswer_39, dX0_placeOfAnswer_42, dX0_placeOfAnswer_43, l1, l2, l3, l4, l5, l6, l7, l8, l9, hn]
  exact loop 0 (by omega) rfl
