/-! ===== a vote: what it does to the row, and in the class ===== -/
theorem fst_lst {p : Nat → Bool} : ∀ {n : Nat}, (∀ i j, i < n → j < n → p i = true → p j = true → i = j) → fstP p n = lstP p n
  | 0, _ => rfl
  | n + 1, h => by
    have ih := fst_lst (p := p) (n := n) (fun i j hi hj => h i j (by omega) (by omega))
    simp only [fstP, lstP]
    cases e : fstP p n with
    | none =>
      rw [e] at ih
      simp only
      split
      · rfl
      · exact ih
    | some j =>
      rw [e] at ih
      obtain ⟨h1, h2, -⟩ := fstP_some e
      simp only
      split
      · next hp =>
        have := h j n (by omega) (by omega) h2 hp
        omega
      · exact ih
def voB (v : Nat → Int32) (w c wt : Int32) : Nat → Int32 := up1 (up1 (vo0 v w c) (110 + 4 * voJ v w c) (vo0 v w c (110 + 4 * voJ v w c) + 1)) (111 + 4 * voJ v w c) (vo0 v w c (111 + 4 * voJ v w c) + wt)
theorem vo1_B (v : Nat → Int32) (k : Nat) (c wt sec : Int32) : vo1 v k c wt sec = up1 (up1 (voB v (nI k) c wt) (40 + 6 * k) (v (40 + 6 * k) + 1)) (41 + 6 * k) (v (41 + 6 * k) + sec) := rfl
theorem voB_lo {v : Nat → Int32} {w c wt : Int32} {j : Nat} (h : j < 108) (h2 : j ≠ 11) : voB v w c wt j = v j := by
  unfold voB vo0
  cases voE v w c with
  | none => simp (disch := omega) only [up1_ne]
  | some i => simp (disch := omega) only [up1_ne]
theorem voB_none {v : Nat → Int32} {w c wt : Int32} (hE : voE v w c = none) : voB v w c wt 11 = nI (sN v + 1)
    ∧ (∀ i, eO (voB v w c wt) i = if i = sN v then w else eO v i) ∧ (∀ i, eH (voB v w c wt) i = if i = sN v then c else eH v i) ∧ (∀ i, eM (voB v w c wt) i = if i = sN v then 0 + 1 else eM v i) ∧ (∀ i, eW (voB v w c wt) i = if i = sN v then 0 + wt else eW v i) := by
  unfold voB vo0 voJ
  rw [hE]
  simp only [Option.getD_none]
  generalize sN v = N
  refine ⟨by simp (disch := omega) only [up1_ne, up1_eq], fun i => ?_, fun i => ?_, fun i => ?_, fun i => ?_⟩
  · unfold eO
    by_cases hi : i = N
    · subst hi; rw [if_pos rfl]; simp (disch := omega) only [up1_ne, up1_eq]
    · rw [if_neg hi]; simp (disch := omega) only [up1_ne]
  · unfold eH
    by_cases hi : i = N
    · subst hi; rw [if_pos rfl]; simp (disch := omega) only [up1_ne, up1_eq]
    · rw [if_neg hi]; simp (disch := omega) only [up1_ne]
  · unfold eM
    by_cases hi : i = N
    · subst hi; rw [if_pos rfl]; simp (disch := omega) only [up1_ne, up1_eq]
    · rw [if_neg hi]; simp (disch := omega) only [up1_ne]
  · unfold eW
    by_cases hi : i = N
    · subst hi; rw [if_pos rfl]; simp (disch := omega) only [up1_ne, up1_eq]
    · rw [if_neg hi]; simp (disch := omega) only [up1_ne]
theorem voB_some {v : Nat → Int32} {w c wt : Int32} {j : Nat} (hE : voE v w c = some j) : voB v w c wt 11 = v 11
    ∧ (∀ i, eO (voB v w c wt) i = eO v i) ∧ (∀ i, eH (voB v w c wt) i = eH v i) ∧ (∀ i, eM (voB v w c wt) i = if i = j then eM v j + 1 else eM v i) ∧ (∀ i, eW (voB v w c wt) i = if i = j then eW v j + wt else eW v i) := by
  unfold voB vo0 voJ
  rw [hE]
  simp only [Option.getD_some]
  refine ⟨by simp (disch := omega) only [up1_ne], fun i => ?_, fun i => ?_, fun i => ?_, fun i => ?_⟩
  · unfold eO; simp (disch := omega) only [up1_ne]
  · unfold eH; simp (disch := omega) only [up1_ne]
  · unfold eM
    by_cases hi : i = j
    · subst hi; rw [if_pos rfl]; simp (disch := omega) only [up1_ne, up1_eq]
    · rw [if_neg hi]; simp (disch := omega) only [up1_ne]
  · unfold eW
    by_cases hi : i = j
    · subst hi; rw [if_pos rfl]; simp (disch := omega) only [up1_ne, up1_eq]
    · rw [if_neg hi]; simp (disch := omega) only [up1_ne]
theorem voB_c {v : Nat → Int32} {w c wt : Int32} (h0 : cntOk v) (hN : sN v < 170) : cntOk (voB v w c wt) ∧ nW (voB v w c wt) = nW v ∧ sN (voB v w c wt) = (match voE v w c with | none => sN v + 1 | some _ => sN v) := by
  have eW' : nW (voB v w c wt) = nW v := by unfold nW; rw [voB_lo (by decide) (by decide)]
  have e6 : voB v w c wt 6 = v 6 := voB_lo (by decide) (by decide)
  cases hE : voE v w c with
  | none =>
    have e11 := (voB_none (wt := wt) hE).1
    have eN : sN (voB v w c wt) = sN v + 1 := by
      show (voB v w c wt 11).toNatClampNeg = _
      rw [e11, nI_clamp (by omega)]
    exact ⟨⟨by rw [e6, eW']; exact h0.1, by rw [eW']; exact h0.2.1, by rw [eN, e11], by rw [eN]; omega⟩, eW', eN⟩
  | some j =>
    have e11 := (voB_some (wt := wt) hE).1
    have eN : sN (voB v w c wt) = sN v := by unfold sN; rw [e11]
    exact ⟨⟨by rw [e6, eW']; exact h0.1, by rw [eW']; exact h0.2.1, by rw [eN, e11]; exact h0.2.2.1, by rw [eN]; exact h0.2.2.2⟩, eW', eN⟩
def uniqE (v : Nat → Int32) : Prop := ∀ i j, i < sN v → j < sN v → eO v i = eO v j → eH v i = eH v j → i = j
theorem plc_e {M : wMem} {v : Nat → Int32} (hV : RV 6 M v) (hu : uniqE v) {w c c' : Int32} (hc : LR c c') : fstP (fun k => decide (wI M 11 k = w ∧ wI M 12 k = c)) (bN M) = voE v w c' := by
  unfold voE
  rw [bN_e hV, fstP_c (p' := fun k => decide (eO v k = w ∧ eH v k = c')) (fun k hk => ?_)]
  · refine fst_lst (fun i j hi hj h1 h2 => ?_)
    have h1 := of_decide_eq_true h1
    have h2 := of_decide_eq_true h2
    exact hu i j hi hj (h1.1.trans h2.1.symm) (h1.2.trans h2.2.symm)
  · have he := hV.2.2.2.2.2.2 k hk
    have e1 : wI M 11 k = eO v k := he.1
    have e2 : LR (wI M 12 k) (eH v k) := he.2.1
    simp only [e1, LR_eq e2 hc]
theorem nS_f (M : wMem) (a k : Nat) (x : Int32) : wS (wSetI M a k x) = wS M := funext fun q => wS_setI M a k x q
theorem nP_f (M : wMem) (a k : Nat) (x : Int32) : wP (wSetI M a k x) = wP M := funext fun q => funext fun j => wP_setI M a k x q j
theorem nI_s (M : wMem) (a k : Nat) (x : Int32) (q j : Nat) : wI (wSetI M a k x) q j = if q = a ∧ j = k then x else wI M q j := Eq.trans (wI_setI M a k x q j) (Eq.trans rfl rfl)
theorem nI_o (M : wMem) (a k : Nat) (x : Int32) {q : Nat} (h : q ≠ a) : wI (wSetI M a k x) q = wI M q := funext fun j => by rw [wI_setI, if_neg (fun r => h r.1)]
set_option maxRecDepth 100000 in
set_option maxHeartbeats 4000000 in
theorem ct_cast (G : wG) (M : wMem) (v : Nat → Int32) (hS : SL 6 M) (hV : RV 6 M v) (hu : uniqE v) (w c c' wt : Int32) (hc : LR c c') (hN : sN v < 170) : CT G 8 0 0 [.ref 10, .int w, .int c, .int wt] M (fun o M' => o = some (.int 1) ∧ FRn M M' ∧ wP M' = wP M ∧ SL 6 M' ∧ RV 6 M' (voB v w c' wt)) := by
  obtain ⟨-, -, -, -, -, -, -, -, l1, l2, l3, l4, l5, l6, l7, l8, l9⟩ := SLn hS
  have hn : wI M 10 4 = nI (sN v) := by rw [show wI M 10 4 = v 11 from hV.2.2.2.2.2.1]; exact hV.1.2.2.1
  have hpl := ct_placeOfLetters G M w c (BG_e hS hV)
  rw [plc_e hV hu hc] at hpl
  obtain ⟨q1, q2, q3⟩ := voB_c (w := w) (c := c') (wt := wt) hV.1 hN
  refine CT.intro wm_8 mo_8 (by decide +kernel) false (by simp) (Nat.le_of_ble_eq_true rfl) ?_
  refine wGoC (pf1_ok G) 60 [] [] (fun C c0 c1 c2 c3 c4 c5 c6 c7 c8 c9 c10 c11 c12 => ?_)
  simp (config := {maxSteps := 10000000}) only [i1_0, nn_t, nn_f, im_t, im_f, nn_n, xR_s, xR_z, c0, c1, c2, c3, c4, c5, c6, c7, c8, c9, c10, c11, c12, iPuI_e, iPuR_e, iPuL_e, iStoI_e, iStoR_e, iInc_e, iAdd_e, iSub_e, iMul_e, iAnd_e, iOr_e, iShl_e, iShr_e, iPo_i, iLdi_e, iUshr_e, iDiv_e, iRem_e, iLushr_e, iLshl_e, iLand_e, iLor_e, iLcmp_e, iI2l_e, iL2i_e, iI2c_e, iDup_e, iDup2_e, iIf_e, iIfc_e, iSwA, iSw_e, iGetf_r, iGetf_i, iGetf_z, iPutf_i, iPutf_z, iPutf_rt, iPutf_rf, iGets_e, iLdc_e, iAl_e, iAl2_e, iAlr_e, iAq_e, iAq2_e, iAsI_e, iAsZ_e, iAsC_e, iAs2_e, iAt_e, iAt2_e, iLen_e, iNew_e, iNwa_e, iNwq_e, iPop, iCl2_s, iCl2_n, iIv2_e, iIv_e, iIv_c, iIs2_e, iIs_e, iIs_n, iIs_max, iIs_min, iIs_cop, iCp2_e, iIp2_e, iIp_o, iIp_2, iIp_3, iRet_i, iRet_z, iRtv_e, xE_iconst, xE_bipush, xE_sipush, xE_lconst, xE_ldc2_w, xE_iload_n, xE_iload, xE_lload_n, xE_aload_n, xE_aload, xE_istore_n, xE_istore, xE_astore_n, xE_astore, xE_iinc, xE_iadd, xE_isub, xE_imul, xE_idiv, xE_irem, xE_iand, xE_ior, xE_ishl, xE_ishr, xE_pop, xE_ldc, xE_iushr, xE_lushr, xE_lshl, xE_land, xE_lor, xE_lcmp, xE_i2l, xE_l2i, xE_i2c, xE_dup, xE_dup2, xE_ifCond, xE_if_icmp, xE_goto, xE_getfield, xE_putfield, xE_getstatic, xE_baload, xE_caload, xE_iaload, xE_aaload, xE_iastore, xE_bastore, xE_castore, xE_aastore, xE_arraylength, xE_new, xE_newarray_int, xE_newarray_boolean, xE_newarray_char, xE_anewarray, xE_checkcast, xE_invokevirtual, xE_invokestatic, xE_invokespecial, xE_ireturn, xE_return_, xE_tableswitch, eCl, eKd, wCnd, pf0, wArgs, lg_n, lg_0, lg_s, wNl_n, wNl_i, wNl_r, wCat_n, wCat_i, wCat_r, wCat_l, cInt, cRef, cLong, fv0, fv1, fv2, fv3, fw0, fw1, oi_m1, oi_0, oi_1, oi_2, oi_3, oi_4, oi_5, wRf, wLn_n, wLn_c, List.length_cons, List.length_nil, List.replicate, List.set_cons_zero, List.set_cons_succ, List.cons_append, List.nil_append, List.mem_cons, List.not_mem_nil, if_true, if_false, ↓reduceIte, true_and, and_true, or_true, true_or, or_false, false_or, Option.toList, Nat.reduceAdd, Nat.reduceSub, Nat.reduceLT, Nat.reduceLeDiff, Nat.reduceEqDiff, Nat.le_refl, eq_self, Nat.zero_le, Int.cast_ofNat_Int, Int.reduceSub, Int.reduceAdd, Int.reduceLE, Int.reduceToNat, Int.reduceNeg, Int32.reduceAdd, Int32.reduceSub, Int32.reduceMul, Int32.reduceLT, i_leF, Bool.false_eq_true, Bool.true_eq_false, b2i_T, b2i_F, b2i_0, b2i_01, i_a0, not_false_eq_true, oi_6, oi_7, oi_8, oi_9, oi_10, oi_11, oi_12, oi_13, oi_14, oi_15, oi_16, oi_17, oi_18, oi_19, oi_20, oi_21, dX0_cast_0, dX0_cast_1, dX0_cast_2, dX0_cast_3, co_0_44, dX0_cast_6, dX0_cast_8, dX0_cast_10, dX0_cast_11, dX0_cast_14, dX0_cast_15, fo_0_24, dX0_cast_18, sp_170, dX0_cast_21, dX0_cast_24, dX0_cast_25, dX0_cast_26, dX0_cast_27, dX0_cast_30, dX0_cast_32, dX0_cast_33, dX0_cast_34, dX0_cast_37, dX0_cast_38, dX0_cast_39, dX0_cast_42, dX0_cast_43, fo_0_9, dX0_cast_46, dX0_cast_48, dX0_cast_49, dX0_cast_50, dX0_cast_51, fo_0_15, dX0_cast_54, dX0_cast_56, dX0_cast_57, dX0_cast_58, dX0_cast_59, fo_0_18, dX0_cast_62, dX0_cast_64, dX0_cast_65, dX0_cast_66, dX0_cast_67, fo_0_21, dX0_cast_70, dX0_cast_72, dX0_cast_73, dX0_cast_74, dX0_cast_75, dX0_cast_78, dX0_cast_80, dX0_cast_81, dX0_cast_82, dX0_cast_83, dX0_cast_84, dX0_cast_85, dX0_cast_86, dX0_cast_89, dX0_cast_91, dX0_cast_92, dX0_cast_93, dX0_cast_94, dX0_cast_95, dX0_cast_96, dX0_cast_97, pf1, l1]
  refine CT.mono hpl ?_
  rintro o M' ⟨rfl, rfl⟩
  dsimp only [List.cons_append, List.nil_append]
  cases hE : voE v w c' with
  | none =>
    rw [hE] at q3
    simp only at q3
    obtain ⟨e1, e2, e3, e4, e5⟩ := voB_none (wt := wt) hE
    have hlt : (nI (sN v) < (170 : Int32)) = True := eq_true (nI_lt (b := 170) hN (by omega))
    rw [oN_n]
    generalize hm : sN v = N at *
    refine wGoC (pf1_ok G) 120 [] [] (fun C c0 c1 c2 c3 c4 c5 c6 c7 c8 c9 c10 c11 c12 => ?_)
    simp (config := {maxSteps := 10000000}) only [i1_0, nn_t, nn_f, im_t, im_f, nn_n, xR_s, xR_z, c0, c1, c2, c3, c4, c5, c6, c7, c8, c9, c10, c11, c12, iPuI_e, iPuR_e, iPuL_e, iStoI_e, iStoR_e, iInc_e, iAdd_e, iSub_e, iMul_e, iAnd_e, iOr_e, iShl_e, iShr_e, iPo_i, iLdi_e, iUshr_e, iDiv_e, iRem_e, iLushr_e, iLshl_e, iLand_e, iLor_e, iLcmp_e, iI2l_e, iL2i_e, iI2c_e, iDup_e, iDup2_e, iIf_e, iIfc_e, iSwA, iSw_e, iGetf_r, iGetf_i, iGetf_z, iPutf_i, iPutf_z, iPutf_rt, iPutf_rf, iGets_e, iLdc_e, iAl_e, iAl2_e, iAlr_e, iAq_e, iAq2_e, iAsI_e, iAsZ_e, iAsC_e, iAs2_e, iAt_e, iAt2_e, iLen_e, iNew_e, iNwa_e, iNwq_e, iPop, iCl2_s, iCl2_n, iIv2_e, iIv_e, iIv_c, iIs2_e, iIs_e, iIs_n, iIs_max, iIs_min, iIs_cop, iCp2_e, iIp2_e, iIp_o, iIp_2, iIp_3, iRet_i, iRet_z, iRtv_e, xE_iconst, xE_bipush, xE_sipush, xE_lconst, xE_ldc2_w, xE_iload_n, xE_iload, xE_lload_n, xE_aload_n, xE_aload, xE_istore_n, xE_istore, xE_astore_n, xE_astore, xE_iinc, xE_iadd, xE_isub, xE_imul, xE_idiv, xE_irem, xE_iand, xE_ior, xE_ishl, xE_ishr, xE_pop, xE_ldc, xE_iushr, xE_lushr, xE_lshl, xE_land, xE_lor, xE_lcmp, xE_i2l, xE_l2i, xE_i2c, xE_dup, xE_dup2, xE_ifCond, xE_if_icmp, xE_goto, xE_getfield, xE_putfield, xE_getstatic, xE_baload, xE_caload, xE_iaload, xE_aaload, xE_iastore, xE_bastore, xE_castore, xE_aastore, xE_arraylength, xE_new, xE_newarray_int, xE_newarray_boolean, xE_newarray_char, xE_anewarray, xE_checkcast, xE_invokevirtual, xE_invokestatic, xE_invokespecial, xE_ireturn, xE_return_, xE_tableswitch, eCl, eKd, wCnd, pf0, wArgs, lg_n, lg_0, lg_s, wNl_n, wNl_i, wNl_r, wCat_n, wCat_i, wCat_r, wCat_l, cInt, cRef, cLong, fv0, fv1, fv2, fv3, fw0, fw1, oi_m1, oi_0, oi_1, oi_2, oi_3, oi_4, oi_5, wRf, wLn_n, wLn_c, List.length_cons, List.length_nil, List.replicate, List.set_cons_zero, List.set_cons_succ, List.cons_append, List.nil_append, List.mem_cons, List.not_mem_nil, if_true, if_false, ↓reduceIte, true_and, and_true, or_true, true_or, or_false, false_or, Option.toList, Nat.reduceAdd, Nat.reduceSub, Nat.reduceLT, Nat.reduceLeDiff, Nat.reduceEqDiff, Nat.le_refl, eq_self, Nat.zero_le, Int.cast_ofNat_Int, Int.reduceSub, Int.reduceAdd, Int.reduceLE, Int.reduceToNat, Int.reduceNeg, Int32.reduceAdd, Int32.reduceSub, Int32.reduceMul, Int32.reduceLT, i_leF, Bool.false_eq_true, Bool.true_eq_false, b2i_T, b2i_F, b2i_0, b2i_01, i_a0, not_false_eq_true, oi_6, oi_7, oi_8, oi_9, oi_10, oi_11, oi_12, oi_13, oi_14, oi_15, oi_16, oi_17, oi_18, oi_19, oi_20, oi_21, dX0_cast_0, dX0_cast_1, dX0_cast_2, dX0_cast_3, co_0_44, dX0_cast_6, dX0_cast_8, dX0_cast_10, dX0_cast_11, dX0_cast_14, dX0_cast_15, fo_0_24, dX0_cast_18, sp_170, dX0_cast_21, dX0_cast_24, dX0_cast_25, dX0_cast_26, dX0_cast_27, dX0_cast_30, dX0_cast_32, dX0_cast_33, dX0_cast_34, dX0_cast_37, dX0_cast_38, dX0_cast_39, dX0_cast_42, dX0_cast_43, fo_0_9, dX0_cast_46, dX0_cast_48, dX0_cast_49, dX0_cast_50, dX0_cast_51, fo_0_15, dX0_cast_54, dX0_cast_56, dX0_cast_57, dX0_cast_58, dX0_cast_59, fo_0_18, dX0_cast_62, dX0_cast_64, dX0_cast_65, dX0_cast_66, dX0_cast_67, fo_0_21, dX0_cast_70, dX0_cast_72, dX0_cast_73, dX0_cast_74, dX0_cast_75, dX0_cast_78, dX0_cast_80, dX0_cast_81, dX0_cast_82, dX0_cast_83, dX0_cast_84, dX0_cast_85, dX0_cast_86, dX0_cast_89, dX0_cast_91, dX0_cast_92, dX0_cast_93, dX0_cast_94, dX0_cast_95, dX0_cast_96, dX0_cast_97, pf1, l1, l2, l3, l4, l5, l6, l7, l8, l9, hn, hlt, nI_clamp (show N < 2 ^ 31 by omega), vp_in_nI (show N < 170 by omega) (by decide), iDup_r, iDup2_ir, nI_1s, nS_f, nP_f, nI_s, and_true, and_false, false_and, true_and]
    refine ⟨FRn_s (FRn_s (FRn_s (FRn_s (FRn_s (FRn_s (FRn_s (FRn_r M') (by omega)) (by omega)) (by omega)) (by omega)) (by omega)) (by omega)) (by omega), SL_of hS (by simp only [nS_f]) (fun _ _ _ => by simp only [nP_f]), ?_⟩
    refine RV_bal hS hV (by simp only [nP_f]) (fun q hq => ?_) q1 q2 (fun j h1 h2 => voB_lo h1 h2) ?_ (fun k hk => ?_)
    · simp (disch := omega) only [nI_o]
    · simp only [nI_s]
      rw [e1]
      simp
    · rw [q3] at hk
      unfold RVe
      rw [e2, e3, e4, e5]
      simp only [nI_s, Nat.reduceAdd, Nat.reduceEqDiff, false_and, if_false, true_and]
      by_cases hkN : k = N
      · subst hkN
        simp only [if_true]
        exact ⟨by trivial, hc, by trivial, by trivial⟩
      · simp only [if_neg hkN]
        exact hV.2.2.2.2.2.2 k (by omega)
  | some j =>
    rw [hE] at q3
    simp only at q3
    obtain ⟨e1, e2, e3, e4, e5⟩ := voB_some (wt := wt) hE
    have hj := (lstP_lt hE).1
    have hm1 : (nI j = -1) = False := eq_false (nI_m1 (by omega))
    have hE' := hV.2.2.2.2.2.2 j hj
    have v2 : wI M' 13 j = eM v j := hE'.2.2.1
    have v3 : wI M' 14 j = eW v j := hE'.2.2.2
    rw [oN_s]
    refine wGoC (pf1_ok G) 120 [] [] (fun C c0 c1 c2 c3 c4 c5 c6 c7 c8 c9 c10 c11 c12 => ?_)
    simp (config := {maxSteps := 10000000}) only [i1_0, nn_t, nn_f, im_t, im_f, nn_n, xR_s, xR_z, c0, c1, c2, c3, c4, c5, c6, c7, c8, c9, c10, c11, c12, iPuI_e, iPuR_e, iPuL_e, iStoI_e, iStoR_e, iInc_e, iAdd_e, iSub_e, iMul_e, iAnd_e, iOr_e, iShl_e, iShr_e, iPo_i, iLdi_e, iUshr_e, iDiv_e, iRem_e, iLushr_e, iLshl_e, iLand_e, iLor_e, iLcmp_e, iI2l_e, iL2i_e, iI2c_e, iDup_e, iDup2_e, iIf_e, iIfc_e, iSwA, iSw_e, iGetf_r, iGetf_i, iGetf_z, iPutf_i, iPutf_z, iPutf_rt, iPutf_rf, iGets_e, iLdc_e, iAl_e, iAl2_e, iAlr_e, iAq_e, iAq2_e, iAsI_e, iAsZ_e, iAsC_e, iAs2_e, iAt_e, iAt2_e, iLen_e, iNew_e, iNwa_e, iNwq_e, iPop, iCl2_s, iCl2_n, iIv2_e, iIv_e, iIv_c, iIs2_e, iIs_e, iIs_n, iIs_max, iIs_min, iIs_cop, iCp2_e, iIp2_e, iIp_o, iIp_2, iIp_3, iRet_i, iRet_z, iRtv_e, xE_iconst, xE_bipush, xE_sipush, xE_lconst, xE_ldc2_w, xE_iload_n, xE_iload, xE_lload_n, xE_aload_n, xE_aload, xE_istore_n, xE_istore, xE_astore_n, xE_astore, xE_iinc, xE_iadd, xE_isub, xE_imul, xE_idiv, xE_irem, xE_iand, xE_ior, xE_ishl, xE_ishr, xE_pop, xE_ldc, xE_iushr, xE_lushr, xE_lshl, xE_land, xE_lor, xE_lcmp, xE_i2l, xE_l2i, xE_i2c, xE_dup, xE_dup2, xE_ifCond, xE_if_icmp, xE_goto, xE_getfield, xE_putfield, xE_getstatic, xE_baload, xE_caload, xE_iaload, xE_aaload, xE_iastore, xE_bastore, xE_castore, xE_aastore, xE_arraylength, xE_new, xE_newarray_int, xE_newarray_boolean, xE_newarray_char, xE_anewarray, xE_checkcast, xE_invokevirtual, xE_invokestatic, xE_invokespecial, xE_ireturn, xE_return_, xE_tableswitch, eCl, eKd, wCnd, pf0, wArgs, lg_n, lg_0, lg_s, wNl_n, wNl_i, wNl_r, wCat_n, wCat_i, wCat_r, wCat_l, cInt, cRef, cLong, fv0, fv1, fv2, fv3, fw0, fw1, oi_m1, oi_0, oi_1, oi_2, oi_3, oi_4, oi_5, wRf, wLn_n, wLn_c, List.length_cons, List.length_nil, List.replicate, List.set_cons_zero, List.set_cons_succ, List.cons_append, List.nil_append, List.mem_cons, List.not_mem_nil, if_true, if_false, ↓reduceIte, true_and, and_true, or_true, true_or, or_false, false_or, Option.toList, Nat.reduceAdd, Nat.reduceSub, Nat.reduceLT, Nat.reduceLeDiff, Nat.reduceEqDiff, Nat.le_refl, eq_self, Nat.zero_le, Int.cast_ofNat_Int, Int.reduceSub, Int.reduceAdd, Int.reduceLE, Int.reduceToNat, Int.reduceNeg, Int32.reduceAdd, Int32.reduceSub, Int32.reduceMul, Int32.reduceLT, i_leF, Bool.false_eq_true, Bool.true_eq_false, b2i_T, b2i_F, b2i_0, b2i_01, i_a0, not_false_eq_true, oi_6, oi_7, oi_8, oi_9, oi_10, oi_11, oi_12, oi_13, oi_14, oi_15, oi_16, oi_17, oi_18, oi_19, oi_20, oi_21, dX0_cast_0, dX0_cast_1, dX0_cast_2, dX0_cast_3, co_0_44, dX0_cast_6, dX0_cast_8, dX0_cast_10, dX0_cast_11, dX0_cast_14, dX0_cast_15, fo_0_24, dX0_cast_18, sp_170, dX0_cast_21, dX0_cast_24, dX0_cast_25, dX0_cast_26, dX0_cast_27, dX0_cast_30, dX0_cast_32, dX0_cast_33, dX0_cast_34, dX0_cast_37, dX0_cast_38, dX0_cast_39, dX0_cast_42, dX0_cast_43, fo_0_9, dX0_cast_46, dX0_cast_48, dX0_cast_49, dX0_cast_50, dX0_cast_51, fo_0_15, dX0_cast_54, dX0_cast_56, dX0_cast_57, dX0_cast_58, dX0_cast_59, fo_0_18, dX0_cast_62, dX0_cast_64, dX0_cast_65, dX0_cast_66, dX0_cast_67, fo_0_21, dX0_cast_70, dX0_cast_72, dX0_cast_73, dX0_cast_74, dX0_cast_75, dX0_cast_78, dX0_cast_80, dX0_cast_81, dX0_cast_82, dX0_cast_83, dX0_cast_84, dX0_cast_85, dX0_cast_86, dX0_cast_89, dX0_cast_91, dX0_cast_92, dX0_cast_93, dX0_cast_94, dX0_cast_95, dX0_cast_96, dX0_cast_97, pf1, l1, l2, l3, l4, l5, l6, l7, l8, l9, hn, hm1, nI_clamp (show j < 2 ^ 31 by omega), vp_in_nI (show j < 170 by omega) (by decide), iDup_r, iDup2_ir, nI_1s, nS_f, nP_f, nI_s, and_true, and_false, false_and, true_and, v2, v3]
    refine ⟨FRn_s (FRn_s (FRn_r M') (by omega)) (by omega), SL_of hS (by simp only [nS_f]) (fun _ _ _ => by simp only [nP_f]), ?_⟩
    refine RV_bal hS hV (by simp only [nP_f]) (fun q hq => ?_) q1 q2 (fun j h1 h2 => voB_lo h1 h2) ?_ (fun k hk => ?_)
    · simp (disch := omega) only [nI_o]
    · simp only [nI_s]
      rw [e1]
      simp only [Nat.reduceEqDiff, false_and, if_false]
      exact hV.2.2.2.2.2.1
    · rw [q3] at hk
      have hk' := hV.2.2.2.2.2.2 k hk
      unfold RVe at *
      rw [e2, e3, e4, e5]
      simp only [nI_s, Nat.reduceAdd, Nat.reduceEqDiff, false_and, if_false, true_and]
      by_cases hkN : k = j
      · subst hkN
        simp only [if_true]
        exact ⟨hk'.1, hk'.2.1, by trivial, by trivial⟩
      · simp only [if_neg hkN]
        exact hk'
