/-! ===== the ballot: reads ===== -/
/-- the first of the most -/
def leadO (f g : Nat → Int32) (w : Int32) : Nat → Option Nat
  | 0 => none
  | k + 1 => match leadO f g w k with
    | none => if f k = w then some k else none
    | some j => if f k = w ∧ g j < g k then some k else some j
def oN (o : Option Nat) (d : Int32) : Int32 := match o with
  | none => d
  | some j => nI j
theorem leadO_lt {f g : Nat → Int32} {w : Int32} : ∀ {n j : Nat}, leadO f g w n = some j → j < n ∧ f j = w
  | 0, j, h => by cases h
  | n + 1, j, h => by
    simp only [leadO] at h
    split at h
    · split at h
      · next h2 => cases h; exact ⟨by omega, h2⟩
      · cases h
    · next j0 e =>
      split at h
      · next h2 => cases h; exact ⟨by omega, h2.1⟩
      · cases h
        have := leadO_lt e
        exact ⟨by omega, this.2⟩
def LB (M : wMem) : Prop := wS M 10 = some (0, 0) ∧ wP M 10 0 = some 11 ∧ wP M 10 1 = some 12 ∧ wP M 10 2 = some 13 ∧ wP M 10 3 = some 14 ∧ wS M 11 = some (10, 170) ∧ wS M 12 = some (10, 170) ∧ wS M 13 = some (10, 170) ∧ wS M 14 = some (10, 170)
def bN (M : wMem) : Nat := (wI M 10 4).toNatClampNeg
def BG (M : wMem) : Prop := LB M ∧ wI M 10 4 = nI (bN M) ∧ bN M ≤ 170
theorem loopN {P : Nat → Prop} {n : Nat} (h : ∀ k, k ≤ n → (k < n → P (k + 1)) → P k) : ∀ k, k ≤ n → P k := by
  have key : ∀ d k, k + d = n → P k := by
    intro d
    induction d with
    | zero => exact fun k hk => h k (by omega) (fun q => by omega)
    | succ d ih => exact fun k hk => h k (by omega) (fun _ => ih (k + 1) (by omega))
  exact fun k hk => key (n - k) k (by omega)
theorem nI_m1 {j : Nat} (h : j < 2 ^ 31) : ¬ nI j = -1 := fun q => by
  have := congrArg Int32.toInt q
  rw [nI_toInt h] at this
  have e : (-1 : Int32).toInt = -1 := by decide
  omega
theorem nI_m6 {j : Nat} (h : j < 2 ^ 31) : ¬ nI j = -6 := fun q => by
  have := congrArg Int32.toInt q
  rw [nI_toInt h] at this
  have e : (-6 : Int32).toInt = -6 := by decide
  omega
set_option maxRecDepth 100000 in
set_option maxHeartbeats 4000000 in
theorem ct_leadingPlace (G : wG) (M : wMem) (w : Int32) (h : BG M) : CT G 12 0 0 [.ref 10, .int w] M (fun o M' => o = some (.int (oN (leadO (wI M 11) (wI M 14) w (bN M)) (-1))) ∧ M' = M) := by
  obtain ⟨⟨l1, l2, l3, l4, l5, l6, l7, l8, l9⟩, hn, hn2⟩ := h
  refine CT.intro wm_12 mo_12 (by decide +kernel) false (by simp) (Nat.le_of_ble_eq_true rfl) ?_
  have loop : ∀ k, k ≤ bN M → wp G 0 false (some .int) 0 0 0 cX0_leadingPlace (fun o M' => o = some (.int (oN (leadO (wI M 11) (wI M 14) w (bN M)) (-1))) ∧ M' = M) 4 [some (.ref 10), some (.int w), some (.int (oN (leadO (wI M 11) (wI M 14) w k) (-1))), some (.int (nI k))] [] M 0 0 := by
    refine loopN (fun k hk ih => ?_)
    have hc : (nI k).toNatClampNeg = k := nI_clamp (by omega)
    have hle : (nI (bN M) ≤ nI k) = (bN M ≤ k) := propext (nI_leI (by omega) (by omega))
    refine wGo (pf1_ok G) 60 [] [4] ?_
    simp (config := {maxSteps := 10000000}) only [i1_0, nn_t, nn_f, im_t, im_f, nn_n, wRun_s, wRun_z, wE_step, iPuI_e, iPuR_e, iPuL_e, iStoI_e, iStoR_e, iInc_e, iAdd_e, iSub_e, iMul_e, iAnd_e, iOr_e, iShl_e, iUshr_e, iDiv_e, iRem_e, iLushr_e, iLshl_e, iLand_e, iLor_e, iLcmp_e, iI2l_e, iL2i_e, iI2c_e, iDup_e, iDup2_e, iIf_e, iIfc_e, iSwA, iSw_e, iGetf_r, iGetf_i, iGetf_z, iPutf_i, iPutf_z, iPutf_rt, iPutf_rf, iGets_e, iLdc_e, iAl_e, iAl2_e, iAlr_e, iAq_e, iAq2_e, iAsI_e, iAsZ_e, iAsC_e, iAs2_e, iAt_e, iAt2_e, iLen_e, iNew_e, iNwa_e, iNwq_e, iPop, iCl2_s, iCl2_n, iIv2_e, iIv_e, iIv_c, iIs2_e, iIs_e, iIs_n, iIs_max, iIs_min, iIs_cop, iCp2_e, iIp2_e, iIp_o, iIp_2, iIp_3, iRet_i, iRet_z, iRtv_e, wE_iconst, wE_bipush, wE_sipush, wE_lconst, wE_ldc2_w, wE_iload_n, wE_iload, wE_lload_n, wE_aload_n, wE_aload, wE_istore_n, wE_istore, wE_astore_n, wE_astore, wE_iinc, wE_iadd, wE_isub, wE_imul, wE_idiv, wE_irem, wE_iand, wE_ior, wE_ishl, wE_iushr, wE_lushr, wE_lshl, wE_land, wE_lor, wE_lcmp, wE_i2l, wE_l2i, wE_i2c, wE_dup, wE_dup2, wE_ifCond, wE_if_icmp, wE_goto, wE_getfield, wE_putfield, wE_getstatic, wE_baload, wE_caload, wE_iaload, wE_aaload, wE_iastore, wE_bastore, wE_castore, wE_aastore, wE_arraylength, wE_new, wE_newarray_int, wE_newarray_boolean, wE_newarray_char, wE_anewarray, wE_checkcast, wE_invokevirtual, wE_invokestatic, wE_invokespecial, wE_ireturn, wE_return_, wE_tableswitch, eCl, eKd, wCnd, pf0, wArgs, lg_n, lg_0, lg_s, wNl_n, wNl_i, wNl_r, wCat_n, wCat_i, wCat_r, wCat_l, cInt, cRef, cLong, fv0, fv1, fv2, fv3, fw0, fw1, oi_m1, oi_0, oi_1, oi_2, oi_3, oi_4, oi_5, wRf, wLn_n, wLn_c, List.length_cons, List.length_nil, List.replicate, List.set_cons_zero, List.set_cons_succ, List.cons_append, List.nil_append, List.mem_cons, List.not_mem_nil, if_true, if_false, ↓reduceIte, true_and, and_true, or_true, true_or, or_false, false_or, Option.toList, Nat.reduceAdd, Nat.reduceSub, Nat.reduceLT, Nat.reduceLeDiff, Nat.reduceEqDiff, Nat.le_refl, eq_self, Nat.zero_le, Int.cast_ofNat_Int, Int.reduceSub, Int.reduceAdd, Int.reduceLE, Int.reduceToNat, Int.reduceNeg, dX0_leadingPlace_0, dX0_leadingPlace_1, dX0_leadingPlace_2, dX0_leadingPlace_3, dX0_leadingPlace_4, dX0_leadingPlace_5, dX0_leadingPlace_6, fo_0_24, dX0_leadingPlace_9, dX0_leadingPlace_12, dX0_leadingPlace_13, fo_0_9, dX0_leadingPlace_16, dX0_leadingPlace_17, dX0_leadingPlace_18, dX0_leadingPlace_19, dX0_leadingPlace_22, dX0_leadingPlace_23, dX0_leadingPlace_24, dX0_leadingPlace_27, dX0_leadingPlace_28, fo_0_21, dX0_leadingPlace_31, dX0_leadingPlace_32, dX0_leadingPlace_33, dX0_leadingPlace_34, dX0_leadingPlace_37, dX0_leadingPlace_38, dX0_leadingPlace_39, dX0_leadingPlace_42, dX0_leadingPlace_43, dX0_leadingPlace_44, dX0_leadingPlace_47, dX0_leadingPlace_50, dX0_leadingPlace_51, l1, l2, l3, l4, l5, l6, l7, l8, l9, hn, nI_1, hc, hle]
    refine ⟨fun h => by rw [show k = bN M by omega], fun h => ?_⟩
    have hlt : k < bN M := by omega
    have hv : vp_in (nI k) 170 := vp_in_nI (by omega) (by omega)
    have ih := ih hlt
    simp only [leadO] at ih
    simp only [hv, true_and]
    cases hl : leadO (wI M 11) (wI M 14) w k with
    | none =>
      simp only [hl, oN] at ih ⊢
      refine ⟨fun h1 => ?_, fun h1 => ⟨fun _ => ?_, fun h2 => absurd trivial h2⟩⟩
      · rw [if_neg h1] at ih; exact ih
      · rw [if_pos (h1)] at ih; exact ih
    | some j =>
      have hj := (leadO_lt hl).1
      have hcj : (nI j).toNatClampNeg = j := nI_clamp (by omega)
      have hvj : vp_in (nI j) 170 := vp_in_nI (by omega) (by omega)
      simp only [hl, oN, hcj, hvj, true_and] at ih ⊢
      refine ⟨fun h1 => ?_, fun h1 => ⟨fun h2 => absurd h2 (nI_m1 (by omega)), fun _ => ⟨fun h3 => ?_, fun h3 => ?_⟩⟩⟩
      · rw [if_neg (fun q => h1 q.1)] at ih; exact ih
      · rw [if_neg (fun q => i_nlt.mpr h3 q.2)] at ih; exact ih
      · rw [if_pos ⟨h1, i_nle.mp h3⟩] at ih; exact ih
  refine wGo (pf1_ok G) 60 [] [4] ?_
  simp (config := {maxSteps := 10000000}) only [i1_0, nn_t, nn_f, im_t, im_f, nn_n, wRun_s, wRun_z, wE_step, iPuI_e, iPuR_e, iPuL_e, iStoI_e, iStoR_e, iInc_e, iAdd_e, iSub_e, iMul_e, iAnd_e, iOr_e, iShl_e, iUshr_e, iDiv_e, iRem_e, iLushr_e, iLshl_e, iLand_e, iLor_e, iLcmp_e, iI2l_e, iL2i_e, iI2c_e, iDup_e, iDup2_e, iIf_e, iIfc_e, iSwA, iSw_e, iGetf_r, iGetf_i, iGetf_z, iPutf_i, iPutf_z, iPutf_rt, iPutf_rf, iGets_e, iLdc_e, iAl_e, iAl2_e, iAlr_e, iAq_e, iAq2_e, iAsI_e, iAsZ_e, iAsC_e, iAs2_e, iAt_e, iAt2_e, iLen_e, iNew_e, iNwa_e, iNwq_e, iPop, iCl2_s, iCl2_n, iIv2_e, iIv_e, iIv_c, iIs2_e, iIs_e, iIs_n, iIs_max, iIs_min, iIs_cop, iCp2_e, iIp2_e, iIp_o, iIp_2, iIp_3, iRet_i, iRet_z, iRtv_e, wE_iconst, wE_bipush, wE_sipush, wE_lconst, wE_ldc2_w, wE_iload_n, wE_iload, wE_lload_n, wE_aload_n, wE_aload, wE_istore_n, wE_istore, wE_astore_n, wE_astore, wE_iinc, wE_iadd, wE_isub, wE_imul, wE_idiv, wE_irem, wE_iand, wE_ior, wE_ishl, wE_iushr, wE_lushr, wE_lshl, wE_land, wE_lor, wE_lcmp, wE_i2l, wE_l2i, wE_i2c, wE_dup, wE_dup2, wE_ifCond, wE_if_icmp, wE_goto, wE_getfield, wE_putfield, wE_getstatic, wE_baload, wE_caload, wE_iaload, wE_aaload, wE_iastore, wE_bastore, wE_castore, wE_aastore, wE_arraylength, wE_new, wE_newarray_int, wE_newarray_boolean, wE_newarray_char, wE_anewarray, wE_checkcast, wE_invokevirtual, wE_invokestatic, wE_invokespecial, wE_ireturn, wE_return_, wE_tableswitch, eCl, eKd, wCnd, pf0, wArgs, lg_n, lg_0, lg_s, wNl_n, wNl_i, wNl_r, wCat_n, wCat_i, wCat_r, wCat_l, cInt, cRef, cLong, fv0, fv1, fv2, fv3, fw0, fw1, oi_m1, oi_0, oi_1, oi_2, oi_3, oi_4, oi_5, wRf, wLn_n, wLn_c, List.length_cons, List.length_nil, List.replicate, List.set_cons_zero, List.set_cons_succ, List.cons_append, List.nil_append, List.mem_cons, List.not_mem_nil, if_true, if_false, ↓reduceIte, true_and, and_true, or_true, true_or, or_false, false_or, Option.toList, Nat.reduceAdd, Nat.reduceSub, Nat.reduceLT, Nat.reduceLeDiff, Nat.reduceEqDiff, Nat.le_refl, eq_self, Nat.zero_le, Int.cast_ofNat_Int, Int.reduceSub, Int.reduceAdd, Int.reduceLE, Int.reduceToNat, Int.reduceNeg, dX0_leadingPlace_0, dX0_leadingPlace_1, dX0_leadingPlace_2, dX0_leadingPlace_3, dX0_leadingPlace_4, dX0_leadingPlace_5, dX0_leadingPlace_6, fo_0_24, dX0_leadingPlace_9, dX0_leadingPlace_12, dX0_leadingPlace_13, fo_0_9, dX0_leadingPlace_16, dX0_leadingPlace_17, dX0_leadingPlace_18, dX0_leadingPlace_19, dX0_leadingPlace_22, dX0_leadingPlace_23, dX0_leadingPlace_24, dX0_leadingPlace_27, dX0_leadingPlace_28, fo_0_21, dX0_leadingPlace_31, dX0_leadingPlace_32, dX0_leadingPlace_33, dX0_leadingPlace_34, dX0_leadingPlace_37, dX0_leadingPlace_38, dX0_leadingPlace_39, dX0_leadingPlace_42, dX0_leadingPlace_43, dX0_leadingPlace_44, dX0_leadingPlace_47, dX0_leadingPlace_50, dX0_leadingPlace_51, l1, l2, l3, l4, l5, l6, l7, l8, l9, hn]
  exact loop 0 (by omega)
