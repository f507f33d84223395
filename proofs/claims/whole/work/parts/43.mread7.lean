def mem2 (M : wMem) (s : pS) (t : Nat → Int32) : wMem := wSetF (setP M s) 258 t
theorem m2_S (M : wMem) (s : pS) (t : Nat → Int32) : wS (mem2 M s t) = wS M := rfl
theorem m2_P (M : wMem) (s : pS) (t : Nat → Int32) : wP (mem2 M s t) = wP M := rfl
theorem m2_told (M : wMem) (s : pS) (t : Nat → Int32) (i : Nat) (x : Int32) : wSetI (mem2 M s t) 258 i x = mem2 M s (up1 t i x) := by
  unfold mem2
  rw [wSetI_F, wF_I, if_pos rfl, wF_F]
theorem m2_set (M : wMem) (s s' : pS) (t : Nat → Int32) : setP (mem2 M s t) s' = mem2 M s' t := by
  have e : wI (mem2 M s t) 252 = wI (setP M s) 252 := by unfold mem2; rw [wF_I, if_neg (by decide)]
  rw [setP, e]
  unfold mem2
  rw [wF_C _ 258 252 _ _ (by decide)]
  congr 1
  exact set_set (M := M) (s := s) (s' := s')
theorem m2_pad (M : wMem) (s : pS) (t : Nat → Int32) : wI (mem2 M s t) 257 = wI M 257 := by
  unfold mem2
  rw [wF_I, if_neg (by decide), pad_set]
theorem m2_len (M : wMem) (s : pS) (t : Nat → Int32) : lenM (mem2 M s t) = lenM M := by
  have e : wI (mem2 M s t) 252 = wI (setP M s) 252 := by unfold mem2; rw [wF_I, if_neg (by decide)]
  unfold lenM
  rw [e]
  exact lenM_set
theorem m2_st (M : wMem) (s : pS) (t : Nat → Int32) (h : s.1 ≤ 60) : stOf (mem2 M s t) = s := by
  have e : wI (mem2 M s t) 252 = wI (setP M s) 252 := by unfold mem2; rw [wF_I, if_neg (by decide)]
  have := stOf_set (M := M) h
  unfold stOf at *
  rw [e]
  exact this
theorem m2_0 (M : wMem) : wSetI (wSetI M 252 7 0) 252 8 0 = mem2 M (0, false) (wI M 258) := by
  have e : wI (setP M (0, false)) 258 = wI M 258 := by unfold setP; rw [wF_I, if_neg (by decide)]
  rw [mem2, ← e, wF_id, wSetI_F, wSetI_F, wF_I, if_pos rfl, wF_F, setP]
  congr 1
  funext j
  simp only [up1, Bool.false_eq_true, b2i_F]
  repeat' split
  all_goals first | rfl | omega
theorem m2_i7 (M : wMem) (s : pS) (t : Nat → Int32) : wI (mem2 M s t) 252 7 = nI s.1 := by
  unfold mem2 setP
  rw [wF_I, if_neg (by decide), wF_I, if_pos rfl, up1_eq]
theorem m2_i8 (M : wMem) (s : pS) (t : Nat → Int32) : wI (mem2 M s t) 252 8 = b2i (s.2 = true) := by
  unfold mem2 setP
  rw [wF_I, if_neg (by decide), wF_I, if_pos rfl, up1_ne _ _ _ (by decide), up1_eq]
theorem m2_i6 (M : wMem) (s : pS) (t : Nat → Int32) : wI (mem2 M s t) 252 6 = wI M 252 6 := by
  unfold mem2 setP
  rw [wF_I, if_neg (by decide), wF_I, if_pos rfl, up1_ne _ _ _ (by decide), up1_ne _ _ _ (by decide)]
theorem m2_w (M : wMem) (s : pS) (t : Nat → Int32) (b : Bool) (x : Int32) (hx : x = b2i (b = true)) : wSetI (mem2 M s t) 252 8 x = mem2 M (s.1, b) t := by
  have e : mem2 M (s.1, b) t = setP (mem2 M s t) (s.1, b) := (m2_set M s (s.1, b) t).symm
  rw [e, setP, wSetI_F]
  congr 1
  funext j
  simp only [up1, hx]
  by_cases h7 : j = 7
  · subst h7
    simp [m2_i7]
  · simp [h7]
theorem m2_w1 (M : wMem) (s : pS) (t : Nat → Int32) : wSetI (mem2 M s t) 252 8 1 = mem2 M (s.1, true) t := m2_w M s t true 1 rfl
theorem m2_w0 (M : wMem) (s : pS) (t : Nat → Int32) : wSetI (mem2 M s t) 252 8 0 = mem2 M (s.1, false) t := m2_w M s t false 0 rfl
theorem m2_TG (M : wMem) (s : pS) (t : Nat → Int32) (hL : MLay M) (h6 : wI M 252 6 = nI (lenM M)) (h6b : lenM M ≤ 60) (h : s.1 ≤ 60) : TG (mem2 M s t) := by
  refine ⟨hL, ?_, ?_, ?_, ?_, ?_⟩
  · rw [m2_st _ _ _ h, m2_i7]
  · rw [m2_st _ _ _ h]; exact h
  · rw [m2_st _ _ _ h, m2_i8]
  · rw [m2_len, m2_i6]; exact h6
  · rw [m2_len]; exact h6b
def rd1 (f : Nat → Int32) (L : Nat) : pS := tk f L (0, false) 48 53
def rd2 (f : Nat → Int32) (L : Nat) : pS := tk f L (rd1 f L) 58 58
def rd3 (f : Nat → Int32) (L : Nat) : pS × Int32 := tw f L (rd2 f L)
def rd4 (f : Nat → Int32) (L : Nat) : pS := tk f L (rd3 f L).1 61 61
def rd5 (f : Nat → Int32) (L : Nat) : pS × Int32 := tl f L (rd4 f L)
def rd6 (f : Nat → Int32) (L : Nat) : pS := tk f L (rd5 f L).1 43 43
def rd7 (f : Nat → Int32) (L : Nat) : pS × Int32 := tw f L (rd6 f L)
def rd8 (f : Nat → Int32) (L : Nat) : pS := tk f L (rd7 f L).1 61 61
def rd9 (f : Nat → Int32) (L : Nat) : pS × Int32 := tl f L (rd8 f L)
def rd10 (f : Nat → Int32) (L : Nat) : pS := tk f L (rd9 f L).1 64 64
def rd11 (f : Nat → Int32) (L : Nat) : pS × Int32 := ts f L (rd10 f L)
def rdE (f : Nat → Int32) (L : Nat) : pS := ((rd11 f L).1.1, (rd11 f L).1.2 || decide ((rd11 f L).1.1 < L))
def rdT (f : Nat → Int32) (L : Nat) (t : Nat → Int32) : Nat → Int32 :=
  up1 (up1 (up1 (up1 (up1 (up1 t 0 (tkC f L (0, false) - 48)) 1 (rd3 f L).2) 2 (rd5 f L).2) 3 (rd7 f L).2) 4 (rd9 f L).2) 5 (rd11 f L).2
theorem rd1_e (f : Nat → Int32) (L : Nat) : tk f L (0, false) 48 53 = rd1 f L := rfl
theorem rd2_e (f : Nat → Int32) (L : Nat) : tk f L (rd1 f L) 58 58 = rd2 f L := rfl
theorem rd3_e (f : Nat → Int32) (L : Nat) : tw f L (rd2 f L) = rd3 f L := rfl
theorem rd4_e (f : Nat → Int32) (L : Nat) : tk f L (rd3 f L).1 61 61 = rd4 f L := rfl
theorem rd5_e (f : Nat → Int32) (L : Nat) : tl f L (rd4 f L) = rd5 f L := rfl
theorem rd6_e (f : Nat → Int32) (L : Nat) : tk f L (rd5 f L).1 43 43 = rd6 f L := rfl
theorem rd7_e (f : Nat → Int32) (L : Nat) : tw f L (rd6 f L) = rd7 f L := rfl
theorem rd8_e (f : Nat → Int32) (L : Nat) : tk f L (rd7 f L).1 61 61 = rd8 f L := rfl
theorem rd9_e (f : Nat → Int32) (L : Nat) : tl f L (rd8 f L) = rd9 f L := rfl
theorem rd10_e (f : Nat → Int32) (L : Nat) : tk f L (rd9 f L).1 64 64 = rd10 f L := rfl
theorem rd11_e (f : Nat → Int32) (L : Nat) : ts f L (rd10 f L) = rd11 f L := rfl
def rdM (M : wMem) : wMem := mem2 M (rdE (wI M 257) (lenM M)) (rdT (wI M 257) (lenM M) (wI M 258))
def PG (M : wMem) : Prop := MLay M ∧ wI M 252 6 = nI (lenM M) ∧ lenM M ≤ 60
set_option maxRecDepth 100000 in
set_option maxHeartbeats 4000000 in
theorem ct_reads (G : wG) (M : wMem) (h : PG M) : CT G 116 0 0 [.ref 252] M (fun o M' => o = none ∧ M' = rdM M) := by
  obtain ⟨hL, h6, h6b⟩ := h
  have hL2 := hL
  obtain ⟨l1, l2, l3, l4, l5, l6, l7, l8, l9, l10, l11, l12, l13⟩ := hL2
  refine CT.intro wm_116 mo_116 (by decide +kernel) false (by simp) (Nat.le_of_ble_eq_true rfl) ?_
  unfold rdM
  generalize hf : wI M 257 = f
  generalize hl : lenM M = L at *
  have b0 : ((0, false) : pS).1 ≤ 60 := by decide
  have b1 : (rd1 f L).1 ≤ 60 := tk_le h6b (by decide) b0
  have b2 : (rd2 f L).1 ≤ 60 := tk_le h6b (by decide) b1
  have b3 : (rd3 f L).1.1 ≤ 60 := tw_le h6b b2
  have b4 : (rd4 f L).1 ≤ 60 := tk_le h6b (by decide) b3
  have b5 : (rd5 f L).1.1 ≤ 60 := tl_le h6b b4
  have b6 : (rd6 f L).1 ≤ 60 := tk_le h6b (by decide) b5
  have b7 : (rd7 f L).1.1 ≤ 60 := tw_le h6b b6
  have b8 : (rd8 f L).1 ≤ 60 := tk_le h6b (by decide) b7
  have b9 : (rd9 f L).1.1 ≤ 60 := tl_le h6b b8
  have b10 : (rd10 f L).1 ≤ 60 := tk_le h6b (by decide) b9
  have b11 : (rd11 f L).1.1 ≤ 60 := ts_le h6b b10
  have hTG : ∀ (s : pS) (t : Nat → Int32), s.1 ≤ 60 → TG (mem2 M s t) := fun s t hs => m2_TG M s t hL (by rw [hl]; exact h6) (by rw [hl]; exact h6b) hs
  have z0 : (0 : Int32).toNatClampNeg = 0 := rfl
  refine wGoC (pf_takesSeconds_ok G) 120 [] [] (fun C c0 c1 c2 c3 c4 c5 c6 c7 c8 c9 c10 c11 c12 => ?_)
  simp (config := {maxSteps := 10000000}) only [i1_0, nn_t, nn_f, im_t, im_f, nn_n, xR_s, xR_z, c0, c1, c2, c3, c4, c5, c6, c7, c8, c9, c10, c11, c12, iPuI_e, iPuR_e, iPuL_e, iStoI_e, iStoR_e, iInc_e, iAdd_e, iSub_e, iMul_e, iAnd_e, iOr_e, iShl_e, iUshr_e, iDiv_e, iRem_e, iLushr_e, iLshl_e, iLand_e, iLor_e, iLcmp_e, iI2l_e, iL2i_e, iI2c_e, iDup_e, iDup2_e, iIf_e, iIfc_e, iSwA, iSw_e, iGetf_r, iGetf_i, iGetf_z, iPutf_i, iPutf_z, iPutf_rt, iPutf_rf, iGets_e, iLdc_e, iAl_e, iAl2_e, iAlr_e, iAq_e, iAq2_e, iAsI_e, iAsZ_e, iAsC_e, iAs2_e, iAt_e, iAt2_e, iLen_e, iNew_e, iNwa_e, iNwq_e, iPop, iCl2_s, iCl2_n, iIv2_e, iIv_e, iIv_c, iIs2_e, iIs_e, iIs_n, iIs_max, iIs_min, iIs_cop, iCp2_e, iIp2_e, iIp_o, iIp_2, iIp_3, iRet_i, iRet_z, iRtv_e, xE_iconst, xE_bipush, xE_sipush, xE_lconst, xE_ldc2_w, xE_iload_n, xE_iload, xE_lload_n, xE_aload_n, xE_aload, xE_istore_n, xE_istore, xE_astore_n, xE_astore, xE_iinc, xE_iadd, xE_isub, xE_imul, xE_idiv, xE_irem, xE_iand, xE_ior, xE_ishl, xE_iushr, xE_lushr, xE_lshl, xE_land, xE_lor, xE_lcmp, xE_i2l, xE_l2i, xE_i2c, xE_dup, xE_dup2, xE_ifCond, xE_if_icmp, xE_goto, xE_getfield, xE_putfield, xE_getstatic, xE_baload, xE_caload, xE_iaload, xE_aaload, xE_iastore, xE_bastore, xE_castore, xE_aastore, xE_arraylength, xE_new, xE_newarray_int, xE_newarray_boolean, xE_newarray_char, xE_anewarray, xE_checkcast, xE_invokevirtual, xE_invokestatic, xE_invokespecial, xE_ireturn, xE_return_, xE_tableswitch, eCl, eKd, wCnd, pf0, wArgs, lg_n, lg_0, lg_s, wNl_n, wNl_i, wNl_r, wCat_n, wCat_i, wCat_r, wCat_l, cInt, cRef, cLong, fv0, fv1, fv2, fv3, fw0, fw1, oi_m1, oi_0, oi_1, oi_2, oi_3, oi_4, oi_5, wRf, wLn_n, wLn_c, List.length_cons, List.length_nil, List.replicate, List.set_cons_zero, List.set_cons_succ, List.cons_append, List.nil_append, List.mem_cons, List.not_mem_nil, if_true, if_false, ↓reduceIte, true_and, and_true, or_true, true_or, or_false, false_or, Option.toList, Nat.reduceAdd, Nat.reduceSub, Nat.reduceLT, Nat.reduceLeDiff, Nat.reduceEqDiff, Nat.le_refl, eq_self, Nat.zero_le, Int.cast_ofNat_Int, Int.reduceSub, Int.reduceAdd, Int.reduceLE, Int.reduceToNat, Int.reduceNeg, Int32.reduceAdd, Int32.reduceSub, Int32.reduceMul, Int32.reduceLT, i_leF, Bool.false_eq_true, Bool.true_eq_false, b2i_T, b2i_F, b2i_0, b2i_01, i_a0, not_false_eq_true, oi_6, oi_7, oi_8, oi_9, oi_10, oi_11, oi_12, oi_13, oi_14, oi_15, oi_16, oi_17, oi_18, oi_19, oi_20, oi_21, dX8_reads_0, dX8_reads_1, dX8_reads_2, fo_8_91, dX8_reads_5, dX8_reads_6, dX8_reads_7, fo_8_87, dX8_reads_10, dX8_reads_11, fo_8_26, dX8_reads_14, dX8_reads_15, dX8_reads_16, bp_48, dX8_reads_18, bp_53, dX8_reads_20, co_8_97, dX8_reads_23, dX8_reads_24, dX8_reads_25, bp_58, dX8_reads_27, dX8_reads_29, dX8_reads_32, dX8_reads_33, dX8_reads_34, dX8_reads_37, dX8_reads_38, dX8_reads_39, co_8_112, dX8_reads_42, dX8_reads_43, dX8_reads_44, bp_61, dX8_reads_46, dX8_reads_48, dX8_reads_51, dX8_reads_52, dX8_reads_53, dX8_reads_56, dX8_reads_57, dX8_reads_58, co_8_104, dX8_reads_61, dX8_reads_62, dX8_reads_63, bp_43, dX8_reads_65, dX8_reads_67, dX8_reads_70, dX8_reads_71, dX8_reads_72, dX8_reads_75, dX8_reads_76, dX8_reads_77, dX8_reads_80, dX8_reads_81, dX8_reads_82, dX8_reads_84, dX8_reads_86, dX8_reads_89, dX8_reads_90, dX8_reads_91, dX8_reads_94, dX8_reads_95, dX8_reads_96, dX8_reads_99, dX8_reads_100, dX8_reads_101, bp_64, dX8_reads_103, dX8_reads_105, dX8_reads_108, dX8_reads_109, dX8_reads_110, dX8_reads_113, dX8_reads_114, dX8_reads_115, co_8_115, dX8_reads_118, dX8_reads_119, dX8_reads_120, dX8_reads_121, dX8_reads_124, dX8_reads_127, dX8_reads_128, dX8_reads_131, dX8_reads_132, fo_8_94, dX8_reads_135, dX8_reads_138, dX8_reads_139, dX8_reads_142, dX8_reads_143, dX8_reads_146, pfA, pf1, pf_leading, s_leading, pf_weightOf, s_weightOf, pf_mleadOf, s_mleadOf, pf_find, s_find, pf_answersTo, s_answersTo, pf_entryOf, s_entryOf, pf_isWord, s_isWord, pf_isKind, s_isKind, pf_due, s_due, pf_isAgreed, s_isAgreed, pf_becomes, s_becomes, pf_lacks, s_lacks, pf_placeOf, s_placeOf, pf_placeOfSolver, s_placeOfSolver, pf_mallTrust, s_mallTrust, pf_wordsOf, s_wordsOf, pf_lettersOf, s_lettersOf, pf_letterOf, s_letterOf, pf_min, s_min, pf_xin, s_xin, pf_mis, s_mis, pf_xis, s_xis, pf_record, s_record, pf_lays, s_lays, pf_least, s_least, pf_most, s_most, pf_adds, s_adds, pf_votes, s_votes, pf_forgets, s_forgets, pf_takes, s_takes, pf_isNext, s_isNext, pf_takesLetters, s_takesLetters, pf_takesWord, s_takesWord, pf_takesSeconds, s_takesSeconds, l1, l2, l3, l4, l5, l6, l7, l8, l9, l10, l11, l12, l13, wS_setI, wP_setI, m2_0, m2_S, m2_P, m2_told, m2_set, m2_pad, m2_len, hl, hf, m2_st M _ _ b0, m2_st M _ _ b1, m2_st M _ _ b2, m2_st M _ _ b3, m2_st M _ _ b4, m2_st M _ _ b5, m2_st M _ _ b6, m2_st M _ _ b7, m2_st M _ _ b8, m2_st M _ _ b9, m2_st M _ _ b10, m2_st M _ _ b11, hTG _ _ b0, hTG _ _ b1, hTG _ _ b2, hTG _ _ b3, hTG _ _ b4, hTG _ _ b5, hTG _ _ b6, hTG _ _ b7, hTG _ _ b8, hTG _ _ b9, hTG _ _ b10, hTG _ _ b11, rd1_e, rd2_e, rd3_e, rd4_e, rd5_e, rd6_e, rd7_e, rd8_e, rd9_e, rd10_e, rd11_e, m2_i7, m2_i8, m2_i6, h6, m2_w1, m2_w0, nI_ltF (show (rd11 f L).1.1 < 2 ^ 31 by omega) (show L < 2 ^ 31 by omega), vp_in_nI (n := 0) (N := 6) (by decide) (by decide), vp_in_nI (n := 1) (N := 6) (by decide) (by decide), vp_in_nI (n := 2) (N := 6) (by decide) (by decide), vp_in_nI (n := 3) (N := 6) (by decide) (by decide), vp_in_nI (n := 4) (N := 6) (by decide) (by decide), vp_in_nI (n := 5) (N := 6) (by decide) (by decide), z0, nI_1, i_a0, at_00, of_00, os_00, atx_1, aty_1, aty_2, aty_3, ofx_1, ofy_1, ofy_2, ofy_3, ofy_4, ofy_5, osx_1, osy_1, osy_2, osy_3, vi_0, vc_0, vi_1, vc_1, vi_2, vc_2, vi_3, vc_3, vi_4, vc_4, vi_5, vc_5, vi_6, vc_6, vi_7, vc_7, vi_8, vc_8, vi_9, vc_9, vi_10, vc_10, vi_11, vc_11]
  repeat' (first | refine And.intro ?_ ?_ | (with_reducible show _ → _; intro _))
  all_goals first | exact vp_in_nI (n := 0) (by decide) (by decide) | exact vp_in_nI (n := 1) (by decide) (by decide) | exact vp_in_nI (n := 2) (by decide) (by decide) | exact vp_in_nI (n := 3) (by decide) (by decide) | exact vp_in_nI (n := 4) (by decide) (by decide) | exact vp_in_nI (n := 5) (by decide) (by decide) | simp [rdE, rdT, *]
def s_reads : List Value → wMem → Option (Prop × Option Value × wMem) := fun As M => match As with | [.ref m] => if m = 252 then some (PG M, none, rdM M) else none | _ => none
def pf_reads : wPft := pfA 116 s_reads pf_takesSeconds
theorem pf_reads_ok (G : wG) : wPfOk G pf_reads := by
  refine pfA_ok (fun As M g o M2 h hg => ?_) (pf_takesSeconds_ok G)
  unfold s_reads at h
  split at h
  · split at h
    · next hc => obtain hc := hc; subst hc; cases h; exact ct_reads G M hg
    · cases h
  · cases h

