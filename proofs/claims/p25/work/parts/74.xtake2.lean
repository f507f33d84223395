theorem up1_comm {f : Nat → Int32} {a b : Nat} {x y : Int32} (h : a ≠ b) : up1 (up1 f a x) b y = up1 (up1 f b y) a x := by
  funext j
  simp only [up1]
  by_cases h1 : j = a
  · subst h1; simp [h]
  · simp [h1]
theorem lstP_none {p : Nat → Bool} : ∀ {n : Nat}, lstP p n = none → ∀ i, i < n → p i = false
  | 0, _, i, hi => by omega
  | n + 1, h, i, hi => by
    simp only [lstP] at h
    cases hp : p n with
    | true => rw [hp, if_pos rfl] at h; cases h
    | false =>
      rw [hp, if_neg (by simp)] at h
      by_cases hin : i = n
      · subst hin; exact hp
      · exact lstP_none h i (by omega)
theorem vo1_lo {v : Nat → Int32} {k : Nat} {c wt sec : Int32} {j : Nat} (h : j < 108) (h2 : j ≠ 11) (h3 : j ≠ 40 + 6 * k) (h4 : j ≠ 41 + 6 * k) : vo1 v k c wt sec j = v j := by
  rw [vo1_B, up1_ne _ _ _ h4, up1_ne _ _ _ h3, voB_lo h h2]
theorem isIx_add {x y : Int32} {a b c : Nat} (hx : isIx x (a + 1)) (hy : isIx y (b + 1)) (hc : a + b < c) (hb : c < 2 ^ 31) : isIx (x + y) c := by
  obtain ⟨i, hi, rfl⟩ := isIx_k hx
  obtain ⟨j, hj, rfl⟩ := isIx_k hy
  rw [nI_add]
  exact of_eq_true (isIx_t (by omega) hb)
theorem isIx_z {n : Nat} (h : 0 < n) : isIx 0 n := ⟨rfl, h⟩
theorem vo1_c {v : Nat → Int32} {k : Nat} {c wt sec : Int32} (h0 : cntOk v) (hN : sN v < 170) (hk : k < 12) : cntOk (vo1 v k c wt sec) ∧ nW (vo1 v k c wt sec) = nW v ∧ sN (vo1 v k c wt sec) = (match voE v (nI k) c with | none => sN v + 1 | some _ => sN v) := by
  obtain ⟨q1, q2, q3⟩ := voB_c (w := nI k) (c := c) (wt := wt) h0 hN
  rw [vo1_B]
  obtain ⟨c1, c2, c3⟩ := cnt_u (x := v (40 + 6 * k) + 1) q1 (show 40 + 6 * k ≠ 6 by omega) (show 40 + 6 * k ≠ 11 by omega)
  obtain ⟨d1, d2, d3⟩ := cnt_u (x := v (41 + 6 * k) + sec) c1 (show 41 + 6 * k ≠ 6 by omega) (show 41 + 6 * k ≠ 11 by omega)
  exact ⟨d1, d2.trans (c2.trans q2), d3.trans (c3.trans q3)⟩
theorem vo1_en {v : Nat → Int32} {k : Nat} {c wt sec : Int32} (hk : k < 11 + 1) : eO (vo1 v k c wt sec) = eO (voB v (nI k) c wt) ∧ eH (vo1 v k c wt sec) = eH (voB v (nI k) c wt) ∧ eW (vo1 v k c wt sec) = eW (voB v (nI k) c wt) := by
  rw [vo1_B]
  exact ⟨by rw [eO_u (by omega), eO_u (by omega)], by rw [eH_u (by omega), eH_u (by omega)], by rw [eW_u (by omega), eW_u (by omega)]⟩
theorem IV_vo1 {T : Nat} {v : Nat → Int32} {k : Nat} {c wt sec : Int32} (hI : IV T v) (h0 : cntOk v) (hk : k < nW v) (hw : isIx wt 101) (hc : ¬ c = 0) (hT : 3 * sN v + 2 ≤ T) (hT2 : T ≤ 511) : IV (T + 1) (vo1 v k c wt sec) := by
  obtain ⟨a1, a2, a3, a4, a5, a6, a7, a8⟩ := hI
  have h12 := h0.2.1
  have hN : sN v < 170 := by omega
  obtain ⟨c1, c2, c3⟩ := vo1_c (c := c) (wt := wt) (sec := sec) h0 hN (show k < 12 by omega)
  obtain ⟨n1, n2, n3⟩ := vo1_en (v := v) (c := c) (wt := wt) (sec := sec) (show k < 11 + 1 by omega)
  have lo : ∀ j, j < 36 → j ≠ 11 → vo1 v k c wt sec j = v j := fun j h1 h2 => vo1_lo (by omega) h2 (by omega) (by omega)
  refine ⟨?_, fun i hi => ?_, fun i hi => ?_, ?_, ?_, ?_, ?_, ?_⟩
  · rw [lo 0 (by decide) (by decide), lo 1 (by decide) (by decide), lo 2 (by decide) (by decide), lo 3 (by decide) (by decide), lo 4 (by decide) (by decide), lo 5 (by decide) (by decide)]; exact a1
  · rw [lo _ (by omega) (by omega)]; exact a2 i hi
  · rw [c2] at hi
    rw [vo1_lo (by omega) (by omega) (by omega) (by omega), vo1_lo (by omega) (by omega) (by omega) (by omega), vo1_lo (by omega) (by omega) (by omega) (by omega)]
    exact a3 i hi
  · rw [c3, n2, n3]
    cases hE : voE v (nI k) c with
    | none =>
      obtain ⟨e1, e2, e3, e4, e5⟩ := voB_none (wt := wt) hE
      intro i hi
      simp only at hi
      rw [e3, e5]
      by_cases hiN : i = sN v
      · rw [if_pos hiN, if_pos hiN]
        exact ⟨isIx_add (a := 0) (b := 100) (isIx_z (by decide)) hw (by omega) (by omega), hc⟩
      · rw [if_neg hiN, if_neg hiN]
        obtain ⟨b1, b2⟩ := a4 i (by omega)
        exact ⟨isIx_mono b1 (by omega), b2⟩
    | some j =>
      obtain ⟨e1, e2, e3, e4, e5⟩ := voB_some (wt := wt) hE
      intro i hi
      simp only at hi
      rw [e3, e5]
      obtain ⟨b1, b2⟩ := a4 i hi
      by_cases hij : i = j
      · rw [if_pos hij]
        subst hij
        exact ⟨isIx_add (a := 100 * T) (b := 100) b1 hw (by omega) (by omega), b2⟩
      · rw [if_neg hij]
        exact ⟨isIx_mono b1 (by omega), b2⟩
  · rw [c3, n1, n2]
    cases hE : voE v (nI k) c with
    | none =>
      obtain ⟨e1, e2, e3, e4, e5⟩ := voB_none (wt := wt) hE
      have hno := lstP_none hE
      intro i j hi hj
      simp only at hi hj
      rw [e2, e2, e3, e3]
      by_cases hiN : i = sN v
      · by_cases hjN : j = sN v
        · intros; omega
        · rw [if_pos hiN, if_neg hjN, if_pos hiN, if_neg hjN]
          intro h1 h2
          have := of_decide_eq_false (hno j (by omega))
          exact absurd ⟨h1.symm, h2.symm⟩ this
      · by_cases hjN : j = sN v
        · rw [if_neg hiN, if_pos hjN, if_neg hiN, if_pos hjN]
          intro h1 h2
          have := of_decide_eq_false (hno i (by omega))
          exact absurd ⟨h1, h2⟩ this
        · rw [if_neg hiN, if_neg hjN, if_neg hiN, if_neg hjN]
          exact a5 i j (by omega) (by omega)
    | some m =>
      obtain ⟨e1, e2, e3, e4, e5⟩ := voB_some (wt := wt) hE
      intro i j hi hj
      simp only at hi hj
      rw [e2, e2, e3, e3]
      exact a5 i j hi hj
  · rw [lo 7 (by decide) (by decide)]
    rw [show (fun i => vo1 v k c wt sec (13 + 4 * i)) = (fun i => vo1 v k c wt sec (13 + 4 * i)) from rfl]
    simp only [sumF]
    rw [lo _ (by decide) (by decide), lo _ (by decide) (by decide), lo _ (by decide) (by decide), lo _ (by decide) (by decide), lo _ (by decide) (by decide), lo _ (by decide) (by decide)]
    exact a6
  · rw [lo 8 (by decide) (by decide)]
    simp only [sumF]
    rw [lo _ (by decide) (by decide), lo _ (by decide) (by decide), lo _ (by decide) (by decide), lo _ (by decide) (by decide), lo _ (by decide) (by decide), lo _ (by decide) (by decide)]
    exact a7
  · rw [c3]
    cases voE v (nI k) c <;> simp only <;> omega
set_option maxRecDepth 100000 in
set_option maxHeartbeats 4000000 in
theorem ct_takeVote (G : wG) (M : wMem) (v : Nat → Int32) (T k : Nat) (c' wt sec : Int32) (hX : XL M) (hS : SL 6 M) (hV : RV 6 M v) (hI : IV T v) (hT : 3 * sN v + 2 ≤ T) (hT2 : T ≤ 511) (hk : k < nW v) (h1 : v (36 + 6 * k) = 1) (hw : isIx wt 101) (hc : ¬ c' = 0) (hp0 : wI M 5 0 = nI k) (hp1 : LR (wI M 5 1) c') :
    CT G 36 0 0 [.ref 6, .ref 5, .int wt, .int sec] M (fun o M' => o = none ∧ FRn M M' ∧ wP M' = wP M ∧ SL 6 M' ∧ RV 6 M' (vo2 (vo1 v k c' wt sec) k)) := by
  obtain ⟨⟨x1, x2, x3, x4, x5, x6, x7⟩, ⟨p1, p2, p3⟩, ⟨d1, d2, d3, d4, d5, d6⟩, ⟨f1, f2, f3, f4, f5⟩⟩ := hX
  obtain ⟨n1, n2, n3, n4, n5, n6, n7, n8, l1, l2, l3, l4, l5, l6, l7, l8, l9⟩ := SLn hS
  have h12 := hV.1.2.1
  have hN : sN v < 170 := by omega
  refine CT.intro wm_36 mo_36 (by decide +kernel) false (by simp) (Nat.le_of_ble_eq_true rfl) ?_
  refine wGoC (pf1_ok G) 60 [] [] (fun C c0 c1 c2 c3 c4 c5 c6 c7 c8 c9 c10 c11 c12 => ?_)
  simp (config := {maxSteps := 10000000}) only [i1_0, nn_t, nn_f, im_t, im_f, nn_n, xR_s, xR_z, c0, c1, c2, c3, c4, c5, c6, c7, c8, c9, c10, c11, c12, iPuI_e, iPuR_e, iPuL_e, iStoI_e, iStoR_e, iInc_e, iAdd_e, iSub_e, iMul_e, iAnd_e, iOr_e, iShl_e, iShr_e, iPo_i, iLdi_e, iUshr_e, iDiv_e, iRem_e, iLushr_e, iLshl_e, iLand_e, iLor_e, iLcmp_e, iI2l_e, iL2i_e, iI2c_e, iDup_e, iDup2_e, iIf_e, iIfc_e, iSwA, iSw_e, iGetf_r, iGetf_i, iGetf_z, iPutf_i, iPutf_z, iPutf_rt, iPutf_rf, iGets_e, iLdc_e, iAl_e, iAl2_e, iAlr_e, iAq_e, iAq2_e, iAsI_e, iAsZ_e, iAsC_e, iAs2_e, iAt_e, iAt2_e, iLen_e, iNew_e, iNwa_e, iNwq_e, iPop, iCl2_s, iCl2_n, iIv2_e, iIv_e, iIv_c, iIs2_e, iIs_e, iIs_n, iIs_max, iIs_min, iIs_cop, iCp2_e, iIp2_e, iIp_o, iIp_2, iIp_3, iRet_i, iRet_z, iRtv_e, xE_iconst, xE_bipush, xE_sipush, xE_lconst, xE_ldc2_w, xE_iload_n, xE_iload, xE_lload_n, xE_aload_n, xE_aload, xE_istore_n, xE_istore, xE_astore_n, xE_astore, xE_iinc, xE_iadd, xE_isub, xE_imul, xE_idiv, xE_irem, xE_iand, xE_ior, xE_ishl, xE_ishr, xE_pop, xE_ldc, xE_iushr, xE_lushr, xE_lshl, xE_land, xE_lor, xE_lcmp, xE_i2l, xE_l2i, xE_i2c, xE_dup, xE_dup2, xE_ifCond, xE_if_icmp, xE_goto, xE_getfield, xE_putfield, xE_getstatic, xE_baload, xE_caload, xE_iaload, xE_aaload, xE_iastore, xE_bastore, xE_castore, xE_aastore, xE_arraylength, xE_new, xE_newarray_int, xE_newarray_boolean, xE_newarray_char, xE_anewarray, xE_checkcast, xE_invokevirtual, xE_invokestatic, xE_invokespecial, xE_ireturn, xE_return_, xE_tableswitch, eCl, eKd, wCnd, pf0, wArgs, lg_n, lg_0, lg_s, wNl_n, wNl_i, wNl_r, wCat_n, wCat_i, wCat_r, wCat_l, cInt, cRef, cLong, fv0, fv1, fv2, fv3, fw0, fw1, oi_m1, oi_0, oi_1, oi_2, oi_3, oi_4, oi_5, wRf, wLn_n, wLn_c, List.length_cons, List.length_nil, List.replicate, List.set_cons_zero, List.set_cons_succ, List.cons_append, List.nil_append, List.mem_cons, List.not_mem_nil, if_true, if_false, ↓reduceIte, true_and, and_true, or_true, true_or, or_false, false_or, Option.toList, Nat.reduceAdd, Nat.reduceSub, Nat.reduceLT, Nat.reduceLeDiff, Nat.reduceEqDiff, Nat.le_refl, eq_self, Nat.zero_le, Int.cast_ofNat_Int, Int.reduceSub, Int.reduceAdd, Int.reduceLE, Int.reduceToNat, Int.reduceNeg, Int32.reduceAdd, Int32.reduceSub, Int32.reduceMul, Int32.reduceLT, i_leF, Bool.false_eq_true, Bool.true_eq_false, b2i_T, b2i_F, b2i_0, b2i_01, i_a0, not_false_eq_true, oi_6, oi_7, oi_8, oi_9, oi_10, oi_11, oi_12, oi_13, oi_14, oi_15, oi_16, oi_17, oi_18, oi_19, oi_20, oi_21, dX5_takeVote_0, dX5_takeVote_1, fo_5_38, dX5_takeVote_4, dX5_takeVote_5, fo_5_94, dX5_takeVote_8, dX5_takeVote_9, fo_5_109, dX5_takeVote_12, dX5_takeVote_13, co_5_136, dX5_takeVote_16, dX5_takeVote_19, dX5_takeVote_20, fo_5_31, dX5_takeVote_23, dX5_takeVote_24, dX5_takeVote_27, dX5_takeVote_28, dX5_takeVote_30, dX5_takeVote_32, dX5_takeVote_33, fo_5_140, dX5_takeVote_36, dX5_takeVote_37, dX5_takeVote_38, dX5_takeVote_41, dX5_takeVote_43, dX5_takeVote_44, fo_5_143, dX5_takeVote_47, dX5_takeVote_48, dX5_takeVote_49, dX5_takeVote_52, dX5_takeVote_53, dX5_takeVote_54, dX5_takeVote_57, co_5_144, dX5_takeVote_60, pf1, x1, x2, x3, x4, x5, x6, x7, p1, p2, p3, d1, d2, d3, d4, d5, d6, f1, f2, f3, f4, f5, n1, n2, n3, n4, n5, n6, n7, n8, l1, l2, l3, l4, l5, l6, l7, l8, l9, hp0]
  refine CT.mono (ct_cast G M v hS hV hI.2.2.2.2.1 (nI k) (wI M 5 1) c' wt hp1 hN) ?_
  rintro o N ⟨rfl, hf, hP1, hS1, hV1⟩
  dsimp only [List.cons_append, List.nil_append]
  have hsN : wS N = wS M := hf.2.1
  have hpo : ∀ q, ¬ (6 ≤ q ∧ q < 33) → wP N q = wP M q := fun q hq => (hf.2.2 q hq).2
  have hio : ∀ q, ¬ (6 ≤ q ∧ q < 33) → wI N q = wI M q := fun q hq => (hf.2.2 q hq).1
  obtain ⟨cc1, cc2, cc3⟩ := voB_c (w := nI k) (c := c') (wt := wt) hV.1 hN
  obtain ⟨q, q1, q2, q3, q4⟩ := SLw hS1 (show k < 12 by omega)
  obtain ⟨w0, w1, w2, w3, w4, w5⟩ := hV1.2.2.2.2.1 k (by rw [cc2]; exact hk) q q1
  have f4 : voB v (nI k) c' wt (40 + 6 * k) = v (40 + 6 * k) := voB_lo (by omega) (by omega)
  have f5 : voB v (nI k) c' wt (41 + 6 * k) = v (41 + 6 * k) := voB_lo (by omega) (by omega)
  rw [f4] at w4
  rw [f5] at w5
  have m1 := (SLn hS1).1
  have m4 := (SLn hS1).2.2.2.1
  have m8 := (SLn hS1).2.2.2.2.2.2.2.1
  have hp0' : wI N 5 0 = nI k := by rw [hio _ (by decide)]; exact hp0
  have q5 : (5 = q) = False := eq_false (by omega)
  refine wGoC (pf1_ok G) 60 [] [] (fun C c0 c1 c2 c3 c4 c5 c6 c7 c8 c9 c10 c11 c12 => ?_)
  simp (config := {maxSteps := 10000000}) only [i1_0, nn_t, nn_f, im_t, im_f, nn_n, xR_s, xR_z, c0, c1, c2, c3, c4, c5, c6, c7, c8, c9, c10, c11, c12, iPuI_e, iPuR_e, iPuL_e, iStoI_e, iStoR_e, iInc_e, iAdd_e, iSub_e, iMul_e, iAnd_e, iOr_e, iShl_e, iShr_e, iPo_i, iLdi_e, iUshr_e, iDiv_e, iRem_e, iLushr_e, iLshl_e, iLand_e, iLor_e, iLcmp_e, iI2l_e, iL2i_e, iI2c_e, iDup_e, iDup2_e, iIf_e, iIfc_e, iSwA, iSw_e, iGetf_r, iGetf_i, iGetf_z, iPutf_i, iPutf_z, iPutf_rt, iPutf_rf, iGets_e, iLdc_e, iAl_e, iAl2_e, iAlr_e, iAq_e, iAq2_e, iAsI_e, iAsZ_e, iAsC_e, iAs2_e, iAt_e, iAt2_e, iLen_e, iNew_e, iNwa_e, iNwq_e, iPop, iCl2_s, iCl2_n, iIv2_e, iIv_e, iIv_c, iIs2_e, iIs_e, iIs_n, iIs_max, iIs_min, iIs_cop, iCp2_e, iIp2_e, iIp_o, iIp_2, iIp_3, iRet_i, iRet_z, iRtv_e, xE_iconst, xE_bipush, xE_sipush, xE_lconst, xE_ldc2_w, xE_iload_n, xE_iload, xE_lload_n, xE_aload_n, xE_aload, xE_istore_n, xE_istore, xE_astore_n, xE_astore, xE_iinc, xE_iadd, xE_isub, xE_imul, xE_idiv, xE_irem, xE_iand, xE_ior, xE_ishl, xE_ishr, xE_pop, xE_ldc, xE_iushr, xE_lushr, xE_lshl, xE_land, xE_lor, xE_lcmp, xE_i2l, xE_l2i, xE_i2c, xE_dup, xE_dup2, xE_ifCond, xE_if_icmp, xE_goto, xE_getfield, xE_putfield, xE_getstatic, xE_baload, xE_caload, xE_iaload, xE_aaload, xE_iastore, xE_bastore, xE_castore, xE_aastore, xE_arraylength, xE_new, xE_newarray_int, xE_newarray_boolean, xE_newarray_char, xE_anewarray, xE_checkcast, xE_invokevirtual, xE_invokestatic, xE_invokespecial, xE_ireturn, xE_return_, xE_tableswitch, eCl, eKd, wCnd, pf0, wArgs, lg_n, lg_0, lg_s, wNl_n, wNl_i, wNl_r, wCat_n, wCat_i, wCat_r, wCat_l, cInt, cRef, cLong, fv0, fv1, fv2, fv3, fw0, fw1, oi_m1, oi_0, oi_1, oi_2, oi_3, oi_4, oi_5, wRf, wLn_n, wLn_c, List.length_cons, List.length_nil, List.replicate, List.set_cons_zero, List.set_cons_succ, List.cons_append, List.nil_append, List.mem_cons, List.not_mem_nil, if_true, if_false, ↓reduceIte, true_and, and_true, or_true, true_or, or_false, false_or, Option.toList, Nat.reduceAdd, Nat.reduceSub, Nat.reduceLT, Nat.reduceLeDiff, Nat.reduceEqDiff, Nat.le_refl, eq_self, Nat.zero_le, Int.cast_ofNat_Int, Int.reduceSub, Int.reduceAdd, Int.reduceLE, Int.reduceToNat, Int.reduceNeg, Int32.reduceAdd, Int32.reduceSub, Int32.reduceMul, Int32.reduceLT, i_leF, Bool.false_eq_true, Bool.true_eq_false, b2i_T, b2i_F, b2i_0, b2i_01, i_a0, not_false_eq_true, oi_6, oi_7, oi_8, oi_9, oi_10, oi_11, oi_12, oi_13, oi_14, oi_15, oi_16, oi_17, oi_18, oi_19, oi_20, oi_21, dX5_takeVote_0, dX5_takeVote_1, fo_5_38, dX5_takeVote_4, dX5_takeVote_5, fo_5_94, dX5_takeVote_8, dX5_takeVote_9, fo_5_109, dX5_takeVote_12, dX5_takeVote_13, co_5_136, dX5_takeVote_16, dX5_takeVote_19, dX5_takeVote_20, fo_5_31, dX5_takeVote_23, dX5_takeVote_24, dX5_takeVote_27, dX5_takeVote_28, dX5_takeVote_30, dX5_takeVote_32, dX5_takeVote_33, fo_5_140, dX5_takeVote_36, dX5_takeVote_37, dX5_takeVote_38, dX5_takeVote_41, dX5_takeVote_43, dX5_takeVote_44, fo_5_143, dX5_takeVote_47, dX5_takeVote_48, dX5_takeVote_49, dX5_takeVote_52, dX5_takeVote_53, dX5_takeVote_54, dX5_takeVote_57, co_5_144, dX5_takeVote_60, pf1, hsN, hpo 5 (by decide), hp0', d6, m1, m4, m8, q1, q2, w4, w5, nI_clamp (show k < 2 ^ 31 by omega), vp_in_nI (show k < 12 by omega) (by decide), iDup_r, nS_f, nP_f, nI_s, q5, false_and, and_false, and_true, true_and]
  have hv1 : RV 6 (wSetI (wSetI N q 4 (v (40 + 6 * k) + 1)) q 5 (v (41 + 6 * k) + sec)) (vo1 v k c' wt sec) := by
    refine RV_wd hS1 hV1 (by rw [cc2]; exact hk) q1 (by rw [nP_f, nP_f]) (fun p h1 h2 => by rw [nI_o _ _ _ _ h1, nI_o _ _ _ _ h1]) ⟨?_, ?_, ?_⟩ (fun j h1 h2 h3 => ?_) ?_
    · rw [nI_o _ _ _ _ (show 6 ≠ q by omega), nI_o _ _ _ _ (show 6 ≠ q by omega)]
    · rw [nI_o _ _ _ _ (show 6 ≠ q by omega), nI_o _ _ _ _ (show 6 ≠ q by omega), vo1_lo (by decide) (by decide) (by omega) (by omega)]
      rw [show wI N 6 5 = voB v (nI k) c' wt 9 from hV1.2.2.1.2.1, voB_lo (by decide) (by decide)]
    · rw [nI_o _ _ _ _ (show 6 ≠ q by omega), nI_o _ _ _ _ (show 6 ≠ q by omega), vo1_lo (by decide) (by decide) (by omega) (by omega)]
      rw [show wI N 6 6 = voB v (nI k) c' wt 10 from hV1.2.2.1.2.2, voB_lo (by decide) (by decide)]
    · rw [vo1_B, up1_ne _ _ _ (by omega), up1_ne _ _ _ (by omega)]
    · have ro : ∀ j, j ≠ 4 → j ≠ 5 → wI (wSetI (wSetI N q 4 (v (40 + 6 * k) + 1)) q 5 (v (41 + 6 * k) + sec)) q j = wI N q j := fun j h4 h5 => by rw [nI_s, if_neg (by omega), nI_s, if_neg (by omega)]
      have r4 : wI (wSetI (wSetI N q 4 (v (40 + 6 * k) + 1)) q 5 (v (41 + 6 * k) + sec)) q 4 = v (40 + 6 * k) + 1 := by rw [nI_s, if_neg (by omega), nI_s, if_pos ⟨rfl, rfl⟩]
      have r5 : wI (wSetI (wSetI N q 4 (v (40 + 6 * k) + 1)) q 5 (v (41 + 6 * k) + sec)) q 5 = v (41 + 6 * k) + sec := by rw [nI_s, if_pos ⟨rfl, rfl⟩]
      unfold RVw
      rw [ro 0 (by decide) (by decide), ro 1 (by decide) (by decide), ro 2 (by decide) (by decide), ro 3 (by decide) (by decide), r4, r5, vo1_B]
      simp (disch := omega) only [up1_ne, up1_eq]
      exact ⟨w0, w1, w2, w3, by trivial, by trivial⟩
  have hf2 : FRn M (wSetI (wSetI N q 4 (v (40 + 6 * k) + 1)) q 5 (v (41 + 6 * k) + sec)) := FRn_s (FRn_s hf (by omega)) (by omega)
  have hS2 : SL 6 (wSetI (wSetI N q 4 (v (40 + 6 * k) + 1)) q 5 (v (41 + 6 * k) + sec)) := SL_n hS1 (by rw [nS_f, nS_f]) (by rw [nP_f, nP_f])
  have hI1 := IV_vo1 (c := c') (wt := wt) (sec := sec) hI hV.1 hk hw hc hT hT2
  refine CT.mono (ct_lookBehindVote G _ (vo1 v k c' wt sec) (T + 1) k hS2 hv1 (by omega) hI1 (by rw [(vo1_c hV.1 hN (by omega)).2.1]; exact hk) (by rw [vo1_lo (by omega) (by omega) (by omega) (by omega)]; exact h1)) ?_
  rintro o P ⟨rfl, hf3, hP3, hS3, hV3⟩
  dsimp only [List.nil_append]
  refine wGoC (pf1_ok G) 60 [] [] (fun C c0 c1 c2 c3 c4 c5 c6 c7 c8 c9 c10 c11 c12 => ?_)
  simp (config := {maxSteps := 10000000}) only [i1_0, nn_t, nn_f, im_t, im_f, nn_n, xR_s, xR_z, c0, c1, c2, c3, c4, c5, c6, c7, c8, c9, c10, c11, c12, iPuI_e, iPuR_e, iPuL_e, iStoI_e, iStoR_e, iInc_e, iAdd_e, iSub_e, iMul_e, iAnd_e, iOr_e, iShl_e, iShr_e, iPo_i, iLdi_e, iUshr_e, iDiv_e, iRem_e, iLushr_e, iLshl_e, iLand_e, iLor_e, iLcmp_e, iI2l_e, iL2i_e, iI2c_e, iDup_e, iDup2_e, iIf_e, iIfc_e, iSwA, iSw_e, iGetf_r, iGetf_i, iGetf_z, iPutf_i, iPutf_z, iPutf_rt, iPutf_rf, iGets_e, iLdc_e, iAl_e, iAl2_e, iAlr_e, iAq_e, iAq2_e, iAsI_e, iAsZ_e, iAsC_e, iAs2_e, iAt_e, iAt2_e, iLen_e, iNew_e, iNwa_e, iNwq_e, iPop, iCl2_s, iCl2_n, iIv2_e, iIv_e, iIv_c, iIs2_e, iIs_e, iIs_n, iIs_max, iIs_min, iIs_cop, iCp2_e, iIp2_e, iIp_o, iIp_2, iIp_3, iRet_i, iRet_z, iRtv_e, xE_iconst, xE_bipush, xE_sipush, xE_lconst, xE_ldc2_w, xE_iload_n, xE_iload, xE_lload_n, xE_aload_n, xE_aload, xE_istore_n, xE_istore, xE_astore_n, xE_astore, xE_iinc, xE_iadd, xE_isub, xE_imul, xE_idiv, xE_irem, xE_iand, xE_ior, xE_ishl, xE_ishr, xE_pop, xE_ldc, xE_iushr, xE_lushr, xE_lshl, xE_land, xE_lor, xE_lcmp, xE_i2l, xE_l2i, xE_i2c, xE_dup, xE_dup2, xE_ifCond, xE_if_icmp, xE_goto, xE_getfield, xE_putfield, xE_getstatic, xE_baload, xE_caload, xE_iaload, xE_aaload, xE_iastore, xE_bastore, xE_castore, xE_aastore, xE_arraylength, xE_new, xE_newarray_int, xE_newarray_boolean, xE_newarray_char, xE_anewarray, xE_checkcast, xE_invokevirtual, xE_invokestatic, xE_invokespecial, xE_ireturn, xE_return_, xE_tableswitch, eCl, eKd, wCnd, pf0, wArgs, lg_n, lg_0, lg_s, wNl_n, wNl_i, wNl_r, wCat_n, wCat_i, wCat_r, wCat_l, cInt, cRef, cLong, fv0, fv1, fv2, fv3, fw0, fw1, oi_m1, oi_0, oi_1, oi_2, oi_3, oi_4, oi_5, wRf, wLn_n, wLn_c, List.length_cons, List.length_nil, List.replicate, List.set_cons_zero, List.set_cons_succ, List.cons_append, List.nil_append, List.mem_cons, List.not_mem_nil, if_true, if_false, ↓reduceIte, true_and, and_true, or_true, true_or, or_false, false_or, Option.toList, Nat.reduceAdd, Nat.reduceSub, Nat.reduceLT, Nat.reduceLeDiff, Nat.reduceEqDiff, Nat.le_refl, eq_self, Nat.zero_le, Int.cast_ofNat_Int, Int.reduceSub, Int.reduceAdd, Int.reduceLE, Int.reduceToNat, Int.reduceNeg, Int32.reduceAdd, Int32.reduceSub, Int32.reduceMul, Int32.reduceLT, i_leF, Bool.false_eq_true, Bool.true_eq_false, b2i_T, b2i_F, b2i_0, b2i_01, i_a0, not_false_eq_true, oi_6, oi_7, oi_8, oi_9, oi_10, oi_11, oi_12, oi_13, oi_14, oi_15, oi_16, oi_17, oi_18, oi_19, oi_20, oi_21, dX5_takeVote_0, dX5_takeVote_1, fo_5_38, dX5_takeVote_4, dX5_takeVote_5, fo_5_94, dX5_takeVote_8, dX5_takeVote_9, fo_5_109, dX5_takeVote_12, dX5_takeVote_13, co_5_136, dX5_takeVote_16, dX5_takeVote_19, dX5_takeVote_20, fo_5_31, dX5_takeVote_23, dX5_takeVote_24, dX5_takeVote_27, dX5_takeVote_28, dX5_takeVote_30, dX5_takeVote_32, dX5_takeVote_33, fo_5_140, dX5_takeVote_36, dX5_takeVote_37, dX5_takeVote_38, dX5_takeVote_41, dX5_takeVote_43, dX5_takeVote_44, fo_5_143, dX5_takeVote_47, dX5_takeVote_48, dX5_takeVote_49, dX5_takeVote_52, dX5_takeVote_53, dX5_takeVote_54, dX5_takeVote_57, co_5_144, dX5_takeVote_60, pf1]
  exact ⟨FRn_t hf2 hf3, by rw [hP3, nP_f, nP_f, hP1], hS3, hV3⟩
