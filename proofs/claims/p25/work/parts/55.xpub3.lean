/-- from the first to the last: a later one is taken only if it is less -/
def fwd (p : Nat → Bool) (key : Nat → Int) : Nat → Option Nat
  | 0 => none
  | k + 1 => match fwd p key k with
    | none => if p k = true then some k else none
    | some f => if p k = true ∧ key k < key f then some k else some f
theorem fwd_some {p : Nat → Bool} {key : Nat → Int} : ∀ {n j : Nat}, fwd p key n = some j → j < n ∧ p j = true ∧ ∀ i, i < n → p i = true → key j ≤ key i ∧ (i < j → key j < key i)
  | 0, j, h => by cases h
  | n + 1, j, h => by
    simp only [fwd] at h
    cases e : fwd p key n with
    | none =>
      rw [e] at h
      simp only at h
      split at h
      · next hp =>
        cases h
        refine ⟨by omega, hp, fun i hi hpi => ?_⟩
        by_cases hin : i = n
        · subst hin; exact ⟨Int.le_refl _, fun q => by omega⟩
        · exfalso
          have : ∀ m, fwd p key m = none → ∀ i, i < m → p i = true → False := by
            intro m
            induction m with
            | zero => intro _ i hi; omega
            | succ m ih =>
              intro hm i hi hpi
              simp only [fwd] at hm
              cases e2 : fwd p key m with
              | some x => rw [e2] at hm; simp only at hm; split at hm <;> cases hm
              | none =>
                rw [e2] at hm
                simp only at hm
                by_cases him : i = m
                · subst him; rw [if_pos hpi] at hm; cases hm
                · exact ih e2 i (by omega) hpi
          exact this n e i (by omega) hpi
      · cases h
    | some f =>
      rw [e] at h
      simp only at h
      obtain ⟨g1, g2, g3⟩ := fwd_some e
      split at h
      · next hc =>
        cases h
        refine ⟨by omega, hc.1, fun i hi hpi => ?_⟩
        by_cases hin : i = n
        · subst hin; exact ⟨Int.le_refl _, fun q => by omega⟩
        · have := (g3 i (by omega) hpi).1
          have := hc.2
          exact ⟨by omega, fun _ => by omega⟩
      · next hc =>
        cases h
        refine ⟨by omega, g2, fun i hi hpi => ?_⟩
        by_cases hin : i = n
        · subst hin
          have : ¬ key i < key j := fun q => hc ⟨hpi, q⟩
          exact ⟨by omega, fun q => by omega⟩
        · exact g3 i (by omega) hpi
theorem fwd_none {p : Nat → Bool} {key : Nat → Int} : ∀ {n : Nat}, fwd p key n = none → ∀ i, i < n → p i = false
  | 0, _ => fun i hi => by omega
  | n + 1, h => by
    simp only [fwd] at h
    cases e : fwd p key n with
    | some x => rw [e] at h; simp only at h; split at h <;> cases h
    | none =>
      rw [e] at h
      simp only at h
      intro i hi
      by_cases him : i = n
      · subst him
        cases hp : p i with
        | false => rfl
        | true => rw [if_pos hp] at h; cases h
      · exact fwd_none e i (by omega)
theorem dwn_spec {p : Nat → Bool} {c : Nat → Nat → Bool} {key : Nat → Int} (hc : ∀ a b, c a b = true ↔ key a ≤ key b) {n : Nat} : ∀ {j : Nat}, j ≤ n →
    match dwn p c n j with
    | none => ∀ i, n - j ≤ i → i < n → p i = false
    | some f => n - j ≤ f ∧ f < n ∧ p f = true ∧ ∀ i, n - j ≤ i → i < n → p i = true → key f ≤ key i ∧ (i < f → key f < key i)
  | 0, _ => fun i h1 h2 => by omega
  | j + 1, hj => by
    have ih := dwn_spec hc (p := p) (show j ≤ n by omega)
    simp only [dwn]
    have ex : ∀ i, n - (j + 1) ≤ i → ¬ i = n - 1 - j → n - j ≤ i := fun i h1 h2 => by omega
    cases e : dwn p c n j with
    | none =>
      rw [e] at ih
      simp only at ih ⊢
      cases hp : p (n - 1 - j) with
      | true =>
        simp only [if_true]
        refine ⟨by omega, by omega, hp, fun i h1 h2 h3 => ?_⟩
        by_cases hi : i = n - 1 - j
        · subst hi; exact ⟨Int.le_refl _, fun q => by omega⟩
        · rw [ih i (ex i h1 hi) h2] at h3; cases h3
      | false =>
        simp only [Bool.false_eq_true, if_false]
        intro i h1 h2
        by_cases hi : i = n - 1 - j
        · subst hi; exact hp
        · exact ih i (ex i h1 hi) h2
    | some f =>
      rw [e] at ih
      simp only at ih ⊢
      obtain ⟨g1, g2, g3, g4⟩ := ih
      by_cases hcc : p (n - 1 - j) = true ∧ c (n - 1 - j) f = true
      · rw [if_pos hcc]
        simp only
        have hk := (hc _ _).mp hcc.2
        refine ⟨by omega, by omega, hcc.1, fun i h1 h2 h3 => ?_⟩
        by_cases hi : i = n - 1 - j
        · subst hi; exact ⟨Int.le_refl _, fun q => by omega⟩
        · have := g4 i (ex i h1 hi) h2 h3
          exact ⟨by omega, fun q => by omega⟩
      · rw [if_neg hcc]
        simp only
        refine ⟨by omega, g2, g3, fun i h1 h2 h3 => ?_⟩
        by_cases hi : i = n - 1 - j
        · subst hi
          have : ¬ key (n - 1 - j) ≤ key f := fun q => hcc ⟨h3, (hc _ _).mpr q⟩
          exact ⟨by omega, fun _ => by omega⟩
        · exact g4 i (ex i h1 hi) h2 h3
theorem fwd_dwn {p : Nat → Bool} {c : Nat → Nat → Bool} {key : Nat → Int} (hc : ∀ a b, c a b = true ↔ key a ≤ key b) (n : Nat) : fwd p key n = dwn p c n n := by
  have hd := dwn_spec hc (p := p) (Nat.le_refl n)
  cases e : fwd p key n with
  | none =>
    have h1 := fwd_none e
    cases e2 : dwn p c n n with
    | none => rfl
    | some f =>
      rw [e2] at hd
      simp only at hd
      rw [h1 f hd.2.1] at hd
      exact absurd hd.2.2.1 (by decide)
  | some j =>
    obtain ⟨h1, h2, h3⟩ := fwd_some e
    cases e2 : dwn p c n n with
    | none =>
      rw [e2] at hd
      simp only at hd
      rw [hd j (by omega) h1] at h2
      cases h2
    | some f =>
      rw [e2] at hd
      simp only at hd
      obtain ⟨g1, g2, g3, g4⟩ := hd
      have a1 := h3 f g2 g3
      have a2 := g4 j (by omega) h1 h2
      have : j = f := by
        by_cases q : j < f
        · have := a2.2 q; omega
        · by_cases q2 : f < j
          · have := a1.2 q2; omega
          · omega
      rw [this]
def mmK (v : Nat → Int32) (k : Nat) : Int := - (v (39 + 6 * k)).toInt
theorem mm_e (v : Nat → Int32) : fwd (mmP v) (mmK v) (nW v) = qMm v := by
  refine fwd_dwn (fun a b => ?_) _
  unfold mmC mmK
  rw [decide_eq_true_eq, t_lt]
  omega
def nrK (v : Nat → Int32) (k : Nat) : Int := (mLck v k).toInt
theorem nr_e (v : Nat → Int32) : fwd (nrP v) (nrK v) (nW v) = qNr v := by
  refine fwd_dwn (fun a b => ?_) _
  unfold nrC nrK
  rw [decide_eq_true_eq, t_lt]
  omega
def oF (o : Option Nat) (f : Nat → Int32) : Int32 := match o with
  | none => 0
  | some j => f j
set_option maxRecDepth 100000 in
set_option maxHeartbeats 4000000 in
theorem ct_xmostMissed (G : wG) (M : wMem) (hN : RN M) : CT G 65 0 0 [.ref 0] M (fun o M' => o = some (.int (oN (qMm (wI M 253)) (-6))) ∧ M' = M) := by
  have hN2 := hN
  obtain ⟨hX, hS, hR, hI⟩ := hN2
  obtain ⟨⟨x1, x2, x3, x4, x5, x6, x7⟩, ⟨p1, p2, p3⟩, ⟨d1, d2, d3, d4, d5, d6⟩, ⟨f1, f2, f3, f4, f5⟩⟩ := hX
  obtain ⟨n1, n2, n3, n4, n5, n6, n7, n8, l1, l2, l3, l4, l5, l6, l7, l8, l9⟩ := SLn hS
  refine CT.intro wm_65 mo_65 (by decide +kernel) false (by simp) (Nat.le_of_ble_eq_true rfl) ?_
  rw [← mm_e]
  generalize hv : wI M 253 = v at *
  have h12 := hR.1.2.1
  have r4 : wI M 6 4 = nI (nW v) := by rw [show wI M 6 4 = v 6 from hR.2.2.1.1]; exact hR.1.1
  have loop : ∀ k, k ≤ nW v → wp G 7 false (some .int) 1 0 0 cX7_mostMissed (fun o M' => o = some (.int (oN (fwd (mmP v) (mmK v) (nW v)) (-6))) ∧ M' = M) 7 [some (.ref 0), some (.int (oN (fwd (mmP v) (mmK v) k) (-6))), some (.int (oF (fwd (mmP v) (mmK v) k) (fun f => v (39 + 6 * f)))), some (.int (nI k))] [] M 0 0 := by
    refine loopD ?_ (fun k hk ih => ?_)
    · have e1 : (nI (nW v) < nI (nW v)) = False := eq_false (nI_nlt (Nat.le_refl _) (by omega))
      refine wGoC (pf_isTold_ok G) 80 [] [7] (fun C c0 c1 c2 c3 c4 c5 c6 c7 c8 c9 c10 c11 c12 => ?_)
      simp (config := {maxSteps := 10000000}) only [i1_0, nn_t, nn_f, im_t, im_f, nn_n, xR_s, xR_z, c0, c1, c2, c3, c4, c5, c6, c7, c8, c9, c10, c11, c12, iPuI_e, iPuR_e, iPuL_e, iStoI_e, iStoR_e, iInc_e, iAdd_e, iSub_e, iMul_e, iAnd_e, iOr_e, iShl_e, iShr_e, iPo_i, iLdi_e, iUshr_e, iDiv_e, iRem_e, iLushr_e, iLshl_e, iLand_e, iLor_e, iLcmp_e, iI2l_e, iL2i_e, iI2c_e, iDup_e, iDup2_e, iIf_e, iIfc_e, iSwA, iSw_e, iGetf_r, iGetf_i, iGetf_z, iPutf_i, iPutf_z, iPutf_rt, iPutf_rf, iGets_e, iLdc_e, iAl_e, iAl2_e, iAlr_e, iAq_e, iAq2_e, iAsI_e, iAsZ_e, iAsC_e, iAs2_e, iAt_e, iAt2_e, iLen_e, iNew_e, iNwa_e, iNwq_e, iPop, iCl2_s, iCl2_n, iIv2_e, iIv_e, iIv_c, iIs2_e, iIs_e, iIs_n, iIs_max, iIs_min, iIs_cop, iCp2_e, iIp2_e, iIp_o, iIp_2, iIp_3, iRet_i, iRet_z, iRtv_e, xE_iconst, xE_bipush, xE_sipush, xE_lconst, xE_ldc2_w, xE_iload_n, xE_iload, xE_lload_n, xE_aload_n, xE_aload, xE_istore_n, xE_istore, xE_astore_n, xE_astore, xE_iinc, xE_iadd, xE_isub, xE_imul, xE_idiv, xE_irem, xE_iand, xE_ior, xE_ishl, xE_ishr, xE_pop, xE_ldc, xE_iushr, xE_lushr, xE_lshl, xE_land, xE_lor, xE_lcmp, xE_i2l, xE_l2i, xE_i2c, xE_dup, xE_dup2, xE_ifCond, xE_if_icmp, xE_goto, xE_getfield, xE_putfield, xE_getstatic, xE_baload, xE_caload, xE_iaload, xE_aaload, xE_iastore, xE_bastore, xE_castore, xE_aastore, xE_arraylength, xE_new, xE_newarray_int, xE_newarray_boolean, xE_newarray_char, xE_anewarray, xE_checkcast, xE_invokevirtual, xE_invokestatic, xE_invokespecial, xE_ireturn, xE_return_, xE_tableswitch, eCl, eKd, wCnd, pf0, wArgs, lg_n, lg_0, lg_s, wNl_n, wNl_i, wNl_r, wCat_n, wCat_i, wCat_r, wCat_l, cInt, cRef, cLong, fv0, fv1, fv2, fv3, fw0, fw1, oi_m1, oi_0, oi_1, oi_2, oi_3, oi_4, oi_5, wRf, wLn_n, wLn_c, List.length_cons, List.length_nil, List.replicate, List.set_cons_zero, List.set_cons_succ, List.cons_append, List.nil_append, List.mem_cons, List.not_mem_nil, if_true, if_false, ↓reduceIte, true_and, and_true, or_true, true_or, or_false, false_or, Option.toList, Nat.reduceAdd, Nat.reduceSub, Nat.reduceLT, Nat.reduceLeDiff, Nat.reduceEqDiff, Nat.le_refl, eq_self, Nat.zero_le, Int.cast_ofNat_Int, Int.reduceSub, Int.reduceAdd, Int.reduceLE, Int.reduceToNat, Int.reduceNeg, Int32.reduceAdd, Int32.reduceSub, Int32.reduceMul, Int32.reduceLT, i_leF, Bool.false_eq_true, Bool.true_eq_false, b2i_T, b2i_F, b2i_0, b2i_01, i_a0, not_false_eq_true, oi_6, oi_7, oi_8, oi_9, oi_10, oi_11, oi_12, oi_13, oi_14, oi_15, oi_16, oi_17, oi_18, oi_19, oi_20, oi_21, dX7_mostMissed_0, bp_m6, dX7_mostMissed_2, dX7_mostMissed_3, dX7_mostMissed_4, dX7_mostMissed_5, dX7_mostMissed_6, dX7_mostMissed_7, dX7_mostMissed_8, dX7_mostMissed_9, fo_7_24, dX7_mostMissed_12, fo_7_196, dX7_mostMissed_15, dX7_mostMissed_18, dX7_mostMissed_19, dX7_mostMissed_22, fo_7_93, dX7_mostMissed_25, dX7_mostMissed_26, dX7_mostMissed_27, co_7_97, dX7_mostMissed_30, dX7_mostMissed_33, dX7_mostMissed_34, dX7_mostMissed_37, dX7_mostMissed_40, dX7_mostMissed_41, dX7_mostMissed_42, fo_7_161, dX7_mostMissed_45, dX7_mostMissed_46, dX7_mostMissed_49, dX7_mostMissed_50, dX7_mostMissed_51, dX7_mostMissed_52, dX7_mostMissed_55, dX7_mostMissed_58, dX7_mostMissed_59, dX7_mostMissed_60, dX7_mostMissed_63, dX7_mostMissed_64, dX7_mostMissed_67, dX7_mostMissed_70, dX7_mostMissed_71, pfA, pf1, pf_xin, s_xin, pf_xis, s_xis, pf_xleadingLetters, s_xleadingLetters, pf_xleadingWeight, s_xleadingWeight, pf_xleadOf, s_xleadOf, pf_lettersIn, s_lettersIn, pf_aboutLetters, s_aboutLetters, pf_xhasWord, s_xhasWord, pf_xhasRoom, s_xhasRoom, pf_xkind, s_xkind, pf_xtbr, s_xtbr, pf_xlack, s_xlack, pf_xrank, s_xrank, pf_xwok, s_xwok, pf_xaa, s_xaa, pf_xar, s_xar, pf_xat, s_xat, pf_xunl, s_xunl, pf_xpla, s_xpla, pf_xrbw, s_xrbw, pf_xlw, s_xlw, pf_xlo, s_xlo, pf_isTold, s_isTold, e1, r4, x1, x2, x3, x4, x5, x6, x7, p1, p2, p3, d1, d2, d3, d4, d5, d6, f1, f2, f3, f4, f5, n1, n2, n3, n4, n5, n6, n7, n8, l1, l2, l3, l4, l5, l6, l7, l8, l9]
    · have e1 : (nI k < nI (nW v)) = True := eq_true (nI_lt hk (by omega))
      obtain ⟨q, q1, q2, q3, q4⟩ := SLw hS (show k < 12 by omega)
      obtain ⟨w0, w1, w2, w3, w4, w5⟩ := hR.2.2.2.2.1 k hk q q1
      simp only [fwd] at ih
      cases hl : fwd (mmP v) (mmK v) k with
      | none =>
        simp only [hl, mmP, decide_eq_true_eq] at ih
        refine wGoC (pf_isTold_ok G) 120 [] [7] (fun C c0 c1 c2 c3 c4 c5 c6 c7 c8 c9 c10 c11 c12 => ?_)
        simp (config := {maxSteps := 10000000}) only [i1_0, nn_t, nn_f, im_t, im_f, nn_n, xR_s, xR_z, c0, c1, c2, c3, c4, c5, c6, c7, c8, c9, c10, c11, c12, iPuI_e, iPuR_e, iPuL_e, iStoI_e, iStoR_e, iInc_e, iAdd_e, iSub_e, iMul_e, iAnd_e, iOr_e, iShl_e, iShr_e, iPo_i, iLdi_e, iUshr_e, iDiv_e, iRem_e, iLushr_e, iLshl_e, iLand_e, iLor_e, iLcmp_e, iI2l_e, iL2i_e, iI2c_e, iDup_e, iDup2_e, iIf_e, iIfc_e, iSwA, iSw_e, iGetf_r, iGetf_i, iGetf_z, iPutf_i, iPutf_z, iPutf_rt, iPutf_rf, iGets_e, iLdc_e, iAl_e, iAl2_e, iAlr_e, iAq_e, iAq2_e, iAsI_e, iAsZ_e, iAsC_e, iAs2_e, iAt_e, iAt2_e, iLen_e, iNew_e, iNwa_e, iNwq_e, iPop, iCl2_s, iCl2_n, iIv2_e, iIv_e, iIv_c, iIs2_e, iIs_e, iIs_n, iIs_max, iIs_min, iIs_cop, iCp2_e, iIp2_e, iIp_o, iIp_2, iIp_3, iRet_i, iRet_z, iRtv_e, xE_iconst, xE_bipush, xE_sipush, xE_lconst, xE_ldc2_w, xE_iload_n, xE_iload, xE_lload_n, xE_aload_n, xE_aload, xE_istore_n, xE_istore, xE_astore_n, xE_astore, xE_iinc, xE_iadd, xE_isub, xE_imul, xE_idiv, xE_irem, xE_iand, xE_ior, xE_ishl, xE_ishr, xE_pop, xE_ldc, xE_iushr, xE_lushr, xE_lshl, xE_land, xE_lor, xE_lcmp, xE_i2l, xE_l2i, xE_i2c, xE_dup, xE_dup2, xE_ifCond, xE_if_icmp, xE_goto, xE_getfield, xE_putfield, xE_getstatic, xE_baload, xE_caload, xE_iaload, xE_aaload, xE_iastore, xE_bastore, xE_castore, xE_aastore, xE_arraylength, xE_new, xE_newarray_int, xE_newarray_boolean, xE_newarray_char, xE_anewarray, xE_checkcast, xE_invokevirtual, xE_invokestatic, xE_invokespecial, xE_ireturn, xE_return_, xE_tableswitch, eCl, eKd, wCnd, pf0, wArgs, lg_n, lg_0, lg_s, wNl_n, wNl_i, wNl_r, wCat_n, wCat_i, wCat_r, wCat_l, cInt, cRef, cLong, fv0, fv1, fv2, fv3, fw0, fw1, oi_m1, oi_0, oi_1, oi_2, oi_3, oi_4, oi_5, wRf, wLn_n, wLn_c, List.length_cons, List.length_nil, List.replicate, List.set_cons_zero, List.set_cons_succ, List.cons_append, List.nil_append, List.mem_cons, List.not_mem_nil, if_true, if_false, ↓reduceIte, true_and, and_true, or_true, true_or, or_false, false_or, Option.toList, Nat.reduceAdd, Nat.reduceSub, Nat.reduceLT, Nat.reduceLeDiff, Nat.reduceEqDiff, Nat.le_refl, eq_self, Nat.zero_le, Int.cast_ofNat_Int, Int.reduceSub, Int.reduceAdd, Int.reduceLE, Int.reduceToNat, Int.reduceNeg, Int32.reduceAdd, Int32.reduceSub, Int32.reduceMul, Int32.reduceLT, i_leF, Bool.false_eq_true, Bool.true_eq_false, b2i_T, b2i_F, b2i_0, b2i_01, i_a0, not_false_eq_true, oi_6, oi_7, oi_8, oi_9, oi_10, oi_11, oi_12, oi_13, oi_14, oi_15, oi_16, oi_17, oi_18, oi_19, oi_20, oi_21, dX7_mostMissed_0, bp_m6, dX7_mostMissed_2, dX7_mostMissed_3, dX7_mostMissed_4, dX7_mostMissed_5, dX7_mostMissed_6, dX7_mostMissed_7, dX7_mostMissed_8, dX7_mostMissed_9, fo_7_24, dX7_mostMissed_12, fo_7_196, dX7_mostMissed_15, dX7_mostMissed_18, dX7_mostMissed_19, dX7_mostMissed_22, fo_7_93, dX7_mostMissed_25, dX7_mostMissed_26, dX7_mostMissed_27, co_7_97, dX7_mostMissed_30, dX7_mostMissed_33, dX7_mostMissed_34, dX7_mostMissed_37, dX7_mostMissed_40, dX7_mostMissed_41, dX7_mostMissed_42, fo_7_161, dX7_mostMissed_45, dX7_mostMissed_46, dX7_mostMissed_49, dX7_mostMissed_50, dX7_mostMissed_51, dX7_mostMissed_52, dX7_mostMissed_55, dX7_mostMissed_58, dX7_mostMissed_59, dX7_mostMissed_60, dX7_mostMissed_63, dX7_mostMissed_64, dX7_mostMissed_67, dX7_mostMissed_70, dX7_mostMissed_71, pfA, pf1, pf_xin, s_xin, pf_xis, s_xis, pf_xleadingLetters, s_xleadingLetters, pf_xleadingWeight, s_xleadingWeight, pf_xleadOf, s_xleadOf, pf_lettersIn, s_lettersIn, pf_aboutLetters, s_aboutLetters, pf_xhasWord, s_xhasWord, pf_xhasRoom, s_xhasRoom, pf_xkind, s_xkind, pf_xtbr, s_xtbr, pf_xlack, s_xlack, pf_xrank, s_xrank, pf_xwok, s_xwok, pf_xaa, s_xaa, pf_xar, s_xar, pf_xat, s_xat, pf_xunl, s_xunl, pf_xpla, s_xpla, pf_xrbw, s_xrbw, pf_xlw, s_xlw, pf_xlo, s_xlo, pf_isTold, s_isTold, e1, r4, x1, x2, x3, x4, x5, x6, x7, p1, p2, p3, d1, d2, d3, d4, d5, d6, f1, f2, f3, f4, f5, n1, n2, n3, n4, n5, n6, n7, n8, l1, l2, l3, l4, l5, l6, l7, l8, l9, q1, q2, vp_in_nI (show k < 12 by omega) (by decide), nI_clamp (show k < 2 ^ 31 by omega), w0, w3, oF, oN_n, nI_1s, tldB, decide_eq_true_eq]
        repeat' (first | refine And.intro ?_ ?_ | (with_reducible show _ → _; intro _))
        all_goals simpa [oN, oF, *] using ih
      | some f =>
        have hf := (fwd_some hl).2.1
        have hf0 : 0 < v (39 + 6 * f) := (of_decide_eq_true hf).2
        simp only [hl, mmP, mmK, decide_eq_true_eq] at ih
        have ek : (-(v (39 + 6 * k)).toInt < -(v (39 + 6 * f)).toInt) = (v (39 + 6 * f) < v (39 + 6 * k)) := propext (by rw [t_lt]; omega)
        simp only [ek] at ih
        have hpos : v (39 + 6 * f) < v (39 + 6 * k) → 0 < v (39 + 6 * k) := fun h => Int32.lt_trans hf0 h
        refine wGoC (pf_isTold_ok G) 120 [] [7] (fun C c0 c1 c2 c3 c4 c5 c6 c7 c8 c9 c10 c11 c12 => ?_)
        simp (config := {maxSteps := 10000000}) only [i1_0, nn_t, nn_f, im_t, im_f, nn_n, xR_s, xR_z, c0, c1, c2, c3, c4, c5, c6, c7, c8, c9, c10, c11, c12, iPuI_e, iPuR_e, iPuL_e, iStoI_e, iStoR_e, iInc_e, iAdd_e, iSub_e, iMul_e, iAnd_e, iOr_e, iShl_e, iShr_e, iPo_i, iLdi_e, iUshr_e, iDiv_e, iRem_e, iLushr_e, iLshl_e, iLand_e, iLor_e, iLcmp_e, iI2l_e, iL2i_e, iI2c_e, iDup_e, iDup2_e, iIf_e, iIfc_e, iSwA, iSw_e, iGetf_r, iGetf_i, iGetf_z, iPutf_i, iPutf_z, iPutf_rt, iPutf_rf, iGets_e, iLdc_e, iAl_e, iAl2_e, iAlr_e, iAq_e, iAq2_e, iAsI_e, iAsZ_e, iAsC_e, iAs2_e, iAt_e, iAt2_e, iLen_e, iNew_e, iNwa_e, iNwq_e, iPop, iCl2_s, iCl2_n, iIv2_e, iIv_e, iIv_c, iIs2_e, iIs_e, iIs_n, iIs_max, iIs_min, iIs_cop, iCp2_e, iIp2_e, iIp_o, iIp_2, iIp_3, iRet_i, iRet_z, iRtv_e, xE_iconst, xE_bipush, xE_sipush, xE_lconst, xE_ldc2_w, xE_iload_n, xE_iload, xE_lload_n, xE_aload_n, xE_aload, xE_istore_n, xE_istore, xE_astore_n, xE_astore, xE_iinc, xE_iadd, xE_isub, xE_imul, xE_idiv, xE_irem, xE_iand, xE_ior, xE_ishl, xE_ishr, xE_pop, xE_ldc, xE_iushr, xE_lushr, xE_lshl, xE_land, xE_lor, xE_lcmp, xE_i2l, xE_l2i, xE_i2c, xE_dup, xE_dup2, xE_ifCond, xE_if_icmp, xE_goto, xE_getfield, xE_putfield, xE_getstatic, xE_baload, xE_caload, xE_iaload, xE_aaload, xE_iastore, xE_bastore, xE_castore, xE_aastore, xE_arraylength, xE_new, xE_newarray_int, xE_newarray_boolean, xE_newarray_char, xE_anewarray, xE_checkcast, xE_invokevirtual, xE_invokestatic, xE_invokespecial, xE_ireturn, xE_return_, xE_tableswitch, eCl, eKd, wCnd, pf0, wArgs, lg_n, lg_0, lg_s, wNl_n, wNl_i, wNl_r, wCat_n, wCat_i, wCat_r, wCat_l, cInt, cRef, cLong, fv0, fv1, fv2, fv3, fw0, fw1, oi_m1, oi_0, oi_1, oi_2, oi_3, oi_4, oi_5, wRf, wLn_n, wLn_c, List.length_cons, List.length_nil, List.replicate, List.set_cons_zero, List.set_cons_succ, List.cons_append, List.nil_append, List.mem_cons, List.not_mem_nil, if_true, if_false, ↓reduceIte, true_and, and_true, or_true, true_or, or_false, false_or, Option.toList, Nat.reduceAdd, Nat.reduceSub, Nat.reduceLT, Nat.reduceLeDiff, Nat.reduceEqDiff, Nat.le_refl, eq_self, Nat.zero_le, Int.cast_ofNat_Int, Int.reduceSub, Int.reduceAdd, Int.reduceLE, Int.reduceToNat, Int.reduceNeg, Int32.reduceAdd, Int32.reduceSub, Int32.reduceMul, Int32.reduceLT, i_leF, Bool.false_eq_true, Bool.true_eq_false, b2i_T, b2i_F, b2i_0, b2i_01, i_a0, not_false_eq_true, oi_6, oi_7, oi_8, oi_9, oi_10, oi_11, oi_12, oi_13, oi_14, oi_15, oi_16, oi_17, oi_18, oi_19, oi_20, oi_21, dX7_mostMissed_0, bp_m6, dX7_mostMissed_2, dX7_mostMissed_3, dX7_mostMissed_4, dX7_mostMissed_5, dX7_mostMissed_6, dX7_mostMissed_7, dX7_mostMissed_8, dX7_mostMissed_9, fo_7_24, dX7_mostMissed_12, fo_7_196, dX7_mostMissed_15, dX7_mostMissed_18, dX7_mostMissed_19, dX7_mostMissed_22, fo_7_93, dX7_mostMissed_25, dX7_mostMissed_26, dX7_mostMissed_27, co_7_97, dX7_mostMissed_30, dX7_mostMissed_33, dX7_mostMissed_34, dX7_mostMissed_37, dX7_mostMissed_40, dX7_mostMissed_41, dX7_mostMissed_42, fo_7_161, dX7_mostMissed_45, dX7_mostMissed_46, dX7_mostMissed_49, dX7_mostMissed_50, dX7_mostMissed_51, dX7_mostMissed_52, dX7_mostMissed_55, dX7_mostMissed_58, dX7_mostMissed_59, dX7_mostMissed_60, dX7_mostMissed_63, dX7_mostMissed_64, dX7_mostMissed_67, dX7_mostMissed_70, dX7_mostMissed_71, pfA, pf1, pf_xin, s_xin, pf_xis, s_xis, pf_xleadingLetters, s_xleadingLetters, pf_xleadingWeight, s_xleadingWeight, pf_xleadOf, s_xleadOf, pf_lettersIn, s_lettersIn, pf_aboutLetters, s_aboutLetters, pf_xhasWord, s_xhasWord, pf_xhasRoom, s_xhasRoom, pf_xkind, s_xkind, pf_xtbr, s_xtbr, pf_xlack, s_xlack, pf_xrank, s_xrank, pf_xwok, s_xwok, pf_xaa, s_xaa, pf_xar, s_xar, pf_xat, s_xat, pf_xunl, s_xunl, pf_xpla, s_xpla, pf_xrbw, s_xrbw, pf_xlw, s_xlw, pf_xlo, s_xlo, pf_isTold, s_isTold, e1, r4, x1, x2, x3, x4, x5, x6, x7, p1, p2, p3, d1, d2, d3, d4, d5, d6, f1, f2, f3, f4, f5, n1, n2, n3, n4, n5, n6, n7, n8, l1, l2, l3, l4, l5, l6, l7, l8, l9, q1, q2, vp_in_nI (show k < 12 by omega) (by decide), nI_clamp (show k < 2 ^ 31 by omega), w0, w3, oF, oN_s, nI_1s, tldB, decide_eq_true_eq]
        repeat' (first | refine And.intro ?_ ?_ | (with_reducible show _ → _; intro _))
        all_goals first | (simpa [oN, oF, *] using ih) | (have := hpos ‹_›; simpa [oN, oF, *] using ih)
  refine wGoC (pf_isTold_ok G) 80 [] [7] (fun C c0 c1 c2 c3 c4 c5 c6 c7 c8 c9 c10 c11 c12 => ?_)
  simp (config := {maxSteps := 10000000}) only [i1_0, nn_t, nn_f, im_t, im_f, nn_n, xR_s, xR_z, c0, c1, c2, c3, c4, c5, c6, c7, c8, c9, c10, c11, c12, iPuI_e, iPuR_e, iPuL_e, iStoI_e, iStoR_e, iInc_e, iAdd_e, iSub_e, iMul_e, iAnd_e, iOr_e, iShl_e, iShr_e, iPo_i, iLdi_e, iUshr_e, iDiv_e, iRem_e, iLushr_e, iLshl_e, iLand_e, iLor_e, iLcmp_e, iI2l_e, iL2i_e, iI2c_e, iDup_e, iDup2_e, iIf_e, iIfc_e, iSwA, iSw_e, iGetf_r, iGetf_i, iGetf_z, iPutf_i, iPutf_z, iPutf_rt, iPutf_rf, iGets_e, iLdc_e, iAl_e, iAl2_e, iAlr_e, iAq_e, iAq2_e, iAsI_e, iAsZ_e, iAsC_e, iAs2_e, iAt_e, iAt2_e, iLen_e, iNew_e, iNwa_e, iNwq_e, iPop, iCl2_s, iCl2_n, iIv2_e, iIv_e, iIv_c, iIs2_e, iIs_e, iIs_n, iIs_max, iIs_min, iIs_cop, iCp2_e, iIp2_e, iIp_o, iIp_2, iIp_3, iRet_i, iRet_z, iRtv_e, xE_iconst, xE_bipush, xE_sipush, xE_lconst, xE_ldc2_w, xE_iload_n, xE_iload, xE_lload_n, xE_aload_n, xE_aload, xE_istore_n, xE_istore, xE_astore_n, xE_astore, xE_iinc, xE_iadd, xE_isub, xE_imul, xE_idiv, xE_irem, xE_iand, xE_ior, xE_ishl, xE_ishr, xE_pop, xE_ldc, xE_iushr, xE_lushr, xE_lshl, xE_land, xE_lor, xE_lcmp, xE_i2l, xE_l2i, xE_i2c, xE_dup, xE_dup2, xE_ifCond, xE_if_icmp, xE_goto, xE_getfield, xE_putfield, xE_getstatic, xE_baload, xE_caload, xE_iaload, xE_aaload, xE_iastore, xE_bastore, xE_castore, xE_aastore, xE_arraylength, xE_new, xE_newarray_int, xE_newarray_boolean, xE_newarray_char, xE_anewarray, xE_checkcast, xE_invokevirtual, xE_invokestatic, xE_invokespecial, xE_ireturn, xE_return_, xE_tableswitch, eCl, eKd, wCnd, pf0, wArgs, lg_n, lg_0, lg_s, wNl_n, wNl_i, wNl_r, wCat_n, wCat_i, wCat_r, wCat_l, cInt, cRef, cLong, fv0, fv1, fv2, fv3, fw0, fw1, oi_m1, oi_0, oi_1, oi_2, oi_3, oi_4, oi_5, wRf, wLn_n, wLn_c, List.length_cons, List.length_nil, List.replicate, List.set_cons_zero, List.set_cons_succ, List.cons_append, List.nil_append, List.mem_cons, List.not_mem_nil, if_true, if_false, ↓reduceIte, true_and, and_true, or_true, true_or, or_false, false_or, Option.toList, Nat.reduceAdd, Nat.reduceSub, Nat.reduceLT, Nat.reduceLeDiff, Nat.reduceEqDiff, Nat.le_refl, eq_self, Nat.zero_le, Int.cast_ofNat_Int, Int.reduceSub, Int.reduceAdd, Int.reduceLE, Int.reduceToNat, Int.reduceNeg, Int32.reduceAdd, Int32.reduceSub, Int32.reduceMul, Int32.reduceLT, i_leF, Bool.false_eq_true, Bool.true_eq_false, b2i_T, b2i_F, b2i_0, b2i_01, i_a0, not_false_eq_true, oi_6, oi_7, oi_8, oi_9, oi_10, oi_11, oi_12, oi_13, oi_14, oi_15, oi_16, oi_17, oi_18, oi_19, oi_20, oi_21, dX7_mostMissed_0, bp_m6, dX7_mostMissed_2, dX7_mostMissed_3, dX7_mostMissed_4, dX7_mostMissed_5, dX7_mostMissed_6, dX7_mostMissed_7, dX7_mostMissed_8, dX7_mostMissed_9, fo_7_24, dX7_mostMissed_12, fo_7_196, dX7_mostMissed_15, dX7_mostMissed_18, dX7_mostMissed_19, dX7_mostMissed_22, fo_7_93, dX7_mostMissed_25, dX7_mostMissed_26, dX7_mostMissed_27, co_7_97, dX7_mostMissed_30, dX7_mostMissed_33, dX7_mostMissed_34, dX7_mostMissed_37, dX7_mostMissed_40, dX7_mostMissed_41, dX7_mostMissed_42, fo_7_161, dX7_mostMissed_45, dX7_mostMissed_46, dX7_mostMissed_49, dX7_mostMissed_50, dX7_mostMissed_51, dX7_mostMissed_52, dX7_mostMissed_55, dX7_mostMissed_58, dX7_mostMissed_59, dX7_mostMissed_60, dX7_mostMissed_63, dX7_mostMissed_64, dX7_mostMissed_67, dX7_mostMissed_70, dX7_mostMissed_71, pfA, pf1, pf_xin, s_xin, pf_xis, s_xis, pf_xleadingLetters, s_xleadingLetters, pf_xleadingWeight, s_xleadingWeight, pf_xleadOf, s_xleadOf, pf_lettersIn, s_lettersIn, pf_aboutLetters, s_aboutLetters, pf_xhasWord, s_xhasWord, pf_xhasRoom, s_xhasRoom, pf_xkind, s_xkind, pf_xtbr, s_xtbr, pf_xlack, s_xlack, pf_xrank, s_xrank, pf_xwok, s_xwok, pf_xaa, s_xaa, pf_xar, s_xar, pf_xat, s_xat, pf_xunl, s_xunl, pf_xpla, s_xpla, pf_xrbw, s_xrbw, pf_xlw, s_xlw, pf_xlo, s_xlo, pf_isTold, s_isTold, x1, x2, x3, x4, x5, x6, x7, p1, p2, p3, d1, d2, d3, d4, d5, d6, f1, f2, f3, f4, f5, n1, n2, n3, n4, n5, n6, n7, n8, l1, l2, l3, l4, l5, l6, l7, l8, l9]
  exact loop 0 (by omega)
set_option maxRecDepth 100000 in
set_option maxHeartbeats 4000000 in
theorem ct_xnearest (G : wG) (M : wMem) (hN : RN M) : CT G 66 0 0 [.ref 0] M (fun o M' => o = some (.int (oN (qNr (wI M 253)) (-6))) ∧ M' = M) := by
  have hN2 := hN
  obtain ⟨hX, hS, hR, hI⟩ := hN2
  obtain ⟨⟨x1, x2, x3, x4, x5, x6, x7⟩, ⟨p1, p2, p3⟩, ⟨d1, d2, d3, d4, d5, d6⟩, ⟨f1, f2, f3, f4, f5⟩⟩ := hX
  obtain ⟨n1, n2, n3, n4, n5, n6, n7, n8, l1, l2, l3, l4, l5, l6, l7, l8, l9⟩ := SLn hS
  refine CT.intro wm_66 mo_66 (by decide +kernel) false (by simp) (Nat.le_of_ble_eq_true rfl) ?_
  rw [← nr_e]
  have h12 := hR.1.2.1
  have r4 : wI M 6 4 = nI (nW (wI M 253)) := by rw [show wI M 6 4 = wI M 253 6 from hR.2.2.1.1]; exact hR.1.1
  have loop : ∀ k, k ≤ nW (wI M 253) → ∀ d, wp G 7 false (some .int) 3 0 0 cX7_nearest (fun o M' => o = some (.int (oN (fwd (nrP (wI M 253)) (nrK (wI M 253)) (nW (wI M 253))) (-6))) ∧ M' = M) 7 [some (.ref 0), some (.int (oN (fwd (nrP (wI M 253)) (nrK (wI M 253)) k) (-6))), some (.int (oF (fwd (nrP (wI M 253)) (nrK (wI M 253)) k) (mLck (wI M 253)))), some (.int (nI k)), d] [] M 0 0 := by
    refine loopD (fun d => ?_) (fun k hk ih d => ?_)
    · have e1 : (nI (nW (wI M 253)) < nI (nW (wI M 253))) = False := eq_false (nI_nlt (Nat.le_refl _) (by omega))
      refine wGoC (pf_isTold_ok G) 80 [] [7] (fun C c0 c1 c2 c3 c4 c5 c6 c7 c8 c9 c10 c11 c12 => ?_)
      simp (config := {maxSteps := 10000000}) only [i1_0, nn_t, nn_f, im_t, im_f, nn_n, xR_s, xR_z, c0, c1, c2, c3, c4, c5, c6, c7, c8, c9, c10, c11, c12, iPuI_e, iPuR_e, iPuL_e, iStoI_e, iStoR_e, iInc_e, iAdd_e, iSub_e, iMul_e, iAnd_e, iOr_e, iShl_e, iShr_e, iPo_i, iLdi_e, iUshr_e, iDiv_e, iRem_e, iLushr_e, iLshl_e, iLand_e, iLor_e, iLcmp_e, iI2l_e, iL2i_e, iI2c_e, iDup_e, iDup2_e, iIf_e, iIfc_e, iSwA, iSw_e, iGetf_r, iGetf_i, iGetf_z, iPutf_i, iPutf_z, iPutf_rt, iPutf_rf, iGets_e, iLdc_e, iAl_e, iAl2_e, iAlr_e, iAq_e, iAq2_e, iAsI_e, iAsZ_e, iAsC_e, iAs2_e, iAt_e, iAt2_e, iLen_e, iNew_e, iNwa_e, iNwq_e, iPop, iCl2_s, iCl2_n, iIv2_e, iIv_e, iIv_c, iIs2_e, iIs_e, iIs_n, iIs_max, iIs_min, iIs_cop, iCp2_e, iIp2_e, iIp_o, iIp_2, iIp_3, iRet_i, iRet_z, iRtv_e, xE_iconst, xE_bipush, xE_sipush, xE_lconst, xE_ldc2_w, xE_iload_n, xE_iload, xE_lload_n, xE_aload_n, xE_aload, xE_istore_n, xE_istore, xE_astore_n, xE_astore, xE_iinc, xE_iadd, xE_isub, xE_imul, xE_idiv, xE_irem, xE_iand, xE_ior, xE_ishl, xE_ishr, xE_pop, xE_ldc, xE_iushr, xE_lushr, xE_lshl, xE_land, xE_lor, xE_lcmp, xE_i2l, xE_l2i, xE_i2c, xE_dup, xE_dup2, xE_ifCond, xE_if_icmp, xE_goto, xE_getfield, xE_putfield, xE_getstatic, xE_baload, xE_caload, xE_iaload, xE_aaload, xE_iastore, xE_bastore, xE_castore, xE_aastore, xE_arraylength, xE_new, xE_newarray_int, xE_newarray_boolean, xE_newarray_char, xE_anewarray, xE_checkcast, xE_invokevirtual, xE_invokestatic, xE_invokespecial, xE_ireturn, xE_return_, xE_tableswitch, eCl, eKd, wCnd, pf0, wArgs, lg_n, lg_0, lg_s, wNl_n, wNl_i, wNl_r, wCat_n, wCat_i, wCat_r, wCat_l, cInt, cRef, cLong, fv0, fv1, fv2, fv3, fw0, fw1, oi_m1, oi_0, oi_1, oi_2, oi_3, oi_4, oi_5, wRf, wLn_n, wLn_c, List.length_cons, List.length_nil, List.replicate, List.set_cons_zero, List.set_cons_succ, List.cons_append, List.nil_append, List.mem_cons, List.not_mem_nil, if_true, if_false, ↓reduceIte, true_and, and_true, or_true, true_or, or_false, false_or, Option.toList, Nat.reduceAdd, Nat.reduceSub, Nat.reduceLT, Nat.reduceLeDiff, Nat.reduceEqDiff, Nat.le_refl, eq_self, Nat.zero_le, Int.cast_ofNat_Int, Int.reduceSub, Int.reduceAdd, Int.reduceLE, Int.reduceToNat, Int.reduceNeg, Int32.reduceAdd, Int32.reduceSub, Int32.reduceMul, Int32.reduceLT, i_leF, Bool.false_eq_true, Bool.true_eq_false, b2i_T, b2i_F, b2i_0, b2i_01, i_a0, not_false_eq_true, oi_6, oi_7, oi_8, oi_9, oi_10, oi_11, oi_12, oi_13, oi_14, oi_15, oi_16, oi_17, oi_18, oi_19, oi_20, oi_21, dX7_nearest_0, bp_m6, dX7_nearest_2, dX7_nearest_3, dX7_nearest_4, dX7_nearest_5, dX7_nearest_6, dX7_nearest_7, dX7_nearest_8, dX7_nearest_9, fo_7_24, dX7_nearest_12, fo_7_196, dX7_nearest_15, dX7_nearest_18, dX7_nearest_19, dX7_nearest_22, fo_7_93, dX7_nearest_25, dX7_nearest_26, dX7_nearest_27, fo_7_102, dX7_nearest_30, dX7_nearest_31, dX7_nearest_34, dX7_nearest_35, dX7_nearest_38, dX7_nearest_39, co_7_217, dX7_nearest_42, dX7_nearest_44, dX7_nearest_45, dX7_nearest_47, dX7_nearest_50, dX7_nearest_52, dX7_nearest_53, dX7_nearest_56, dX7_nearest_57, dX7_nearest_58, dX7_nearest_60, dX7_nearest_61, dX7_nearest_64, dX7_nearest_67, dX7_nearest_68, pfA, pf1, pf_xin, s_xin, pf_xis, s_xis, pf_xleadingLetters, s_xleadingLetters, pf_xleadingWeight, s_xleadingWeight, pf_xleadOf, s_xleadOf, pf_lettersIn, s_lettersIn, pf_aboutLetters, s_aboutLetters, pf_xhasWord, s_xhasWord, pf_xhasRoom, s_xhasRoom, pf_xkind, s_xkind, pf_xtbr, s_xtbr, pf_xlack, s_xlack, pf_xrank, s_xrank, pf_xwok, s_xwok, pf_xaa, s_xaa, pf_xar, s_xar, pf_xat, s_xat, pf_xunl, s_xunl, pf_xpla, s_xpla, pf_xrbw, s_xrbw, pf_xlw, s_xlw, pf_xlo, s_xlo, pf_isTold, s_isTold, e1, r4, x1, x2, x3, x4, x5, x6, x7, p1, p2, p3, d1, d2, d3, d4, d5, d6, f1, f2, f3, f4, f5, n1, n2, n3, n4, n5, n6, n7, n8, l1, l2, l3, l4, l5, l6, l7, l8, l9]
    · have e1 : (nI k < nI (nW (wI M 253))) = True := eq_true (nI_lt hk (by omega))
      obtain ⟨q, q1, q2, q3, q4⟩ := SLw hS (show k < 12 by omega)
      obtain ⟨w0, w1, w2, w3, w4, w5⟩ := hR.2.2.2.2.1 k hk q q1
      have ih0 := ih d
      have ih1 := ih (some (.int (mLck (wI M 253) k)))
      simp only [fwd] at ih0 ih1
      cases hl : fwd (nrP (wI M 253)) (nrK (wI M 253)) k with
      | none =>
        simp only [hl, nrP, decide_eq_true_eq] at ih0 ih1
        refine wGoC (pf_isTold_ok G) 120 [] [7] (fun C c0 c1 c2 c3 c4 c5 c6 c7 c8 c9 c10 c11 c12 => ?_)
        simp (config := {maxSteps := 10000000}) only [i1_0, nn_t, nn_f, im_t, im_f, nn_n, xR_s, xR_z, c0, c1, c2, c3, c4, c5, c6, c7, c8, c9, c10, c11, c12, iPuI_e, iPuR_e, iPuL_e, iStoI_e, iStoR_e, iInc_e, iAdd_e, iSub_e, iMul_e, iAnd_e, iOr_e, iShl_e, iShr_e, iPo_i, iLdi_e, iUshr_e, iDiv_e, iRem_e, iLushr_e, iLshl_e, iLand_e, iLor_e, iLcmp_e, iI2l_e, iL2i_e, iI2c_e, iDup_e, iDup2_e, iIf_e, iIfc_e, iSwA, iSw_e, iGetf_r, iGetf_i, iGetf_z, iPutf_i, iPutf_z, iPutf_rt, iPutf_rf, iGets_e, iLdc_e, iAl_e, iAl2_e, iAlr_e, iAq_e, iAq2_e, iAsI_e, iAsZ_e, iAsC_e, iAs2_e, iAt_e, iAt2_e, iLen_e, iNew_e, iNwa_e, iNwq_e, iPop, iCl2_s, iCl2_n, iIv2_e, iIv_e, iIv_c, iIs2_e, iIs_e, iIs_n, iIs_max, iIs_min, iIs_cop, iCp2_e, iIp2_e, iIp_o, iIp_2, iIp_3, iRet_i, iRet_z, iRtv_e, xE_iconst, xE_bipush, xE_sipush, xE_lconst, xE_ldc2_w, xE_iload_n, xE_iload, xE_lload_n, xE_aload_n, xE_aload, xE_istore_n, xE_istore, xE_astore_n, xE_astore, xE_iinc, xE_iadd, xE_isub, xE_imul, xE_idiv, xE_irem, xE_iand, xE_ior, xE_ishl, xE_ishr, xE_pop, xE_ldc, xE_iushr, xE_lushr, xE_lshl, xE_land, xE_lor, xE_lcmp, xE_i2l, xE_l2i, xE_i2c, xE_dup, xE_dup2, xE_ifCond, xE_if_icmp, xE_goto, xE_getfield, xE_putfield, xE_getstatic, xE_baload, xE_caload, xE_iaload, xE_aaload, xE_iastore, xE_bastore, xE_castore, xE_aastore, xE_arraylength, xE_new, xE_newarray_int, xE_newarray_boolean, xE_newarray_char, xE_anewarray, xE_checkcast, xE_invokevirtual, xE_invokestatic, xE_invokespecial, xE_ireturn, xE_return_, xE_tableswitch, eCl, eKd, wCnd, pf0, wArgs, lg_n, lg_0, lg_s, wNl_n, wNl_i, wNl_r, wCat_n, wCat_i, wCat_r, wCat_l, cInt, cRef, cLong, fv0, fv1, fv2, fv3, fw0, fw1, oi_m1, oi_0, oi_1, oi_2, oi_3, oi_4, oi_5, wRf, wLn_n, wLn_c, List.length_cons, List.length_nil, List.replicate, List.set_cons_zero, List.set_cons_succ, List.cons_append, List.nil_append, List.mem_cons, List.not_mem_nil, if_true, if_false, ↓reduceIte, true_and, and_true, or_true, true_or, or_false, false_or, Option.toList, Nat.reduceAdd, Nat.reduceSub, Nat.reduceLT, Nat.reduceLeDiff, Nat.reduceEqDiff, Nat.le_refl, eq_self, Nat.zero_le, Int.cast_ofNat_Int, Int.reduceSub, Int.reduceAdd, Int.reduceLE, Int.reduceToNat, Int.reduceNeg, Int32.reduceAdd, Int32.reduceSub, Int32.reduceMul, Int32.reduceLT, i_leF, Bool.false_eq_true, Bool.true_eq_false, b2i_T, b2i_F, b2i_0, b2i_01, i_a0, not_false_eq_true, oi_6, oi_7, oi_8, oi_9, oi_10, oi_11, oi_12, oi_13, oi_14, oi_15, oi_16, oi_17, oi_18, oi_19, oi_20, oi_21, dX7_nearest_0, bp_m6, dX7_nearest_2, dX7_nearest_3, dX7_nearest_4, dX7_nearest_5, dX7_nearest_6, dX7_nearest_7, dX7_nearest_8, dX7_nearest_9, fo_7_24, dX7_nearest_12, fo_7_196, dX7_nearest_15, dX7_nearest_18, dX7_nearest_19, dX7_nearest_22, fo_7_93, dX7_nearest_25, dX7_nearest_26, dX7_nearest_27, fo_7_102, dX7_nearest_30, dX7_nearest_31, dX7_nearest_34, dX7_nearest_35, dX7_nearest_38, dX7_nearest_39, co_7_217, dX7_nearest_42, dX7_nearest_44, dX7_nearest_45, dX7_nearest_47, dX7_nearest_50, dX7_nearest_52, dX7_nearest_53, dX7_nearest_56, dX7_nearest_57, dX7_nearest_58, dX7_nearest_60, dX7_nearest_61, dX7_nearest_64, dX7_nearest_67, dX7_nearest_68, pfA, pf1, pf_xin, s_xin, pf_xis, s_xis, pf_xleadingLetters, s_xleadingLetters, pf_xleadingWeight, s_xleadingWeight, pf_xleadOf, s_xleadOf, pf_lettersIn, s_lettersIn, pf_aboutLetters, s_aboutLetters, pf_xhasWord, s_xhasWord, pf_xhasRoom, s_xhasRoom, pf_xkind, s_xkind, pf_xtbr, s_xtbr, pf_xlack, s_xlack, pf_xrank, s_xrank, pf_xwok, s_xwok, pf_xaa, s_xaa, pf_xar, s_xar, pf_xat, s_xat, pf_xunl, s_xunl, pf_xpla, s_xpla, pf_xrbw, s_xrbw, pf_xlw, s_xlw, pf_xlo, s_xlo, pf_isTold, s_isTold, hN, e1, r4, x1, x2, x3, x4, x5, x6, x7, p1, p2, p3, d1, d2, d3, d4, d5, d6, f1, f2, f3, f4, f5, n1, n2, n3, n4, n5, n6, n7, n8, l1, l2, l3, l4, l5, l6, l7, l8, l9, q1, q2, vp_in_nI (show k < 12 by omega) (by decide), nI_clamp (show k < 2 ^ 31 by omega), isIx_t hk (by omega), w0, oF, oN_n, nI_1s]
        repeat' (first | refine And.intro ?_ ?_ | (with_reducible show _ → _; intro _))
        all_goals first | (simpa [oN, oF, *] using ih0) | (simpa [oN, oF, *] using ih1)
      | some f =>
        have hf := (fwd_some hl).1
        simp only [hl, nrP, nrK, decide_eq_true_eq] at ih0 ih1
        have ek : ((mLck (wI M 253) k).toInt < (mLck (wI M 253) f).toInt) = (mLck (wI M 253) k < mLck (wI M 253) f) := propext t_lt.symm
        simp only [ek] at ih0 ih1
        refine wGoC (pf_isTold_ok G) 120 [] [7] (fun C c0 c1 c2 c3 c4 c5 c6 c7 c8 c9 c10 c11 c12 => ?_)
        simp (config := {maxSteps := 10000000}) only [i1_0, nn_t, nn_f, im_t, im_f, nn_n, xR_s, xR_z, c0, c1, c2, c3, c4, c5, c6, c7, c8, c9, c10, c11, c12, iPuI_e, iPuR_e, iPuL_e, iStoI_e, iStoR_e, iInc_e, iAdd_e, iSub_e, iMul_e, iAnd_e, iOr_e, iShl_e, iShr_e, iPo_i, iLdi_e, iUshr_e, iDiv_e, iRem_e, iLushr_e, iLshl_e, iLand_e, iLor_e, iLcmp_e, iI2l_e, iL2i_e, iI2c_e, iDup_e, iDup2_e, iIf_e, iIfc_e, iSwA, iSw_e, iGetf_r, iGetf_i, iGetf_z, iPutf_i, iPutf_z, iPutf_rt, iPutf_rf, iGets_e, iLdc_e, iAl_e, iAl2_e, iAlr_e, iAq_e, iAq2_e, iAsI_e, iAsZ_e, iAsC_e, iAs2_e, iAt_e, iAt2_e, iLen_e, iNew_e, iNwa_e, iNwq_e, iPop, iCl2_s, iCl2_n, iIv2_e, iIv_e, iIv_c, iIs2_e, iIs_e, iIs_n, iIs_max, iIs_min, iIs_cop, iCp2_e, iIp2_e, iIp_o, iIp_2, iIp_3, iRet_i, iRet_z, iRtv_e, xE_iconst, xE_bipush, xE_sipush, xE_lconst, xE_ldc2_w, xE_iload_n, xE_iload, xE_lload_n, xE_aload_n, xE_aload, xE_istore_n, xE_istore, xE_astore_n, xE_astore, xE_iinc, xE_iadd, xE_isub, xE_imul, xE_idiv, xE_irem, xE_iand, xE_ior, xE_ishl, xE_ishr, xE_pop, xE_ldc, xE_iushr, xE_lushr, xE_lshl, xE_land, xE_lor, xE_lcmp, xE_i2l, xE_l2i, xE_i2c, xE_dup, xE_dup2, xE_ifCond, xE_if_icmp, xE_goto, xE_getfield, xE_putfield, xE_getstatic, xE_baload, xE_caload, xE_iaload, xE_aaload, xE_iastore, xE_bastore, xE_castore, xE_aastore, xE_arraylength, xE_new, xE_newarray_int, xE_newarray_boolean, xE_newarray_char, xE_anewarray, xE_checkcast, xE_invokevirtual, xE_invokestatic, xE_invokespecial, xE_ireturn, xE_return_, xE_tableswitch, eCl, eKd, wCnd, pf0, wArgs, lg_n, lg_0, lg_s, wNl_n, wNl_i, wNl_r, wCat_n, wCat_i, wCat_r, wCat_l, cInt, cRef, cLong, fv0, fv1, fv2, fv3, fw0, fw1, oi_m1, oi_0, oi_1, oi_2, oi_3, oi_4, oi_5, wRf, wLn_n, wLn_c, List.length_cons, List.length_nil, List.replicate, List.set_cons_zero, List.set_cons_succ, List.cons_append, List.nil_append, List.mem_cons, List.not_mem_nil, if_true, if_false, ↓reduceIte, true_and, and_true, or_true, true_or, or_false, false_or, Option.toList, Nat.reduceAdd, Nat.reduceSub, Nat.reduceLT, Nat.reduceLeDiff, Nat.reduceEqDiff, Nat.le_refl, eq_self, Nat.zero_le, Int.cast_ofNat_Int, Int.reduceSub, Int.reduceAdd, Int.reduceLE, Int.reduceToNat, Int.reduceNeg, Int32.reduceAdd, Int32.reduceSub, Int32.reduceMul, Int32.reduceLT, i_leF, Bool.false_eq_true, Bool.true_eq_false, b2i_T, b2i_F, b2i_0, b2i_01, i_a0, not_false_eq_true, oi_6, oi_7, oi_8, oi_9, oi_10, oi_11, oi_12, oi_13, oi_14, oi_15, oi_16, oi_17, oi_18, oi_19, oi_20, oi_21, dX7_nearest_0, bp_m6, dX7_nearest_2, dX7_nearest_3, dX7_nearest_4, dX7_nearest_5, dX7_nearest_6, dX7_nearest_7, dX7_nearest_8, dX7_nearest_9, fo_7_24, dX7_nearest_12, fo_7_196, dX7_nearest_15, dX7_nearest_18, dX7_nearest_19, dX7_nearest_22, fo_7_93, dX7_nearest_25, dX7_nearest_26, dX7_nearest_27, fo_7_102, dX7_nearest_30, dX7_nearest_31, dX7_nearest_34, dX7_nearest_35, dX7_nearest_38, dX7_nearest_39, co_7_217, dX7_nearest_42, dX7_nearest_44, dX7_nearest_45, dX7_nearest_47, dX7_nearest_50, dX7_nearest_52, dX7_nearest_53, dX7_nearest_56, dX7_nearest_57, dX7_nearest_58, dX7_nearest_60, dX7_nearest_61, dX7_nearest_64, dX7_nearest_67, dX7_nearest_68, pfA, pf1, pf_xin, s_xin, pf_xis, s_xis, pf_xleadingLetters, s_xleadingLetters, pf_xleadingWeight, s_xleadingWeight, pf_xleadOf, s_xleadOf, pf_lettersIn, s_lettersIn, pf_aboutLetters, s_aboutLetters, pf_xhasWord, s_xhasWord, pf_xhasRoom, s_xhasRoom, pf_xkind, s_xkind, pf_xtbr, s_xtbr, pf_xlack, s_xlack, pf_xrank, s_xrank, pf_xwok, s_xwok, pf_xaa, s_xaa, pf_xar, s_xar, pf_xat, s_xat, pf_xunl, s_xunl, pf_xpla, s_xpla, pf_xrbw, s_xrbw, pf_xlw, s_xlw, pf_xlo, s_xlo, pf_isTold, s_isTold, hN, e1, r4, x1, x2, x3, x4, x5, x6, x7, p1, p2, p3, d1, d2, d3, d4, d5, d6, f1, f2, f3, f4, f5, n1, n2, n3, n4, n5, n6, n7, n8, l1, l2, l3, l4, l5, l6, l7, l8, l9, q1, q2, vp_in_nI (show k < 12 by omega) (by decide), nI_clamp (show k < 2 ^ 31 by omega), isIx_t hk (by omega), w0, oF, oN_s, nI_ne6 (show f < 2 ^ 31 by omega), nI_1s]
        repeat' (first | refine And.intro ?_ ?_ | (with_reducible show _ → _; intro _))
        all_goals first | (simpa [oN, oF, *] using ih0) | (simpa [oN, oF, *] using ih1)
  refine wGoC (pf_isTold_ok G) 80 [] [7] (fun C c0 c1 c2 c3 c4 c5 c6 c7 c8 c9 c10 c11 c12 => ?_)
  simp (config := {maxSteps := 10000000}) only [i1_0, nn_t, nn_f, im_t, im_f, nn_n, xR_s, xR_z, c0, c1, c2, c3, c4, c5, c6, c7, c8, c9, c10, c11, c12, iPuI_e, iPuR_e, iPuL_e, iStoI_e, iStoR_e, iInc_e, iAdd_e, iSub_e, iMul_e, iAnd_e, iOr_e, iShl_e, iShr_e, iPo_i, iLdi_e, iUshr_e, iDiv_e, iRem_e, iLushr_e, iLshl_e, iLand_e, iLor_e, iLcmp_e, iI2l_e, iL2i_e, iI2c_e, iDup_e, iDup2_e, iIf_e, iIfc_e, iSwA, iSw_e, iGetf_r, iGetf_i, iGetf_z, iPutf_i, iPutf_z, iPutf_rt, iPutf_rf, iGets_e, iLdc_e, iAl_e, iAl2_e, iAlr_e, iAq_e, iAq2_e, iAsI_e, iAsZ_e, iAsC_e, iAs2_e, iAt_e, iAt2_e, iLen_e, iNew_e, iNwa_e, iNwq_e, iPop, iCl2_s, iCl2_n, iIv2_e, iIv_e, iIv_c, iIs2_e, iIs_e, iIs_n, iIs_max, iIs_min, iIs_cop, iCp2_e, iIp2_e, iIp_o, iIp_2, iIp_3, iRet_i, iRet_z, iRtv_e, xE_iconst, xE_bipush, xE_sipush, xE_lconst, xE_ldc2_w, xE_iload_n, xE_iload, xE_lload_n, xE_aload_n, xE_aload, xE_istore_n, xE_istore, xE_astore_n, xE_astore, xE_iinc, xE_iadd, xE_isub, xE_imul, xE_idiv, xE_irem, xE_iand, xE_ior, xE_ishl, xE_ishr, xE_pop, xE_ldc, xE_iushr, xE_lushr, xE_lshl, xE_land, xE_lor, xE_lcmp, xE_i2l, xE_l2i, xE_i2c, xE_dup, xE_dup2, xE_ifCond, xE_if_icmp, xE_goto, xE_getfield, xE_putfield, xE_getstatic, xE_baload, xE_caload, xE_iaload, xE_aaload, xE_iastore, xE_bastore, xE_castore, xE_aastore, xE_arraylength, xE_new, xE_newarray_int, xE_newarray_boolean, xE_newarray_char, xE_anewarray, xE_checkcast, xE_invokevirtual, xE_invokestatic, xE_invokespecial, xE_ireturn, xE_return_, xE_tableswitch, eCl, eKd, wCnd, pf0, wArgs, lg_n, lg_0, lg_s, wNl_n, wNl_i, wNl_r, wCat_n, wCat_i, wCat_r, wCat_l, cInt, cRef, cLong, fv0, fv1, fv2, fv3, fw0, fw1, oi_m1, oi_0, oi_1, oi_2, oi_3, oi_4, oi_5, wRf, wLn_n, wLn_c, List.length_cons, List.length_nil, List.replicate, List.set_cons_zero, List.set_cons_succ, List.cons_append, List.nil_append, List.mem_cons, List.not_mem_nil, if_true, if_false, ↓reduceIte, true_and, and_true, or_true, true_or, or_false, false_or, Option.toList, Nat.reduceAdd, Nat.reduceSub, Nat.reduceLT, Nat.reduceLeDiff, Nat.reduceEqDiff, Nat.le_refl, eq_self, Nat.zero_le, Int.cast_ofNat_Int, Int.reduceSub, Int.reduceAdd, Int.reduceLE, Int.reduceToNat, Int.reduceNeg, Int32.reduceAdd, Int32.reduceSub, Int32.reduceMul, Int32.reduceLT, i_leF, Bool.false_eq_true, Bool.true_eq_false, b2i_T, b2i_F, b2i_0, b2i_01, i_a0, not_false_eq_true, oi_6, oi_7, oi_8, oi_9, oi_10, oi_11, oi_12, oi_13, oi_14, oi_15, oi_16, oi_17, oi_18, oi_19, oi_20, oi_21, dX7_nearest_0, bp_m6, dX7_nearest_2, dX7_nearest_3, dX7_nearest_4, dX7_nearest_5, dX7_nearest_6, dX7_nearest_7, dX7_nearest_8, dX7_nearest_9, fo_7_24, dX7_nearest_12, fo_7_196, dX7_nearest_15, dX7_nearest_18, dX7_nearest_19, dX7_nearest_22, fo_7_93, dX7_nearest_25, dX7_nearest_26, dX7_nearest_27, fo_7_102, dX7_nearest_30, dX7_nearest_31, dX7_nearest_34, dX7_nearest_35, dX7_nearest_38, dX7_nearest_39, co_7_217, dX7_nearest_42, dX7_nearest_44, dX7_nearest_45, dX7_nearest_47, dX7_nearest_50, dX7_nearest_52, dX7_nearest_53, dX7_nearest_56, dX7_nearest_57, dX7_nearest_58, dX7_nearest_60, dX7_nearest_61, dX7_nearest_64, dX7_nearest_67, dX7_nearest_68, pfA, pf1, pf_xin, s_xin, pf_xis, s_xis, pf_xleadingLetters, s_xleadingLetters, pf_xleadingWeight, s_xleadingWeight, pf_xleadOf, s_xleadOf, pf_lettersIn, s_lettersIn, pf_aboutLetters, s_aboutLetters, pf_xhasWord, s_xhasWord, pf_xhasRoom, s_xhasRoom, pf_xkind, s_xkind, pf_xtbr, s_xtbr, pf_xlack, s_xlack, pf_xrank, s_xrank, pf_xwok, s_xwok, pf_xaa, s_xaa, pf_xar, s_xar, pf_xat, s_xat, pf_xunl, s_xunl, pf_xpla, s_xpla, pf_xrbw, s_xrbw, pf_xlw, s_xlw, pf_xlo, s_xlo, pf_isTold, s_isTold, x1, x2, x3, x4, x5, x6, x7, p1, p2, p3, d1, d2, d3, d4, d5, d6, f1, f2, f3, f4, f5, n1, n2, n3, n4, n5, n6, n7, n8, l1, l2, l3, l4, l5, l6, l7, l8, l9]
  exact loop 0 (by omega) none
set_option maxRecDepth 100000 in
set_option maxHeartbeats 4000000 in
theorem ct_xwipe (G : wG) (M : wMem) (hX : XL M) : CT G 68 0 0 [.ref 0] M (fun o M' => o = some (.int (wI M 2 1)) ∧ M' = wSetI M 2 1 0) := by
  obtain ⟨⟨x1, x2, x3, x4, x5, x6, x7⟩, ⟨p1, p2, p3⟩, ⟨d1, d2, d3, d4, d5, d6⟩, ⟨f1, f2, f3, f4, f5⟩⟩ := hX
  refine CT.intro wm_68 mo_68 (by decide +kernel) false (by simp) (Nat.le_of_ble_eq_true rfl) ?_
  refine wGoC (pf_isTold_ok G) 80 [] [] (fun C c0 c1 c2 c3 c4 c5 c6 c7 c8 c9 c10 c11 c12 => ?_)
  simp (config := {maxSteps := 10000000}) only [i1_0, nn_t, nn_f, im_t, im_f, nn_n, xR_s, xR_z, c0, c1, c2, c3, c4, c5, c6, c7, c8, c9, c10, c11, c12, iPuI_e, iPuR_e, iPuL_e, iStoI_e, iStoR_e, iInc_e, iAdd_e, iSub_e, iMul_e, iAnd_e, iOr_e, iShl_e, iShr_e, iPo_i, iLdi_e, iUshr_e, iDiv_e, iRem_e, iLushr_e, iLshl_e, iLand_e, iLor_e, iLcmp_e, iI2l_e, iL2i_e, iI2c_e, iDup_e, iDup2_e, iIf_e, iIfc_e, iSwA, iSw_e, iGetf_r, iGetf_i, iGetf_z, iPutf_i, iPutf_z, iPutf_rt, iPutf_rf, iGets_e, iLdc_e, iAl_e, iAl2_e, iAlr_e, iAq_e, iAq2_e, iAsI_e, iAsZ_e, iAsC_e, iAs2_e, iAt_e, iAt2_e, iLen_e, iNew_e, iNwa_e, iNwq_e, iPop, iCl2_s, iCl2_n, iIv2_e, iIv_e, iIv_c, iIs2_e, iIs_e, iIs_n, iIs_max, iIs_min, iIs_cop, iCp2_e, iIp2_e, iIp_o, iIp_2, iIp_3, iRet_i, iRet_z, iRtv_e, xE_iconst, xE_bipush, xE_sipush, xE_lconst, xE_ldc2_w, xE_iload_n, xE_iload, xE_lload_n, xE_aload_n, xE_aload, xE_istore_n, xE_istore, xE_astore_n, xE_astore, xE_iinc, xE_iadd, xE_isub, xE_imul, xE_idiv, xE_irem, xE_iand, xE_ior, xE_ishl, xE_ishr, xE_pop, xE_ldc, xE_iushr, xE_lushr, xE_lshl, xE_land, xE_lor, xE_lcmp, xE_i2l, xE_l2i, xE_i2c, xE_dup, xE_dup2, xE_ifCond, xE_if_icmp, xE_goto, xE_getfield, xE_putfield, xE_getstatic, xE_baload, xE_caload, xE_iaload, xE_aaload, xE_iastore, xE_bastore, xE_castore, xE_aastore, xE_arraylength, xE_new, xE_newarray_int, xE_newarray_boolean, xE_newarray_char, xE_anewarray, xE_checkcast, xE_invokevirtual, xE_invokestatic, xE_invokespecial, xE_ireturn, xE_return_, xE_tableswitch, eCl, eKd, wCnd, pf0, wArgs, lg_n, lg_0, lg_s, wNl_n, wNl_i, wNl_r, wCat_n, wCat_i, wCat_r, wCat_l, cInt, cRef, cLong, fv0, fv1, fv2, fv3, fw0, fw1, oi_m1, oi_0, oi_1, oi_2, oi_3, oi_4, oi_5, wRf, wLn_n, wLn_c, List.length_cons, List.length_nil, List.replicate, List.set_cons_zero, List.set_cons_succ, List.cons_append, List.nil_append, List.mem_cons, List.not_mem_nil, if_true, if_false, ↓reduceIte, true_and, and_true, or_true, true_or, or_false, false_or, Option.toList, Nat.reduceAdd, Nat.reduceSub, Nat.reduceLT, Nat.reduceLeDiff, Nat.reduceEqDiff, Nat.le_refl, eq_self, Nat.zero_le, Int.cast_ofNat_Int, Int.reduceSub, Int.reduceAdd, Int.reduceLE, Int.reduceToNat, Int.reduceNeg, Int32.reduceAdd, Int32.reduceSub, Int32.reduceMul, Int32.reduceLT, i_leF, Bool.false_eq_true, Bool.true_eq_false, b2i_T, b2i_F, b2i_0, b2i_01, i_a0, not_false_eq_true, oi_6, oi_7, oi_8, oi_9, oi_10, oi_11, oi_12, oi_13, oi_14, oi_15, oi_16, oi_17, oi_18, oi_19, oi_20, oi_21, dX7_wipe_0, dX7_wipe_1, fo_7_20, dX7_wipe_4, fo_7_64, dX7_wipe_7, dX7_wipe_8, dX7_wipe_9, dX7_wipe_12, dX7_wipe_13, dX7_wipe_16, dX7_wipe_17, pfA, pf1, pf_xin, s_xin, pf_xis, s_xis, pf_xleadingLetters, s_xleadingLetters, pf_xleadingWeight, s_xleadingWeight, pf_xleadOf, s_xleadOf, pf_lettersIn, s_lettersIn, pf_aboutLetters, s_aboutLetters, pf_xhasWord, s_xhasWord, pf_xhasRoom, s_xhasRoom, pf_xkind, s_xkind, pf_xtbr, s_xtbr, pf_xlack, s_xlack, pf_xrank, s_xrank, pf_xwok, s_xwok, pf_xaa, s_xaa, pf_xar, s_xar, pf_xat, s_xat, pf_xunl, s_xunl, pf_xpla, s_xpla, pf_xrbw, s_xrbw, pf_xlw, s_xlw, pf_xlo, s_xlo, pf_isTold, s_isTold, x1, x2, x3, x4, x5, x6, x7, p1, p2, p3, d1, d2, d3, d4, d5, d6, f1, f2, f3, f4, f5]
