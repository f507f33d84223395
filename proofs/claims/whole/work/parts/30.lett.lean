/-! ===== letters: digits, the last one first, of a base ===== -/
def enc (b : Nat) : List Nat → Nat
  | [] => 0
  | d :: r => enc b r * b + d
def okd (ds : List Nat) : Prop := ∀ d ∈ ds, 1 ≤ d ∧ d ≤ 26
theorem okd_t {d : Nat} {r : List Nat} (h : okd (d :: r)) : okd r := fun x hx => h x (List.mem_cons_of_mem _ hx)
theorem okd_h {d : Nat} {r : List Nat} (h : okd (d :: r)) : 1 ≤ d ∧ d ≤ 26 := h d List.mem_cons_self
theorem okd_drop {ds : List Nat} (h : okd ds) (j : Nat) : okd (ds.drop j) := fun x hx => h x (List.mem_of_mem_drop hx)
theorem enc_lt {b : Nat} (hb : 27 ≤ b) : ∀ {ds : List Nat}, okd ds → enc b ds < b ^ ds.length
  | [], _ => by simp [enc]
  | d :: r, h => by
    have ih := enc_lt hb (okd_t h)
    have hd := okd_h h
    simp only [enc, List.length_cons, Nat.pow_succ]
    calc enc b r * b + d < enc b r * b + b := by omega
      _ = (enc b r + 1) * b := by rw [Nat.add_mul, Nat.one_mul]
      _ ≤ b ^ r.length * b := Nat.mul_le_mul_right _ ih
theorem enc_pos {b : Nat} {d : Nat} {r : List Nat} (h : okd (d :: r)) : 0 < enc b (d :: r) := by
  have := okd_h h
  simp only [enc]
  omega
theorem enc_div {b : Nat} (hb : 27 ≤ b) {d : Nat} {r : List Nat} (h : okd (d :: r)) : enc b (d :: r) / b = enc b r := by
  have := okd_h h
  simp only [enc]
  rw [Nat.mul_comm, Nat.mul_add_div (by omega), Nat.div_eq_of_lt (by omega), Nat.add_zero]
theorem enc_mod {b : Nat} (hb : 27 ≤ b) {d : Nat} {r : List Nat} (h : okd (d :: r)) : enc b (d :: r) % b = d := by
  have := okd_h h
  simp only [enc]
  rw [Nat.mul_comm, Nat.mul_add_mod, Nat.mod_eq_of_lt (by omega)]
theorem enc_inj {b c : Nat} (hb : 27 ≤ b) : ∀ {x y : List Nat}, okd x → okd y → enc b x = enc b y → x = y
  | [], [], _, _, _ => rfl
  | [], d :: r, _, h, e => by have := enc_pos (b := b) h; rw [← e] at this; simp [enc] at this
  | d :: r, [], h, _, e => by have := enc_pos (b := b) h; rw [e] at this; simp [enc] at this
  | d :: r, d' :: r', h, h', e => by
    have e1 := enc_div hb h
    have e2 := enc_div hb h'
    have e3 := enc_mod hb h
    have e4 := enc_mod hb h'
    rw [e] at e1 e3
    rw [enc_inj (c := c) hb (okd_t h) (okd_t h') (e1.symm.trans e2), e3.symm.trans e4]
theorem enc_lt31 {b : Nat} (hb : 27 ≤ b) (hb2 : b ≤ 32) {ds : List Nat} (h : okd ds) (hl : ds.length ≤ 6) : enc b ds < 2 ^ 31 := by
  have h1 := enc_lt hb h
  have h2 : b ^ ds.length ≤ b ^ 6 := Nat.pow_le_pow_right (by omega) hl
  have h3 : b ^ 6 ≤ 32 ^ 6 := Nat.pow_le_pow_left hb2 6
  have h4 : (32 : Nat) ^ 6 < 2 ^ 31 := by decide
  omega
/-- the code of one class and that of the other, of the same letters -/
def LR (a b : Int32) : Prop := ∃ ds : List Nat, ds.length ≤ 6 ∧ okd ds ∧ a = nI (enc 32 ds) ∧ b = nI (enc 27 ds)
theorem LR_eq {a b a' b' : Int32} (h : LR a b) (h' : LR a' b') : a = a' ↔ b = b' := by
  obtain ⟨ds, h1, h2, rfl, rfl⟩ := h
  obtain ⟨ds', h1', h2', rfl, rfl⟩ := h'
  rw [nI_eq (enc_lt31 (by decide) (by decide) h2 h1) (enc_lt31 (by decide) (by decide) h2' h1'), nI_eq (enc_lt31 (by decide) (by decide) h2 h1) (enc_lt31 (by decide) (by decide) h2' h1')]
  exact ⟨fun e => by rw [enc_inj (c := 0) (by decide) h2 h2' e], fun e => by rw [enc_inj (c := 0) (by decide) h2 h2' e]⟩
theorem LR_0 : LR 0 0 := ⟨[], by simp, by simp [okd], rfl, rfl⟩
theorem LR_z {a b : Int32} (h : LR a b) : a = 0 ↔ b = 0 := LR_eq h LR_0
/-- how many letters, and a letter -/
def lMany (ds : List Nat) : Int32 := nI ds.length
def lAt (ds : List Nat) (p : Nat) : Int32 := if p < ds.length then nI (96 + ds.getD (ds.length - 1 - p) 0) else -6
theorem pk_div27 {n : Nat} (h : n < 2 ^ 31) : nI n / 27 = nI (n / 27) := pk_div (d := 27) h (by decide) (by decide)
set_option maxRecDepth 100000 in
set_option maxHeartbeats 4000000 in
theorem ct_lettersOf (G : wG) (M : wMem) (ds : List Nat) (h : okd ds) (hl : ds.length ≤ 6) : CT G 90 0 0 [.int (nI (enc 27 ds))] M (fun o M' => o = some (.int (lMany ds)) ∧ M' = M) := by
  refine CT.intro wm_90 mo_90 (by decide +kernel) false (by simp) (Nat.le_of_ble_eq_true rfl) ?_
  have loop : ∀ (r : List Nat) (c : Nat), okd r → c + r.length = ds.length → wp G 8 false (some .int) 0 0 0 cX8_lettersOf (fun o M' => o = some (.int (lMany ds)) ∧ M' = M) 4 [some (.int (nI (enc 27 ds))), some (.int (nI c)), some (.int (nI (enc 27 r)))] [] M 0 0 := by
    intro r
    induction r with
    | nil =>
      intro c _ hc
      have hc : c = ds.length := by simpa using hc
      refine wGoC (pf1_ok G) 40 [] [4] (fun C c0 c1 c2 c3 c4 c5 c6 c7 c8 c9 c10 c11 c12 => ?_)
      have e0 : (nI (enc 27 ([] : List Nat)) ≤ 0) = True := eq_true (by decide)
      simp (config := {maxSteps := 10000000}) only [i1_0, nn_t, nn_f, im_t, im_f, nn_n, xR_s, xR_z, c0, c1, c2, c3, c4, c5, c6, c7, c8, c9, c10, c11, c12, iPuI_e, iPuR_e, iPuL_e, iStoI_e, iStoR_e, iInc_e, iAdd_e, iSub_e, iMul_e, iAnd_e, iOr_e, iShl_e, iUshr_e, iDiv_e, iRem_e, iLushr_e, iLshl_e, iLand_e, iLor_e, iLcmp_e, iI2l_e, iL2i_e, iI2c_e, iDup_e, iDup2_e, iIf_e, iIfc_e, iSwA, iSw_e, iGetf_r, iGetf_i, iGetf_z, iPutf_i, iPutf_z, iPutf_rt, iPutf_rf, iGets_e, iLdc_e, iAl_e, iAl2_e, iAlr_e, iAq_e, iAq2_e, iAsI_e, iAsZ_e, iAsC_e, iAs2_e, iAt_e, iAt2_e, iLen_e, iNew_e, iNwa_e, iNwq_e, iPop, iCl2_s, iCl2_n, iIv2_e, iIv_e, iIv_c, iIs2_e, iIs_e, iIs_n, iIs_max, iIs_min, iIs_cop, iCp2_e, iIp2_e, iIp_o, iIp_2, iIp_3, iRet_i, iRet_z, iRtv_e, xE_iconst, xE_bipush, xE_sipush, xE_lconst, xE_ldc2_w, xE_iload_n, xE_iload, xE_lload_n, xE_aload_n, xE_aload, xE_istore_n, xE_istore, xE_astore_n, xE_astore, xE_iinc, xE_iadd, xE_isub, xE_imul, xE_idiv, xE_irem, xE_iand, xE_ior, xE_ishl, xE_iushr, xE_lushr, xE_lshl, xE_land, xE_lor, xE_lcmp, xE_i2l, xE_l2i, xE_i2c, xE_dup, xE_dup2, xE_ifCond, xE_if_icmp, xE_goto, xE_getfield, xE_putfield, xE_getstatic, xE_baload, xE_caload, xE_iaload, xE_aaload, xE_iastore, xE_bastore, xE_castore, xE_aastore, xE_arraylength, xE_new, xE_newarray_int, xE_newarray_boolean, xE_newarray_char, xE_anewarray, xE_checkcast, xE_invokevirtual, xE_invokestatic, xE_invokespecial, xE_ireturn, xE_return_, xE_tableswitch, eCl, eKd, wCnd, pf0, wArgs, lg_n, lg_0, lg_s, wNl_n, wNl_i, wNl_r, wCat_n, wCat_i, wCat_r, wCat_l, cInt, cRef, cLong, fv0, fv1, fv2, fv3, fw0, fw1, oi_m1, oi_0, oi_1, oi_2, oi_3, oi_4, oi_5, wRf, wLn_n, wLn_c, List.length_cons, List.length_nil, List.replicate, List.set_cons_zero, List.set_cons_succ, List.cons_append, List.nil_append, List.mem_cons, List.not_mem_nil, if_true, if_false, ↓reduceIte, true_and, and_true, or_true, true_or, or_false, false_or, Option.toList, Nat.reduceAdd, Nat.reduceSub, Nat.reduceLT, Nat.reduceLeDiff, Nat.reduceEqDiff, Nat.le_refl, eq_self, Nat.zero_le, Int.cast_ofNat_Int, Int.reduceSub, Int.reduceAdd, Int.reduceLE, Int.reduceToNat, Int.reduceNeg, dX8_lettersOf_0, dX8_lettersOf_1, dX8_lettersOf_2, dX8_lettersOf_3, dX8_lettersOf_4, dX8_lettersOf_5, dX8_lettersOf_8, dX8_lettersOf_11, dX8_lettersOf_12, bp_27, dX8_lettersOf_14, dX8_lettersOf_15, dX8_lettersOf_16, dX8_lettersOf_19, dX8_lettersOf_20, pf1, e0, nI_1, i_a0, at_00, of_00, os_00, atx_1, aty_1, aty_2, aty_3, ofx_1, ofy_1, ofy_2, ofy_3, ofy_4, ofy_5, osx_1, osy_1, osy_2, osy_3, vi_0, vc_0, vi_1, vc_1, vi_2, vc_2, vi_3, vc_3, vi_4, vc_4, vi_5, vc_5, vi_6, vc_6, vi_7, vc_7, vi_8, vc_8, vi_9, vc_9, vi_10, vc_10, vi_11, vc_11]
      rw [hc]
      rfl
    | cons d r ih =>
      intro c ho hc
      have hb := enc_lt31 (b := 27) (by decide) (by decide) ho (by omega)
      have e0 : (nI (enc 27 (d :: r)) ≤ 0) = False := eq_false (nI_nle (enc_pos ho) hb)
      refine wGoC (pf1_ok G) 40 [] [4] (fun C c0 c1 c2 c3 c4 c5 c6 c7 c8 c9 c10 c11 c12 => ?_)
      simp (config := {maxSteps := 10000000}) only [i1_0, nn_t, nn_f, im_t, im_f, nn_n, xR_s, xR_z, c0, c1, c2, c3, c4, c5, c6, c7, c8, c9, c10, c11, c12, iPuI_e, iPuR_e, iPuL_e, iStoI_e, iStoR_e, iInc_e, iAdd_e, iSub_e, iMul_e, iAnd_e, iOr_e, iShl_e, iUshr_e, iDiv_e, iRem_e, iLushr_e, iLshl_e, iLand_e, iLor_e, iLcmp_e, iI2l_e, iL2i_e, iI2c_e, iDup_e, iDup2_e, iIf_e, iIfc_e, iSwA, iSw_e, iGetf_r, iGetf_i, iGetf_z, iPutf_i, iPutf_z, iPutf_rt, iPutf_rf, iGets_e, iLdc_e, iAl_e, iAl2_e, iAlr_e, iAq_e, iAq2_e, iAsI_e, iAsZ_e, iAsC_e, iAs2_e, iAt_e, iAt2_e, iLen_e, iNew_e, iNwa_e, iNwq_e, iPop, iCl2_s, iCl2_n, iIv2_e, iIv_e, iIv_c, iIs2_e, iIs_e, iIs_n, iIs_max, iIs_min, iIs_cop, iCp2_e, iIp2_e, iIp_o, iIp_2, iIp_3, iRet_i, iRet_z, iRtv_e, xE_iconst, xE_bipush, xE_sipush, xE_lconst, xE_ldc2_w, xE_iload_n, xE_iload, xE_lload_n, xE_aload_n, xE_aload, xE_istore_n, xE_istore, xE_astore_n, xE_astore, xE_iinc, xE_iadd, xE_isub, xE_imul, xE_idiv, xE_irem, xE_iand, xE_ior, xE_ishl, xE_iushr, xE_lushr, xE_lshl, xE_land, xE_lor, xE_lcmp, xE_i2l, xE_l2i, xE_i2c, xE_dup, xE_dup2, xE_ifCond, xE_if_icmp, xE_goto, xE_getfield, xE_putfield, xE_getstatic, xE_baload, xE_caload, xE_iaload, xE_aaload, xE_iastore, xE_bastore, xE_castore, xE_aastore, xE_arraylength, xE_new, xE_newarray_int, xE_newarray_boolean, xE_newarray_char, xE_anewarray, xE_checkcast, xE_invokevirtual, xE_invokestatic, xE_invokespecial, xE_ireturn, xE_return_, xE_tableswitch, eCl, eKd, wCnd, pf0, wArgs, lg_n, lg_0, lg_s, wNl_n, wNl_i, wNl_r, wCat_n, wCat_i, wCat_r, wCat_l, cInt, cRef, cLong, fv0, fv1, fv2, fv3, fw0, fw1, oi_m1, oi_0, oi_1, oi_2, oi_3, oi_4, oi_5, wRf, wLn_n, wLn_c, List.length_cons, List.length_nil, List.replicate, List.set_cons_zero, List.set_cons_succ, List.cons_append, List.nil_append, List.mem_cons, List.not_mem_nil, if_true, if_false, ↓reduceIte, true_and, and_true, or_true, true_or, or_false, false_or, Option.toList, Nat.reduceAdd, Nat.reduceSub, Nat.reduceLT, Nat.reduceLeDiff, Nat.reduceEqDiff, Nat.le_refl, eq_self, Nat.zero_le, Int.cast_ofNat_Int, Int.reduceSub, Int.reduceAdd, Int.reduceLE, Int.reduceToNat, Int.reduceNeg, dX8_lettersOf_0, dX8_lettersOf_1, dX8_lettersOf_2, dX8_lettersOf_3, dX8_lettersOf_4, dX8_lettersOf_5, dX8_lettersOf_8, dX8_lettersOf_11, dX8_lettersOf_12, bp_27, dX8_lettersOf_14, dX8_lettersOf_15, dX8_lettersOf_16, dX8_lettersOf_19, dX8_lettersOf_20, pf1, e0, pk_div27 hb, enc_div (b := 27) (by decide) ho, nI_1, i_a0, at_00, of_00, os_00, atx_1, aty_1, aty_2, aty_3, ofx_1, ofy_1, ofy_2, ofy_3, ofy_4, ofy_5, osx_1, osy_1, osy_2, osy_3, vi_0, vc_0, vi_1, vc_1, vi_2, vc_2, vi_3, vc_3, vi_4, vc_4, vi_5, vc_5, vi_6, vc_6, vi_7, vc_7, vi_8, vc_8, vi_9, vc_9, vi_10, vc_10, vi_11, vc_11]
      exact ⟨by decide, ih (c + 1) (okd_t ho) (by simp only [List.length_cons] at hc; omega)⟩
  refine wGoC (pf1_ok G) 40 [] [4] (fun C c0 c1 c2 c3 c4 c5 c6 c7 c8 c9 c10 c11 c12 => ?_)
  simp (config := {maxSteps := 10000000}) only [i1_0, nn_t, nn_f, im_t, im_f, nn_n, xR_s, xR_z, c0, c1, c2, c3, c4, c5, c6, c7, c8, c9, c10, c11, c12, iPuI_e, iPuR_e, iPuL_e, iStoI_e, iStoR_e, iInc_e, iAdd_e, iSub_e, iMul_e, iAnd_e, iOr_e, iShl_e, iUshr_e, iDiv_e, iRem_e, iLushr_e, iLshl_e, iLand_e, iLor_e, iLcmp_e, iI2l_e, iL2i_e, iI2c_e, iDup_e, iDup2_e, iIf_e, iIfc_e, iSwA, iSw_e, iGetf_r, iGetf_i, iGetf_z, iPutf_i, iPutf_z, iPutf_rt, iPutf_rf, iGets_e, iLdc_e, iAl_e, iAl2_e, iAlr_e, iAq_e, iAq2_e, iAsI_e, iAsZ_e, iAsC_e, iAs2_e, iAt_e, iAt2_e, iLen_e, iNew_e, iNwa_e, iNwq_e, iPop, iCl2_s, iCl2_n, iIv2_e, iIv_e, iIv_c, iIs2_e, iIs_e, iIs_n, iIs_max, iIs_min, iIs_cop, iCp2_e, iIp2_e, iIp_o, iIp_2, iIp_3, iRet_i, iRet_z, iRtv_e, xE_iconst, xE_bipush, xE_sipush, xE_lconst, xE_ldc2_w, xE_iload_n, xE_iload, xE_lload_n, xE_aload_n, xE_aload, xE_istore_n, xE_istore, xE_astore_n, xE_astore, xE_iinc, xE_iadd, xE_isub, xE_imul, xE_idiv, xE_irem, xE_iand, xE_ior, xE_ishl, xE_iushr, xE_lushr, xE_lshl, xE_land, xE_lor, xE_lcmp, xE_i2l, xE_l2i, xE_i2c, xE_dup, xE_dup2, xE_ifCond, xE_if_icmp, xE_goto, xE_getfield, xE_putfield, xE_getstatic, xE_baload, xE_caload, xE_iaload, xE_aaload, xE_iastore, xE_bastore, xE_castore, xE_aastore, xE_arraylength, xE_new, xE_newarray_int, xE_newarray_boolean, xE_newarray_char, xE_anewarray, xE_checkcast, xE_invokevirtual, xE_invokestatic, xE_invokespecial, xE_ireturn, xE_return_, xE_tableswitch, eCl, eKd, wCnd, pf0, wArgs, lg_n, lg_0, lg_s, wNl_n, wNl_i, wNl_r, wCat_n, wCat_i, wCat_r, wCat_l, cInt, cRef, cLong, fv0, fv1, fv2, fv3, fw0, fw1, oi_m1, oi_0, oi_1, oi_2, oi_3, oi_4, oi_5, wRf, wLn_n, wLn_c, List.length_cons, List.length_nil, List.replicate, List.set_cons_zero, List.set_cons_succ, List.cons_append, List.nil_append, List.mem_cons, List.not_mem_nil, if_true, if_false, ↓reduceIte, true_and, and_true, or_true, true_or, or_false, false_or, Option.toList, Nat.reduceAdd, Nat.reduceSub, Nat.reduceLT, Nat.reduceLeDiff, Nat.reduceEqDiff, Nat.le_refl, eq_self, Nat.zero_le, Int.cast_ofNat_Int, Int.reduceSub, Int.reduceAdd, Int.reduceLE, Int.reduceToNat, Int.reduceNeg, dX8_lettersOf_0, dX8_lettersOf_1, dX8_lettersOf_2, dX8_lettersOf_3, dX8_lettersOf_4, dX8_lettersOf_5, dX8_lettersOf_8, dX8_lettersOf_11, dX8_lettersOf_12, bp_27, dX8_lettersOf_14, dX8_lettersOf_15, dX8_lettersOf_16, dX8_lettersOf_19, dX8_lettersOf_20, pf1, nI_1, i_a0, at_00, of_00, os_00, atx_1, aty_1, aty_2, aty_3, ofx_1, ofy_1, ofy_2, ofy_3, ofy_4, ofy_5, osx_1, osy_1, osy_2, osy_3, vi_0, vc_0, vi_1, vc_1, vi_2, vc_2, vi_3, vc_3, vi_4, vc_4, vi_5, vc_5, vi_6, vc_6, vi_7, vc_7, vi_8, vc_8, vi_9, vc_9, vi_10, vc_10, vi_11, vc_11]
  exact loop ds 0 h (by omega)
