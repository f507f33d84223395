/-! ===== the reference: its cells, its reads ===== -/
def MLay (M : wMem) : Prop := wS M 252 = some (8, 0) ∧ wP M 252 0 = some 253 ∧ wP M 252 1 = some 254 ∧ wP M 252 3 = some 255 ∧ wP M 252 4 = some 256 ∧ wP M 252 5 = some 257 ∧ wP M 252 9 = some 258
  ∧ wS M 253 = some (10, 828) ∧ wS M 254 = some (10, 4968) ∧ wS M 255 = some (10, 1656) ∧ wS M 256 = some (11, 2) ∧ wS M 257 = some (10, 60) ∧ wS M 258 = some (10, 6)
def sN (v : Nat → Int32) : Nat := (v 11).toNatClampNeg
def MG (M : wMem) : Prop := MLay M ∧ wI M 253 11 = nI (sN (wI M 253)) ∧ sN (wI M 253) ≤ 180
def eO (v : Nat → Int32) (k : Nat) : Int32 := v (108 + 4 * k)
def eH (v : Nat → Int32) (k : Nat) : Int32 := v (109 + 4 * k)
def eM (v : Nat → Int32) (k : Nat) : Int32 := v (110 + 4 * k)
def eW (v : Nat → Int32) (k : Nat) : Int32 := v (111 + 4 * k)
theorem at_0 (k : Nat) : (108 : Int32) + 4 * nI k + 0 = nI (108 + 4 * k) := by
  rw [show (108 : Int32) = nI 108 from rfl, show (4 : Int32) = nI 4 from rfl, show (0 : Int32) = nI 0 from rfl, pk_mul, nI_add, nI_add]; congr 1
theorem at_1 (k : Nat) : (108 : Int32) + 4 * nI k + 1 = nI (109 + 4 * k) := by
  rw [show (108 : Int32) = nI 108 from rfl, show (4 : Int32) = nI 4 from rfl, show (1 : Int32) = nI 1 from rfl, pk_mul, nI_add, nI_add]; congr 1; omega
theorem at_2 (k : Nat) : (108 : Int32) + 4 * nI k + 2 = nI (110 + 4 * k) := by
  rw [show (108 : Int32) = nI 108 from rfl, show (4 : Int32) = nI 4 from rfl, show (2 : Int32) = nI 2 from rfl, pk_mul, nI_add, nI_add]; congr 1; omega
theorem at_3 (k : Nat) : (108 : Int32) + 4 * nI k + 3 = nI (111 + 4 * k) := by
  rw [show (108 : Int32) = nI 108 from rfl, show (4 : Int32) = nI 4 from rfl, show (3 : Int32) = nI 3 from rfl, pk_mul, nI_add, nI_add]; congr 1; omega
theorem ac_0 {k : Nat} (h : k ≤ 180) : (nI (108 + 4 * k)).toNatClampNeg = 108 + 4 * k := nI_clamp (by omega)
theorem ac_1 {k : Nat} (h : k ≤ 180) : (nI (109 + 4 * k)).toNatClampNeg = 109 + 4 * k := nI_clamp (by omega)
theorem ac_2 {k : Nat} (h : k ≤ 180) : (nI (110 + 4 * k)).toNatClampNeg = 110 + 4 * k := nI_clamp (by omega)
theorem ac_3 {k : Nat} (h : k ≤ 180) : (nI (111 + 4 * k)).toNatClampNeg = 111 + 4 * k := nI_clamp (by omega)
theorem av_0 {k : Nat} (h : k < 180) : vp_in (nI (108 + 4 * k)) 828 := vp_in_nI (by omega) (by omega)
theorem av_1 {k : Nat} (h : k < 180) : vp_in (nI (109 + 4 * k)) 828 := vp_in_nI (by omega) (by omega)
theorem av_2 {k : Nat} (h : k < 180) : vp_in (nI (110 + 4 * k)) 828 := vp_in_nI (by omega) (by omega)
theorem av_3 {k : Nat} (h : k < 180) : vp_in (nI (111 + 4 * k)) 828 := vp_in_nI (by omega) (by omega)
theorem of_0 (k : Nat) : (36 : Int32) + 6 * nI k + 0 = nI (36 + 6 * k) := by
  rw [show (36 : Int32) = nI 36 from rfl, show (6 : Int32) = nI 6 from rfl, show (0 : Int32) = nI 0 from rfl, pk_mul, nI_add, nI_add]; congr 1
theorem of_1 (k : Nat) : (36 : Int32) + 6 * nI k + 1 = nI (37 + 6 * k) := by
  rw [show (36 : Int32) = nI 36 from rfl, show (6 : Int32) = nI 6 from rfl, show (1 : Int32) = nI 1 from rfl, pk_mul, nI_add, nI_add]; congr 1; omega
theorem of_2 (k : Nat) : (36 : Int32) + 6 * nI k + 2 = nI (38 + 6 * k) := by
  rw [show (36 : Int32) = nI 36 from rfl, show (6 : Int32) = nI 6 from rfl, show (2 : Int32) = nI 2 from rfl, pk_mul, nI_add, nI_add]; congr 1; omega
theorem of_3 (k : Nat) : (36 : Int32) + 6 * nI k + 3 = nI (39 + 6 * k) := by
  rw [show (36 : Int32) = nI 36 from rfl, show (6 : Int32) = nI 6 from rfl, show (3 : Int32) = nI 3 from rfl, pk_mul, nI_add, nI_add]; congr 1; omega
theorem of_4 (k : Nat) : (36 : Int32) + 6 * nI k + 4 = nI (40 + 6 * k) := by
  rw [show (36 : Int32) = nI 36 from rfl, show (6 : Int32) = nI 6 from rfl, show (4 : Int32) = nI 4 from rfl, pk_mul, nI_add, nI_add]; congr 1; omega
theorem of_5 (k : Nat) : (36 : Int32) + 6 * nI k + 5 = nI (41 + 6 * k) := by
  rw [show (36 : Int32) = nI 36 from rfl, show (6 : Int32) = nI 6 from rfl, show (5 : Int32) = nI 5 from rfl, pk_mul, nI_add, nI_add]; congr 1; omega
theorem os_0 (k : Nat) : (12 : Int32) + 4 * nI k + 0 = nI (12 + 4 * k) := by
  rw [show (12 : Int32) = nI 12 from rfl, show (4 : Int32) = nI 4 from rfl, show (0 : Int32) = nI 0 from rfl, pk_mul, nI_add, nI_add]; congr 1
theorem os_1 (k : Nat) : (12 : Int32) + 4 * nI k + 1 = nI (13 + 4 * k) := by
  rw [show (12 : Int32) = nI 12 from rfl, show (4 : Int32) = nI 4 from rfl, show (1 : Int32) = nI 1 from rfl, pk_mul, nI_add, nI_add]; congr 1; omega
theorem os_2 (k : Nat) : (12 : Int32) + 4 * nI k + 2 = nI (14 + 4 * k) := by
  rw [show (12 : Int32) = nI 12 from rfl, show (4 : Int32) = nI 4 from rfl, show (2 : Int32) = nI 2 from rfl, pk_mul, nI_add, nI_add]; congr 1; omega
theorem os_3 (k : Nat) : (12 : Int32) + 4 * nI k + 3 = nI (15 + 4 * k) := by
  rw [show (12 : Int32) = nI 12 from rfl, show (4 : Int32) = nI 4 from rfl, show (3 : Int32) = nI 3 from rfl, pk_mul, nI_add, nI_add]; congr 1; omega
theorem vi_0 : vp_in 0 828 := vp_in_nI (n := 0) (by decide) (by decide)
theorem vi_1 : vp_in 1 828 := vp_in_nI (n := 1) (by decide) (by decide)
theorem vi_2 : vp_in 2 828 := vp_in_nI (n := 2) (by decide) (by decide)
theorem vi_3 : vp_in 3 828 := vp_in_nI (n := 3) (by decide) (by decide)
theorem vi_4 : vp_in 4 828 := vp_in_nI (n := 4) (by decide) (by decide)
theorem vi_5 : vp_in 5 828 := vp_in_nI (n := 5) (by decide) (by decide)
theorem vi_6 : vp_in 6 828 := vp_in_nI (n := 6) (by decide) (by decide)
theorem vi_7 : vp_in 7 828 := vp_in_nI (n := 7) (by decide) (by decide)
theorem vi_8 : vp_in 8 828 := vp_in_nI (n := 8) (by decide) (by decide)
theorem vi_9 : vp_in 9 828 := vp_in_nI (n := 9) (by decide) (by decide)
theorem vi_10 : vp_in 10 828 := vp_in_nI (n := 10) (by decide) (by decide)
theorem vi_11 : vp_in 11 828 := vp_in_nI (n := 11) (by decide) (by decide)
theorem vc_0 : (0 : Int32).toNatClampNeg = 0 := rfl
theorem vc_1 : (1 : Int32).toNatClampNeg = 1 := rfl
theorem vc_2 : (2 : Int32).toNatClampNeg = 2 := rfl
theorem vc_3 : (3 : Int32).toNatClampNeg = 3 := rfl
theorem vc_4 : (4 : Int32).toNatClampNeg = 4 := rfl
theorem vc_5 : (5 : Int32).toNatClampNeg = 5 := rfl
theorem vc_6 : (6 : Int32).toNatClampNeg = 6 := rfl
theorem vc_7 : (7 : Int32).toNatClampNeg = 7 := rfl
theorem vc_8 : (8 : Int32).toNatClampNeg = 8 := rfl
theorem vc_9 : (9 : Int32).toNatClampNeg = 9 := rfl
theorem vc_10 : (10 : Int32).toNatClampNeg = 10 := rfl
theorem vc_11 : (11 : Int32).toNatClampNeg = 11 := rfl
theorem oc_0 {k : Nat} (h : k ≤ 12) : (nI (36 + 6 * k)).toNatClampNeg = 36 + 6 * k := nI_clamp (by omega)
theorem ov_0 {k : Nat} (h : k ≤ 12) : vp_in (nI (36 + 6 * k)) 828 := vp_in_nI (by omega) (by omega)
theorem oc_1 {k : Nat} (h : k ≤ 12) : (nI (37 + 6 * k)).toNatClampNeg = 37 + 6 * k := nI_clamp (by omega)
theorem ov_1 {k : Nat} (h : k ≤ 12) : vp_in (nI (37 + 6 * k)) 828 := vp_in_nI (by omega) (by omega)
theorem oc_2 {k : Nat} (h : k ≤ 12) : (nI (38 + 6 * k)).toNatClampNeg = 38 + 6 * k := nI_clamp (by omega)
theorem ov_2 {k : Nat} (h : k ≤ 12) : vp_in (nI (38 + 6 * k)) 828 := vp_in_nI (by omega) (by omega)
theorem oc_3 {k : Nat} (h : k ≤ 12) : (nI (39 + 6 * k)).toNatClampNeg = 39 + 6 * k := nI_clamp (by omega)
theorem ov_3 {k : Nat} (h : k ≤ 12) : vp_in (nI (39 + 6 * k)) 828 := vp_in_nI (by omega) (by omega)
theorem oc_4 {k : Nat} (h : k ≤ 12) : (nI (40 + 6 * k)).toNatClampNeg = 40 + 6 * k := nI_clamp (by omega)
theorem ov_4 {k : Nat} (h : k ≤ 12) : vp_in (nI (40 + 6 * k)) 828 := vp_in_nI (by omega) (by omega)
theorem oc_5 {k : Nat} (h : k ≤ 12) : (nI (41 + 6 * k)).toNatClampNeg = 41 + 6 * k := nI_clamp (by omega)
theorem ov_5 {k : Nat} (h : k ≤ 12) : vp_in (nI (41 + 6 * k)) 828 := vp_in_nI (by omega) (by omega)
theorem sc_0 {k : Nat} (h : k ≤ 6) : (nI (12 + 4 * k)).toNatClampNeg = 12 + 4 * k := nI_clamp (by omega)
theorem sv_0 {k : Nat} (h : k ≤ 6) : vp_in (nI (12 + 4 * k)) 828 := vp_in_nI (by omega) (by omega)
theorem sc_1 {k : Nat} (h : k ≤ 6) : (nI (13 + 4 * k)).toNatClampNeg = 13 + 4 * k := nI_clamp (by omega)
theorem sv_1 {k : Nat} (h : k ≤ 6) : vp_in (nI (13 + 4 * k)) 828 := vp_in_nI (by omega) (by omega)
theorem sc_2 {k : Nat} (h : k ≤ 6) : (nI (14 + 4 * k)).toNatClampNeg = 14 + 4 * k := nI_clamp (by omega)
theorem sv_2 {k : Nat} (h : k ≤ 6) : vp_in (nI (14 + 4 * k)) 828 := vp_in_nI (by omega) (by omega)
theorem sc_3 {k : Nat} (h : k ≤ 6) : (nI (15 + 4 * k)).toNatClampNeg = 15 + 4 * k := nI_clamp (by omega)
theorem sv_3 {k : Nat} (h : k ≤ 6) : vp_in (nI (15 + 4 * k)) 828 := vp_in_nI (by omega) (by omega)
theorem oN_n (d : Int32) : oN none d = d := rfl
theorem oN_s (j : Nat) (d : Int32) : oN (some j) d = nI j := rfl
theorem i_a0 (x : Int32) : x + 0 = x := Int32.add_zero x
theorem at_00 (k : Nat) : (108 : Int32) + 4 * nI k = nI (108 + 4 * k) := by rw [← at_0, i_a0]
theorem of_00 (k : Nat) : (36 : Int32) + 6 * nI k = nI (36 + 6 * k) := by rw [← of_0, i_a0]
theorem os_00 (k : Nat) : (12 : Int32) + 4 * nI k = nI (12 + 4 * k) := by rw [← os_0, i_a0]
theorem atx_1 (k : Nat) : nI (108 + 4 * k + 1) = nI (109 + 4 * k) := by congr 1; omega
theorem aty_1 (k : Nat) : nI (108 + 4 * k) + 1 = nI (109 + 4 * k) := by rw [show (1 : Int32) = nI 1 from rfl, nI_add]; congr 1; omega
theorem aty_2 (k : Nat) : nI (108 + 4 * k) + 2 = nI (110 + 4 * k) := by rw [show (2 : Int32) = nI 2 from rfl, nI_add]; congr 1; omega
theorem aty_3 (k : Nat) : nI (108 + 4 * k) + 3 = nI (111 + 4 * k) := by rw [show (3 : Int32) = nI 3 from rfl, nI_add]; congr 1; omega
theorem ofx_1 (k : Nat) : nI (36 + 6 * k + 1) = nI (37 + 6 * k) := by congr 1; omega
theorem ofy_1 (k : Nat) : nI (36 + 6 * k) + 1 = nI (37 + 6 * k) := by rw [show (1 : Int32) = nI 1 from rfl, nI_add]; congr 1; omega
theorem ofy_2 (k : Nat) : nI (36 + 6 * k) + 2 = nI (38 + 6 * k) := by rw [show (2 : Int32) = nI 2 from rfl, nI_add]; congr 1; omega
theorem ofy_3 (k : Nat) : nI (36 + 6 * k) + 3 = nI (39 + 6 * k) := by rw [show (3 : Int32) = nI 3 from rfl, nI_add]; congr 1; omega
theorem ofy_4 (k : Nat) : nI (36 + 6 * k) + 4 = nI (40 + 6 * k) := by rw [show (4 : Int32) = nI 4 from rfl, nI_add]; congr 1; omega
theorem ofy_5 (k : Nat) : nI (36 + 6 * k) + 5 = nI (41 + 6 * k) := by rw [show (5 : Int32) = nI 5 from rfl, nI_add]; congr 1; omega
theorem osx_1 (k : Nat) : nI (12 + 4 * k + 1) = nI (13 + 4 * k) := by congr 1; omega
theorem osy_1 (k : Nat) : nI (12 + 4 * k) + 1 = nI (13 + 4 * k) := by rw [show (1 : Int32) = nI 1 from rfl, nI_add]; congr 1; omega
theorem osy_2 (k : Nat) : nI (12 + 4 * k) + 2 = nI (14 + 4 * k) := by rw [show (2 : Int32) = nI 2 from rfl, nI_add]; congr 1; omega
theorem osy_3 (k : Nat) : nI (12 + 4 * k) + 3 = nI (15 + 4 * k) := by rw [show (3 : Int32) = nI 3 from rfl, nI_add]; congr 1; omega
theorem i_s0 (x : Int32) : x - 0 = x := Int32.sub_zero x
theorem i_sa (x : Int32) (c : Nat) : x - nI c + -1 = x - nI (c + 1) := by
  rw [nI_succ, Int32.sub_eq_add_neg, Int32.sub_eq_add_neg, Int32.neg_add, Int32.add_assoc, Int32.sub_eq_add_neg]
theorem i_s00 (x y : Int32) : x - y = 0 ↔ y = x := ⟨fun h => by rw [Int32.sub_eq_iff_eq_add] at h; rw [h]; simp, fun h => by rw [h]; simp⟩
set_option maxRecDepth 100000 in
set_option maxHeartbeats 4000000 in
theorem ct_answersTo (G : wG) (M : wMem) (w : Int32) (h : MG M) : CT G 92 0 0 [.ref 252, .int w] M (fun o M' => o = some (.int (nI (cntP (fun k => decide (eO (wI M 253) k = w)) (sN (wI M 253))))) ∧ M' = M) := by
  obtain ⟨⟨l1, l2, l3, l4, l5, l6, l7, l8, l9, l10, l11, l12, l13⟩, hn, hn2⟩ := h
  refine CT.intro wm_92 mo_92 (by decide +kernel) false (by simp) (Nat.le_of_ble_eq_true rfl) ?_
  generalize hN : sN (wI M 253) = N at hn hn2 ⊢
  generalize hp : (fun k => decide (eO (wI M 253) k = w)) = p
  have loop : ∀ k, k ≤ N → wp G 8 false (some .int) 1 0 0 cX8_answersTo (fun o M' => o = some (.int (nI (cntP p N))) ∧ M' = M) 4 [some (.ref 252), some (.int w), some (.int (nI (cntP p k))), some (.int (nI k))] [] M 0 0 := by
    refine loopN (fun k hk ih => ?_)
    have hle : (nI N ≤ nI k) = (N ≤ k) := propext (nI_leI (by omega) (by omega))
    have hpk : p k = decide (wI M 253 (108 + 4 * k) = w) := by rw [← hp]; rfl
    refine wGoC (pf1_ok G) 80 [] [4] (fun C c0 c1 c2 c3 c4 c5 c6 c7 c8 c9 c10 c11 c12 => ?_)
    simp (config := {maxSteps := 10000000}) only [i1_0, nn_t, nn_f, im_t, im_f, nn_n, xR_s, xR_z, c0, c1, c2, c3, c4, c5, c6, c7, c8, c9, c10, c11, c12, iPuI_e, iPuR_e, iPuL_e, iStoI_e, iStoR_e, iInc_e, iAdd_e, iSub_e, iMul_e, iAnd_e, iOr_e, iShl_e, iUshr_e, iDiv_e, iRem_e, iLushr_e, iLshl_e, iLand_e, iLor_e, iLcmp_e, iI2l_e, iL2i_e, iI2c_e, iDup_e, iDup2_e, iIf_e, iIfc_e, iSwA, iSw_e, iGetf_r, iGetf_i, iGetf_z, iPutf_i, iPutf_z, iPutf_rt, iPutf_rf, iGets_e, iLdc_e, iAl_e, iAl2_e, iAlr_e, iAq_e, iAq2_e, iAsI_e, iAsZ_e, iAsC_e, iAs2_e, iAt_e, iAt2_e, iLen_e, iNew_e, iNwa_e, iNwq_e, iPop, iCl2_s, iCl2_n, iIv2_e, iIv_e, iIv_c, iIs2_e, iIs_e, iIs_n, iIs_max, iIs_min, iIs_cop, iCp2_e, iIp2_e, iIp_o, iIp_2, iIp_3, iRet_i, iRet_z, iRtv_e, xE_iconst, xE_bipush, xE_sipush, xE_lconst, xE_ldc2_w, xE_iload_n, xE_iload, xE_lload_n, xE_aload_n, xE_aload, xE_istore_n, xE_istore, xE_astore_n, xE_astore, xE_iinc, xE_iadd, xE_isub, xE_imul, xE_idiv, xE_irem, xE_iand, xE_ior, xE_ishl, xE_iushr, xE_lushr, xE_lshl, xE_land, xE_lor, xE_lcmp, xE_i2l, xE_l2i, xE_i2c, xE_dup, xE_dup2, xE_ifCond, xE_if_icmp, xE_goto, xE_getfield, xE_putfield, xE_getstatic, xE_baload, xE_caload, xE_iaload, xE_aaload, xE_iastore, xE_bastore, xE_castore, xE_aastore, xE_arraylength, xE_new, xE_newarray_int, xE_newarray_boolean, xE_newarray_char, xE_anewarray, xE_checkcast, xE_invokevirtual, xE_invokestatic, xE_invokespecial, xE_ireturn, xE_return_, xE_tableswitch, eCl, eKd, wCnd, pf0, wArgs, lg_n, lg_0, lg_s, wNl_n, wNl_i, wNl_r, wCat_n, wCat_i, wCat_r, wCat_l, cInt, cRef, cLong, fv0, fv1, fv2, fv3, fw0, fw1, oi_m1, oi_0, oi_1, oi_2, oi_3, oi_4, oi_5, wRf, wLn_n, wLn_c, List.length_cons, List.length_nil, List.replicate, List.set_cons_zero, List.set_cons_succ, List.cons_append, List.nil_append, List.mem_cons, List.not_mem_nil, if_true, if_false, ↓reduceIte, true_and, and_true, or_true, true_or, or_false, false_or, Option.toList, Nat.reduceAdd, Nat.reduceSub, Nat.reduceLT, Nat.reduceLeDiff, Nat.reduceEqDiff, Nat.le_refl, eq_self, Nat.zero_le, Int.cast_ofNat_Int, Int.reduceSub, Int.reduceAdd, Int.reduceLE, Int.reduceToNat, Int.reduceNeg, dX8_answersTo_0, dX8_answersTo_1, dX8_answersTo_2, dX8_answersTo_3, dX8_answersTo_4, dX8_answersTo_5, dX8_answersTo_6, fo_8_7, dX8_answersTo_9, bp_11, dX8_answersTo_11, dX8_answersTo_12, dX8_answersTo_15, dX8_answersTo_16, dX8_answersTo_17, dX8_answersTo_20, dX8_answersTo_21, dX8_answersTo_22, co_8_48, dX8_answersTo_25, dX8_answersTo_26, dX8_answersTo_27, dX8_answersTo_30, dX8_answersTo_31, dX8_answersTo_34, dX8_answersTo_35, dX8_answersTo_36, dX8_answersTo_37, dX8_answersTo_40, dX8_answersTo_43, dX8_answersTo_44, pf1, l1, l2, l3, l4, l5, l6, l7, l8, l9, l10, l11, l12, l13, hn, hle, ac_0 (show k ≤ 180 by omega), nI_1, i_a0, at_00, of_00, os_00, atx_1, aty_1, aty_2, aty_3, ofx_1, ofy_1, ofy_2, ofy_3, ofy_4, ofy_5, osx_1, osy_1, osy_2, osy_3, vi_0, vc_0, vi_1, vc_1, vi_2, vc_2, vi_3, vc_3, vi_4, vc_4, vi_5, vc_5, vi_6, vc_6, vi_7, vc_7, vi_8, vc_8, vi_9, vc_9, vi_10, vc_10, vi_11, vc_11]
    refine ⟨fun h => by rw [show k = N by omega], fun h => ⟨av_0 (by omega), fun h1 => ?_, fun h1 => ?_⟩⟩
    · have ih := ih (by omega)
      simp only [cntP, hpk, decide_eq_true_eq, if_neg h1, Nat.add_zero] at ih
      exact ih
    · have ih := ih (by omega)
      simp only [cntP, hpk, decide_eq_true_eq, if_pos h1] at ih
      exact ih
  refine wGoC (pf1_ok G) 80 [] [4] (fun C c0 c1 c2 c3 c4 c5 c6 c7 c8 c9 c10 c11 c12 => ?_)
  simp (config := {maxSteps := 10000000}) only [i1_0, nn_t, nn_f, im_t, im_f, nn_n, xR_s, xR_z, c0, c1, c2, c3, c4, c5, c6, c7, c8, c9, c10, c11, c12, iPuI_e, iPuR_e, iPuL_e, iStoI_e, iStoR_e, iInc_e, iAdd_e, iSub_e, iMul_e, iAnd_e, iOr_e, iShl_e, iUshr_e, iDiv_e, iRem_e, iLushr_e, iLshl_e, iLand_e, iLor_e, iLcmp_e, iI2l_e, iL2i_e, iI2c_e, iDup_e, iDup2_e, iIf_e, iIfc_e, iSwA, iSw_e, iGetf_r, iGetf_i, iGetf_z, iPutf_i, iPutf_z, iPutf_rt, iPutf_rf, iGets_e, iLdc_e, iAl_e, iAl2_e, iAlr_e, iAq_e, iAq2_e, iAsI_e, iAsZ_e, iAsC_e, iAs2_e, iAt_e, iAt2_e, iLen_e, iNew_e, iNwa_e, iNwq_e, iPop, iCl2_s, iCl2_n, iIv2_e, iIv_e, iIv_c, iIs2_e, iIs_e, iIs_n, iIs_max, iIs_min, iIs_cop, iCp2_e, iIp2_e, iIp_o, iIp_2, iIp_3, iRet_i, iRet_z, iRtv_e, xE_iconst, xE_bipush, xE_sipush, xE_lconst, xE_ldc2_w, xE_iload_n, xE_iload, xE_lload_n, xE_aload_n, xE_aload, xE_istore_n, xE_istore, xE_astore_n, xE_astore, xE_iinc, xE_iadd, xE_isub, xE_imul, xE_idiv, xE_irem, xE_iand, xE_ior, xE_ishl, xE_iushr, xE_lushr, xE_lshl, xE_land, xE_lor, xE_lcmp, xE_i2l, xE_l2i, xE_i2c, xE_dup, xE_dup2, xE_ifCond, xE_if_icmp, xE_goto, xE_getfield, xE_putfield, xE_getstatic, xE_baload, xE_caload, xE_iaload, xE_aaload, xE_iastore, xE_bastore, xE_castore, xE_aastore, xE_arraylength, xE_new, xE_newarray_int, xE_newarray_boolean, xE_newarray_char, xE_anewarray, xE_checkcast, xE_invokevirtual, xE_invokestatic, xE_invokespecial, xE_ireturn, xE_return_, xE_tableswitch, eCl, eKd, wCnd, pf0, wArgs, lg_n, lg_0, lg_s, wNl_n, wNl_i, wNl_r, wCat_n, wCat_i, wCat_r, wCat_l, cInt, cRef, cLong, fv0, fv1, fv2, fv3, fw0, fw1, oi_m1, oi_0, oi_1, oi_2, oi_3, oi_4, oi_5, wRf, wLn_n, wLn_c, List.length_cons, List.length_nil, List.replicate, List.set_cons_zero, List.set_cons_succ, List.cons_append, List.nil_append, List.mem_cons, List.not_mem_nil, if_true, if_false, ↓reduceIte, true_and, and_true, or_true, true_or, or_false, false_or, Option.toList, Nat.reduceAdd, Nat.reduceSub, Nat.reduceLT, Nat.reduceLeDiff, Nat.reduceEqDiff, Nat.le_refl, eq_self, Nat.zero_le, Int.cast_ofNat_Int, Int.reduceSub, Int.reduceAdd, Int.reduceLE, Int.reduceToNat, Int.reduceNeg, dX8_answersTo_0, dX8_answersTo_1, dX8_answersTo_2, dX8_answersTo_3, dX8_answersTo_4, dX8_answersTo_5, dX8_answersTo_6, fo_8_7, dX8_answersTo_9, bp_11, dX8_answersTo_11, dX8_answersTo_12, dX8_answersTo_15, dX8_answersTo_16, dX8_answersTo_17, dX8_answersTo_20, dX8_answersTo_21, dX8_answersTo_22, co_8_48, dX8_answersTo_25, dX8_answersTo_26, dX8_answersTo_27, dX8_answersTo_30, dX8_answersTo_31, dX8_answersTo_34, dX8_answersTo_35, dX8_answersTo_36, dX8_answersTo_37, dX8_answersTo_40, dX8_answersTo_43, dX8_answersTo_44, pf1, l1, l2, l3, l4, l5, l6, l7, l8, l9, l10, l11, l12, l13, hn, nI_1, i_a0, at_00, of_00, os_00, atx_1, aty_1, aty_2, aty_3, ofx_1, ofy_1, ofy_2, ofy_3, ofy_4, ofy_5, osx_1, osy_1, osy_2, osy_3, vi_0, vc_0, vi_1, vc_1, vi_2, vc_2, vi_3, vc_3, vi_4, vc_4, vi_5, vc_5, vi_6, vc_6, vi_7, vc_7, vi_8, vc_8, vi_9, vc_9, vi_10, vc_10, vi_11, vc_11]
  exact loop 0 (by omega)
set_option maxRecDepth 100000 in
set_option maxHeartbeats 4000000 in
theorem ct_entryOf (G : wG) (M : wMem) (w a : Int32) (h : MG M) : CT G 93 0 0 [.ref 252, .int w, .int a] M (fun o M' => o = some (.int (oN (fstP (fun k => decide (eO (wI M 253) k = w ∧ nI (cntP (fun k => decide (eO (wI M 253) k = w)) k) = a)) (sN (wI M 253))) (-6))) ∧ M' = M) := by
  obtain ⟨⟨l1, l2, l3, l4, l5, l6, l7, l8, l9, l10, l11, l12, l13⟩, hn, hn2⟩ := h
  refine CT.intro wm_93 mo_93 (by decide +kernel) false (by simp) (Nat.le_of_ble_eq_true rfl) ?_
  generalize hN : sN (wI M 253) = N at hn hn2 ⊢
  generalize hc : (fun k => decide (eO (wI M 253) k = w)) = c
  generalize hp : (fun k => decide (eO (wI M 253) k = w ∧ nI (cntP c k) = a)) = p
  have loop : ∀ k, k ≤ N → fstP p k = none → wp G 8 false (some .int) 1 0 0 cX8_entryOf (fun o M' => o = some (.int (oN (fstP p N) (-6))) ∧ M' = M) 5 [some (.ref 252), some (.int w), some (.int a), some (.int (a - nI (cntP c k))), some (.int (nI k))] [] M 0 0 := by
    refine loopN (fun k hk ih hnone => ?_)
    have hle : (nI N ≤ nI k) = (N ≤ k) := propext (nI_leI (by omega) (by omega))
    have hck : c k = decide (wI M 253 (108 + 4 * k) = w) := by rw [← hc]; rfl
    have hpk : p k = decide (wI M 253 (108 + 4 * k) = w ∧ nI (cntP c k) = a) := by rw [← hp]; rfl
    refine wGoC (pf1_ok G) 80 [] [5] (fun C c0 c1 c2 c3 c4 c5 c6 c7 c8 c9 c10 c11 c12 => ?_)
    simp (config := {maxSteps := 10000000}) only [i1_0, nn_t, nn_f, im_t, im_f, nn_n, xR_s, xR_z, c0, c1, c2, c3, c4, c5, c6, c7, c8, c9, c10, c11, c12, iPuI_e, iPuR_e, iPuL_e, iStoI_e, iStoR_e, iInc_e, iAdd_e, iSub_e, iMul_e, iAnd_e, iOr_e, iShl_e, iUshr_e, iDiv_e, iRem_e, iLushr_e, iLshl_e, iLand_e, iLor_e, iLcmp_e, iI2l_e, iL2i_e, iI2c_e, iDup_e, iDup2_e, iIf_e, iIfc_e, iSwA, iSw_e, iGetf_r, iGetf_i, iGetf_z, iPutf_i, iPutf_z, iPutf_rt, iPutf_rf, iGets_e, iLdc_e, iAl_e, iAl2_e, iAlr_e, iAq_e, iAq2_e, iAsI_e, iAsZ_e, iAsC_e, iAs2_e, iAt_e, iAt2_e, iLen_e, iNew_e, iNwa_e, iNwq_e, iPop, iCl2_s, iCl2_n, iIv2_e, iIv_e, iIv_c, iIs2_e, iIs_e, iIs_n, iIs_max, iIs_min, iIs_cop, iCp2_e, iIp2_e, iIp_o, iIp_2, iIp_3, iRet_i, iRet_z, iRtv_e, xE_iconst, xE_bipush, xE_sipush, xE_lconst, xE_ldc2_w, xE_iload_n, xE_iload, xE_lload_n, xE_aload_n, xE_aload, xE_istore_n, xE_istore, xE_astore_n, xE_astore, xE_iinc, xE_iadd, xE_isub, xE_imul, xE_idiv, xE_irem, xE_iand, xE_ior, xE_ishl, xE_iushr, xE_lushr, xE_lshl, xE_land, xE_lor, xE_lcmp, xE_i2l, xE_l2i, xE_i2c, xE_dup, xE_dup2, xE_ifCond, xE_if_icmp, xE_goto, xE_getfield, xE_putfield, xE_getstatic, xE_baload, xE_caload, xE_iaload, xE_aaload, xE_iastore, xE_bastore, xE_castore, xE_aastore, xE_arraylength, xE_new, xE_newarray_int, xE_newarray_boolean, xE_newarray_char, xE_anewarray, xE_checkcast, xE_invokevirtual, xE_invokestatic, xE_invokespecial, xE_ireturn, xE_return_, xE_tableswitch, eCl, eKd, wCnd, pf0, wArgs, lg_n, lg_0, lg_s, wNl_n, wNl_i, wNl_r, wCat_n, wCat_i, wCat_r, wCat_l, cInt, cRef, cLong, fv0, fv1, fv2, fv3, fw0, fw1, oi_m1, oi_0, oi_1, oi_2, oi_3, oi_4, oi_5, wRf, wLn_n, wLn_c, List.length_cons, List.length_nil, List.replicate, List.set_cons_zero, List.set_cons_succ, List.cons_append, List.nil_append, List.mem_cons, List.not_mem_nil, if_true, if_false, ↓reduceIte, true_and, and_true, or_true, true_or, or_false, false_or, Option.toList, Nat.reduceAdd, Nat.reduceSub, Nat.reduceLT, Nat.reduceLeDiff, Nat.reduceEqDiff, Nat.le_refl, eq_self, Nat.zero_le, Int.cast_ofNat_Int, Int.reduceSub, Int.reduceAdd, Int.reduceLE, Int.reduceToNat, Int.reduceNeg, dX8_entryOf_0, dX8_entryOf_1, dX8_entryOf_2, dX8_entryOf_3, dX8_entryOf_5, dX8_entryOf_7, dX8_entryOf_8, fo_8_7, dX8_entryOf_11, bp_11, dX8_entryOf_13, dX8_entryOf_14, dX8_entryOf_17, dX8_entryOf_18, dX8_entryOf_21, dX8_entryOf_23, dX8_entryOf_24, co_8_48, dX8_entryOf_27, dX8_entryOf_28, dX8_entryOf_29, dX8_entryOf_32, dX8_entryOf_33, dX8_entryOf_36, dX8_entryOf_38, dX8_entryOf_39, dX8_entryOf_42, dX8_entryOf_45, dX8_entryOf_48, bp_m6, dX8_entryOf_50, pf1, l1, l2, l3, l4, l5, l6, l7, l8, l9, l10, l11, l12, l13, hn, hle, ac_0 (show k ≤ 180 by omega), i_sa, i_s00, nI_1, i_a0, at_00, of_00, os_00, atx_1, aty_1, aty_2, aty_3, ofx_1, ofy_1, ofy_2, ofy_3, ofy_4, ofy_5, osx_1, osy_1, osy_2, osy_3, vi_0, vc_0, vi_1, vc_1, vi_2, vc_2, vi_3, vc_3, vi_4, vc_4, vi_5, vc_5, vi_6, vc_6, vi_7, vc_7, vi_8, vc_8, vi_9, vc_9, vi_10, vc_10, vi_11, vc_11]
    refine ⟨fun h => by rw [show N = k by omega, hnone]; rfl, fun h => ⟨av_0 (by omega), fun h1 => ?_, fun h1 => ⟨fun h2 => ?_, fun h2 => ?_⟩⟩⟩
    · have ih := ih (by omega) (fstP_miss hnone (by rw [hpk]; exact decide_eq_false (fun q => h1 q.1)))
      simp only [cntP, hck, decide_eq_true_eq, if_neg h1, Nat.add_zero] at ih
      exact ih
    · have ih := ih (by omega) (fstP_miss hnone (by rw [hpk]; exact decide_eq_false (fun q => h2 q.2)))
      simp only [cntP, hck, decide_eq_true_eq, if_pos h1] at ih
      exact ih
    · rw [fstP_hit hnone (by rw [hpk]; exact decide_eq_true ⟨h1, h2⟩) (show k < N by omega)]
      rfl
  refine wGoC (pf1_ok G) 80 [] [5] (fun C c0 c1 c2 c3 c4 c5 c6 c7 c8 c9 c10 c11 c12 => ?_)
  simp (config := {maxSteps := 10000000}) only [i1_0, nn_t, nn_f, im_t, im_f, nn_n, xR_s, xR_z, c0, c1, c2, c3, c4, c5, c6, c7, c8, c9, c10, c11, c12, iPuI_e, iPuR_e, iPuL_e, iStoI_e, iStoR_e, iInc_e, iAdd_e, iSub_e, iMul_e, iAnd_e, iOr_e, iShl_e, iUshr_e, iDiv_e, iRem_e, iLushr_e, iLshl_e, iLand_e, iLor_e, iLcmp_e, iI2l_e, iL2i_e, iI2c_e, iDup_e, iDup2_e, iIf_e, iIfc_e, iSwA, iSw_e, iGetf_r, iGetf_i, iGetf_z, iPutf_i, iPutf_z, iPutf_rt, iPutf_rf, iGets_e, iLdc_e, iAl_e, iAl2_e, iAlr_e, iAq_e, iAq2_e, iAsI_e, iAsZ_e, iAsC_e, iAs2_e, iAt_e, iAt2_e, iLen_e, iNew_e, iNwa_e, iNwq_e, iPop, iCl2_s, iCl2_n, iIv2_e, iIv_e, iIv_c, iIs2_e, iIs_e, iIs_n, iIs_max, iIs_min, iIs_cop, iCp2_e, iIp2_e, iIp_o, iIp_2, iIp_3, iRet_i, iRet_z, iRtv_e, xE_iconst, xE_bipush, xE_sipush, xE_lconst, xE_ldc2_w, xE_iload_n, xE_iload, xE_lload_n, xE_aload_n, xE_aload, xE_istore_n, xE_istore, xE_astore_n, xE_astore, xE_iinc, xE_iadd, xE_isub, xE_imul, xE_idiv, xE_irem, xE_iand, xE_ior, xE_ishl, xE_iushr, xE_lushr, xE_lshl, xE_land, xE_lor, xE_lcmp, xE_i2l, xE_l2i, xE_i2c, xE_dup, xE_dup2, xE_ifCond, xE_if_icmp, xE_goto, xE_getfield, xE_putfield, xE_getstatic, xE_baload, xE_caload, xE_iaload, xE_aaload, xE_iastore, xE_bastore, xE_castore, xE_aastore, xE_arraylength, xE_new, xE_newarray_int, xE_newarray_boolean, xE_newarray_char, xE_anewarray, xE_checkcast, xE_invokevirtual, xE_invokestatic, xE_invokespecial, xE_ireturn, xE_return_, xE_tableswitch, eCl, eKd, wCnd, pf0, wArgs, lg_n, lg_0, lg_s, wNl_n, wNl_i, wNl_r, wCat_n, wCat_i, wCat_r, wCat_l, cInt, cRef, cLong, fv0, fv1, fv2, fv3, fw0, fw1, oi_m1, oi_0, oi_1, oi_2, oi_3, oi_4, oi_5, wRf, wLn_n, wLn_c, List.length_cons, List.length_nil, List.replicate, List.set_cons_zero, List.set_cons_succ, List.cons_append, List.nil_append, List.mem_cons, List.not_mem_nil, if_true, if_false, ↓reduceIte, true_and, and_true, or_true, true_or, or_false, false_or, Option.toList, Nat.reduceAdd, Nat.reduceSub, Nat.reduceLT, Nat.reduceLeDiff, Nat.reduceEqDiff, Nat.le_refl, eq_self, Nat.zero_le, Int.cast_ofNat_Int, Int.reduceSub, Int.reduceAdd, Int.reduceLE, Int.reduceToNat, Int.reduceNeg, dX8_entryOf_0, dX8_entryOf_1, dX8_entryOf_2, dX8_entryOf_3, dX8_entryOf_5, dX8_entryOf_7, dX8_entryOf_8, fo_8_7, dX8_entryOf_11, bp_11, dX8_entryOf_13, dX8_entryOf_14, dX8_entryOf_17, dX8_entryOf_18, dX8_entryOf_21, dX8_entryOf_23, dX8_entryOf_24, co_8_48, dX8_entryOf_27, dX8_entryOf_28, dX8_entryOf_29, dX8_entryOf_32, dX8_entryOf_33, dX8_entryOf_36, dX8_entryOf_38, dX8_entryOf_39, dX8_entryOf_42, dX8_entryOf_45, dX8_entryOf_48, bp_m6, dX8_entryOf_50, pf1, l1, l2, l3, l4, l5, l6, l7, l8, l9, l10, l11, l12, l13, hn, nI_1, i_a0, at_00, of_00, os_00, atx_1, aty_1, aty_2, aty_3, ofx_1, ofy_1, ofy_2, ofy_3, ofy_4, ofy_5, osx_1, osy_1, osy_2, osy_3, vi_0, vc_0, vi_1, vc_1, vi_2, vc_2, vi_3, vc_3, vi_4, vc_4, vi_5, vc_5, vi_6, vc_6, vi_7, vc_7, vi_8, vc_8, vi_9, vc_9, vi_10, vc_10, vi_11, vc_11]
  have := loop 0 (by omega) rfl
  rw [show a - nI (cntP c 0) = a from i_s0 a] at this
  exact this
