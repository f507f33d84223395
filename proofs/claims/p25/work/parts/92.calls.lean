/-! ===== the class' calls, between two of them ===== -/
section JC
variable {G : wG} {M : wMem} {v h : Nat → Int32} {K : Nat} {xs : List Nat}
theorem J_set (hJ : J v h K xs M) (a x : Int32) : CT G 51 0 0 [.ref 0, .int a, .int x] M (fun o M' => o = some (.int (if okSet a x = true then v a.toNatClampNeg else -2)) ∧ J (if okSet a x = true then up1 v a.toNatClampNeg x else v) (if okSet a x = true then rcH h v K else h) (if okSet a x = true then rcK K else K) xs M') :=
  J_gen hJ (ct_xset G M a x v h _ _ K hJ.1)
theorem J_trust (hJ : J v h K xs M) (a x : Int32) : CT G 57 0 0 [.ref 0, .int a, .int x] M (fun o M' => o = some (.int (if inB a 0 5 = true then (if inB x 0 100 = true then v (12 + 4 * a.toNatClampNeg) else -2) else -1)) ∧ J (if okTr a x = true then up1 v (12 + 4 * a.toNatClampNeg) x else v) (if okTr a x = true then rcH h v K else h) (if okTr a x = true then rcK K else K) xs M') :=
  J_gen hJ (ct_xtrust G M a x v h _ _ K hJ.1)
theorem J_add (hJ : J v h K xs M) (b : Int32) : CT G 53 0 0 [.ref 0, .int b] M (fun o M' => o = some (.int (qAdd v b)) ∧ J (if inB b 0 9 = true ∧ nW v < 12 then addV v (nW v) 1 b 0 else v) (if inB b 0 9 = true ∧ nW v < 12 then rcH h v K else h) (if inB b 0 9 = true ∧ nW v < 12 then rcK K else K) xs M') :=
  J_gen hJ (ct_xadd G M b v h _ _ K hJ.1)
theorem J_bend (hJ : J v h K xs M) (w b : Int32) : CT G 55 0 0 [.ref 0, .int w, .int b] M (fun o M' => o = some (.int (qBend v w b)) ∧ J (if bendOk v w b = true then bendV v w.toNatClampNeg b else v) (if bendOk v w b = true then rcH h v K else h) (if bendOk v w b = true then rcK K else K) xs M') :=
  J_gen hJ (ct_xbend G M w b v h _ _ K hJ.1)
theorem J_drop (hJ : J v h K xs M) (w : Int32) : CT G 56 0 0 [.ref 0, .int w] M (fun o M' => o = some (.int (qDrop v w)) ∧ J (if isW v w = true then dropV v w.toNatClampNeg (nW v) else v) (if isW v w = true then rcH h v K else h) (if isW v w = true then rcK K else K) xs M') :=
  J_gen hJ (ct_xdrop G M w v h _ _ K hJ.1)
theorem J_undo (hJ : J v h K xs M) : CT G 70 0 0 [.ref 0] M (fun o M' => o = some (.int (if K = 0 then -5 else nI (K - 1))) ∧ J (if ¬ K = 0 then segN 828 h v (K - 1) else v) (if ¬ K = 0 then h else h) (if ¬ K = 0 then K - 1 else K) xs M') := by
  refine J_gen hJ (CT.mono (ct_xundo G M v h _ _ K hJ.1) ?_)
  rintro o N ⟨h1, h2, h3⟩
  refine ⟨h1, ?_, h3⟩
  by_cases hk : K = 0
  · rw [if_pos hk] at h2
    rw [if_neg (fun q => q hk)]
    exact h2
  · rw [if_neg hk] at h2
    rw [if_pos hk]
    exact h2
theorem J_know (hJ : J v h K xs M) (b : Int32) : CT G 52 0 0 [.ref 0, .int b] M (fun o M' => o = some (.int (qKnow v (knW M) b)) ∧ J (if inB b 0 9 = true ∧ knW M = false ∧ nW v < 12 then addV v (nW v) 0 b (knS M).2 else v) (if inB b 0 9 = true ∧ knW M = false ∧ nW v < 12 then rcH h v K else h) (if inB b 0 9 = true ∧ knW M = false ∧ nW v < 12 then rcK K else K) (if inB b 0 9 = true ∧ knW M = false ∧ nW v < 12 then [] else xs) M') :=
  J_genk hJ (ct_xknow G M b v h _ _ K hJ.1 (J_PD hJ))
theorem J_answer (hJ : J v h K xs M) (T : Nat) (hI : IV T v) (hT : 3 * sN v + 2 ≤ T) (hT2 : T ≤ 511) : CT G 54 0 0 [.ref 0] M (fun o M' => o = some (.int (qAns2 v (aTo M) (rdE (wI M 257) (lenM M)).2)) ∧ J (if aDo2 v (aTo M) (rdE (wI M 257) (lenM M)).2 = true then aRow v (aTo M) else v) (if aDo2 v (aTo M) (rdE (wI M 257) (lenM M)).2 = true then rcH h v K else h) (if aDo2 v (aTo M) (rdE (wI M 257) (lenM M)).2 = true then rcK K else K) (if aDo2 v (aTo M) (rdE (wI M 257) (lenM M)).2 = true then [] else xs) M') :=
  J_genk hJ (ct_xanswer G M v h _ _ K T hJ.1 (J_PD hJ) hI (fun _ => hT) hT2)
theorem J_wipe (hJ : J v h K xs M) : CT G 68 0 0 [.ref 0] M (fun o M' => o = some (.int (nI xs.length)) ∧ J v h K [] M') := by
  refine CT.post (ct_xwipe G M hJ.1.1) ?_
  rintro o N ⟨rfl, rfl⟩
  refine ⟨_, SM_syn (M := wSetI M 2 1 0) (v := v) (K := K) (L := 0) hJ.2.1, by rw [hJ.2.2.2.1], ?_⟩
  refine J_syn (xs := []) (RX_low hJ.1 rfl rfl (fun q hq => ?_)) hJ.2.1 ?_ (Nat.zero_le _) (fun i c hi => by cases hi)
  · funext j
    rw [wI_setI, if_neg (fun r => hq (by omega))]
  · rw [wI_setI, if_pos ⟨rfl, rfl⟩]; rfl
theorem J_fault (hJ : J v h K xs M) : CT G 69 0 0 [.ref 0] M (fun o M' => o = some (.int (rdOut (wI M 3) xs.length)) ∧ J v h K xs M' ∧ wI M' 3 = wI M 3) := by
  refine CT.post (ct_xfault G M (J_XG hJ) (by rw [J_lenC hJ]; exact J_ok hJ)) ?_
  rintro o N ⟨rfl, hF⟩
  have hz := hF.1.trans hJ.2.1
  have p1 : wI N 2 = wI M 2 := hF.2.2.2 _ (by decide) (by decide) (by decide)
  have p2 : wI N 3 = wI M 3 := FR3_ch hF
  rw [J_lenC hJ]
  exact ⟨_, SM_syn (v := v) (K := K) (L := xs.length) hz, rfl, J_ch hJ (RX_3 hJ.1 hF) hF.1 (by rw [p1]) p2, by rw [syn_lo (by decide)]; exact p2⟩
def okPut (c : Nat) : Bool := decide (ptB (nI c).toInt64 8 = false ∧ ptM (nI c).toInt64 8 = 1 ∧ chC (nI c).toInt64 0 = nI c)
theorem okPut_all : (List.range 127).all (fun c => decide (c < 33) || okPut c) = true := by decide +kernel
theorem okPut_c {c : Nat} (h1 : 33 ≤ c) (h2 : c ≤ 126) : ptB (nI c).toInt64 8 = false ∧ ptM (nI c).toInt64 8 = 1 ∧ chC (nI c).toInt64 0 = nI c := by
  have h := List.all_eq_true.mp okPut_all c (List.mem_range.mpr (by omega))
  rw [Bool.or_eq_true] at h
  rcases h with h | h
  · have := of_decide_eq_true h; omega
  · exact of_decide_eq_true h
theorem J_put (hJ : J v h K xs M) {c : Nat} (h1 : 33 ≤ c) (h2 : c ≤ 126) (hl : xs.length < 60) : CT G 67 0 0 [.ref 0, .long (nI c).toInt64] M (fun o M' => (∃ r, o = some (.int r)) ∧ J v h K (xs ++ [c]) M') := by
  obtain ⟨b1, b2, b3⟩ := okPut_c h1 h2
  refine CT.post (ct_xput G M _ (J_XG hJ)) ?_
  rw [J_lenC hJ]
  generalize (nI c).toInt64 = x at *
  have ok : putOk x xs.length = true := decide_eq_true ⟨b1, by rw [b2]; omega⟩
  rintro o N ⟨rfl, rfl⟩
  rw [if_pos ok, b2]
  have e : (xs ++ [c]).length = xs.length + 1 := by simp
  refine ⟨_, SM_syn (v := v) (K := K) (L := (xs ++ [c]).length) hJ.2.1, ⟨_, rfl⟩, ?_⟩
  refine J_syn (RX_low hJ.1 rfl rfl (fun q hq => ?_)) hJ.2.1 (by rw [padC_p, e]) (by omega) (fun i d hi => ?_)
  · unfold padC
    rw [wF_I, if_neg (by omega), wF_I, if_neg (by omega)]
  · rw [padC_c]
    simp only [ptF]
    by_cases hi2 : i < xs.length
    · rw [List.getElem?_append_left hi2] at hi
      rw [if_neg (by omega)]
      exact hJ.2.2.2.2.2 i d hi
    · have hi3 : i < (xs ++ [c]).length := (List.getElem?_eq_some_iff.mp hi).1
      have hi4 : i = xs.length := by omega
      subst hi4
      rw [List.getElem?_append_right (Nat.le_refl _), Nat.sub_self] at hi
      cases hi
      rw [if_pos (by omega), show xs.length + 1 - 1 - xs.length = 0 by omega]
      exact ⟨h1, h2, b3⟩
end JC
/-! the looks: they change nothing -/
def s_qword : List Value → wMem → Option (Prop × Option Value × wMem) := fun As M => match As with | [.ref b, .int w, .int x] => if b = 0 then some (RN M, some (.int (qWord (wI M 253) w x)), M) else none | _ => none
def pf_qword : wPft := pfA 58 s_qword pf_hasRoomFor
theorem pf_qword_ok (G : wG) : wPfOk G pf_qword := by
  refine pfA_ok (fun As M g o M2 h hg => ?_) (pf_hasRoomFor_ok G)
  unfold s_qword at h
  split at h
  · split at h
    · next hc => obtain hc := hc; subst hc; cases h; exact ct_xword G M _ _ hg
    · cases h
  · cases h

def s_qvote : List Value → wMem → Option (Prop × Option Value × wMem) := fun As M => match As with | [.ref b, .int w, .int a, .int x] => if b = 0 then some (RN M, some (.int (qVote (wI M 253) w a x)), M) else none | _ => none
def pf_qvote : wPft := pfA 59 s_qvote pf_qword
theorem pf_qvote_ok (G : wG) : wPfOk G pf_qvote := by
  refine pfA_ok (fun As M g o M2 h hg => ?_) (pf_qword_ok G)
  unfold s_qvote at h
  split at h
  · split at h
    · next hc => obtain hc := hc; subst hc; cases h; exact ct_xvote G M _ _ _ hg
    · cases h
  · cases h

def s_qsolver : List Value → wMem → Option (Prop × Option Value × wMem) := fun As M => match As with | [.ref b, .int w, .int x] => if b = 0 then some (RN M, some (.int (qSolver (wI M 253) w x)), M) else none | _ => none
def pf_qsolver : wPft := pfA 60 s_qsolver pf_qvote
theorem pf_qsolver_ok (G : wG) : wPfOk G pf_qsolver := by
  refine pfA_ok (fun As M g o M2 h hg => ?_) (pf_qvote_ok G)
  unfold s_qsolver at h
  split at h
  · split at h
    · next hc => obtain hc := hc; subst hc; cases h; exact ct_xsolver G M _ _ hg
    · cases h
  · cases h

def s_qcount : List Value → wMem → Option (Prop × Option Value × wMem) := fun As M => match As with | [.ref b, .int x] => if b = 0 then some (RN M ∧ wI M 2 1 = wI M 252 6 ∧ wI M 0 4 = wI M 252 2, some (.int (qCount (wI M 253) (wI M 252 6) (wI M 252 2) x)), M) else none | _ => none
def pf_qcount : wPft := pfA 61 s_qcount pf_qsolver
theorem pf_qcount_ok (G : wG) : wPfOk G pf_qcount := by
  refine pfA_ok (fun As M g o M2 h hg => ?_) (pf_qsolver_ok G)
  unfold s_qcount at h
  split at h
  · split at h
    · next hc => obtain hc := hc; subst hc; cases h; exact ct_xcount G M _ hg.1 hg.2.1 hg.2.2
    · cases h
  · cases h

def s_qlack : List Value → wMem → Option (Prop × Option Value × wMem) := fun As M => match As with | [.ref b, .int w] => if b = 0 then some (RN M, some (.int (qLack (wI M 253) w)), M) else none | _ => none
def pf_qlack : wPft := pfA 62 s_qlack pf_qcount
theorem pf_qlack_ok (G : wG) : wPfOk G pf_qlack := by
  refine pfA_ok (fun As M g o M2 h hg => ?_) (pf_qcount_ok G)
  unfold s_qlack at h
  split at h
  · split at h
    · next hc => obtain hc := hc; subst hc; cases h; exact ct_xlacking G M _ hg
    · cases h
  · cases h

def s_qansF : List Value → wMem → Option (Prop × Option Value × wMem) := fun As M => match As with | [.ref b, .int s, .int w] => if b = 0 then some (RN M, some (.int (qAns (wI M 253) s w)), M) else none | _ => none
def pf_qansF : wPft := pfA 63 s_qansF pf_qlack
theorem pf_qansF_ok (G : wG) : wPfOk G pf_qansF := by
  refine pfA_ok (fun As M g o M2 h hg => ?_) (pf_qlack_ok G)
  unfold s_qansF at h
  split at h
  · split at h
    · next hc => obtain hc := hc; subst hc; cases h; exact ct_xanswersFor G M _ _ hg
    · cases h
  · cases h

def s_qifV : List Value → wMem → Option (Prop × Option Value × wMem) := fun As M => match As with | [.ref b, .int s, .int w, .int x] => if b = 0 then some (RN M, some (.int (qIf (wI M 253) s w x)), M) else none | _ => none
def pf_qifV : wPft := pfA 64 s_qifV pf_qansF
theorem pf_qifV_ok (G : wG) : wPfOk G pf_qifV := by
  refine pfA_ok (fun As M g o M2 h hg => ?_) (pf_qansF_ok G)
  unfold s_qifV at h
  split at h
  · split at h
    · next hc => obtain hc := hc; subst hc; cases h; exact ct_xifVoted G M _ _ _ hg
    · cases h
  · cases h

def s_qmm : List Value → wMem → Option (Prop × Option Value × wMem) := fun As M => match As with | [.ref b] => if b = 0 then some (RN M, some (.int (oN (qMm (wI M 253)) (-6))), M) else none | _ => none
def pf_qmm : wPft := pfA 65 s_qmm pf_qifV
theorem pf_qmm_ok (G : wG) : wPfOk G pf_qmm := by
  refine pfA_ok (fun As M g o M2 h hg => ?_) (pf_qifV_ok G)
  unfold s_qmm at h
  split at h
  · split at h
    · next hc => obtain hc := hc; subst hc; cases h; exact ct_xmostMissed G M hg
    · cases h
  · cases h

def s_qnr : List Value → wMem → Option (Prop × Option Value × wMem) := fun As M => match As with | [.ref b] => if b = 0 then some (RN M, some (.int (oN (qNr (wI M 253)) (-6))), M) else none | _ => none
def pf_qnr : wPft := pfA 66 s_qnr pf_qmm
theorem pf_qnr_ok (G : wG) : wPfOk G pf_qnr := by
  refine pfA_ok (fun As M g o M2 h hg => ?_) (pf_qmm_ok G)
  unfold s_qnr at h
  split at h
  · split at h
    · next hc => obtain hc := hc; subst hc; cases h; exact ct_xnearest G M hg
    · cases h
  · cases h

/-! the law's own small methods -/
def lowI (x n : Int32) : Int32 := (x &&& 2147483647) - (x &&& 2147483647) / n * n
set_option maxRecDepth 100000 in
set_option maxHeartbeats 4000000 in
theorem ct_low (G : wG) (M : wMem) (x n : Int32) (hn : ¬ n = 0) : CT G 80 0 0 [.int x, .int n] M (fun o M' => o = some (.int (lowI x n)) ∧ M' = M) := by
  have hn' : (n = 0) = False := eq_false hn
  refine CT.intro wm_80 mo_80 (by decide +kernel) false (by simp) (Nat.le_of_ble_eq_true rfl) ?_
  refine wGoC (pf1_ok G) 60 [] [] (fun C c0 c1 c2 c3 c4 c5 c6 c7 c8 c9 c10 c11 c12 => ?_)
  simp (config := {maxSteps := 10000000}) only [i1_0, nn_t, nn_f, im_t, im_f, nn_n, xR_s, xR_z, c0, c1, c2, c3, c4, c5, c6, c7, c8, c9, c10, c11, c12, iPuI_e, iPuR_e, iPuL_e, iStoI_e, iStoR_e, iInc_e, iAdd_e, iSub_e, iMul_e, iAnd_e, iOr_e, iShl_e, iShr_e, iPo_i, iLdi_e, iUshr_e, iDiv_e, iRem_e, iLushr_e, iLshl_e, iLand_e, iLor_e, iLcmp_e, iI2l_e, iL2i_e, iI2c_e, iDup_e, iDup2_e, iIf_e, iIfc_e, iSwA, iSw_e, iGetf_r, iGetf_i, iGetf_z, iPutf_i, iPutf_z, iPutf_rt, iPutf_rf, iGets_e, iLdc_e, iAl_e, iAl2_e, iAlr_e, iAq_e, iAq2_e, iAsI_e, iAsZ_e, iAsC_e, iAs2_e, iAt_e, iAt2_e, iLen_e, iNew_e, iNwa_e, iNwq_e, iPop, iCl2_s, iCl2_n, iIv2_e, iIv_e, iIv_c, iIs2_e, iIs_e, iIs_n, iIs_max, iIs_min, iIs_cop, iCp2_e, iIp2_e, iIp_o, iIp_2, iIp_3, iRet_i, iRet_z, iRtv_e, xE_iconst, xE_bipush, xE_sipush, xE_lconst, xE_ldc2_w, xE_iload_n, xE_iload, xE_lload_n, xE_aload_n, xE_aload, xE_istore_n, xE_istore, xE_astore_n, xE_astore, xE_iinc, xE_iadd, xE_isub, xE_imul, xE_idiv, xE_irem, xE_iand, xE_ior, xE_ishl, xE_ishr, xE_pop, xE_ldc, xE_iushr, xE_lushr, xE_lshl, xE_land, xE_lor, xE_lcmp, xE_i2l, xE_l2i, xE_i2c, xE_dup, xE_dup2, xE_ifCond, xE_if_icmp, xE_goto, xE_getfield, xE_putfield, xE_getstatic, xE_baload, xE_caload, xE_iaload, xE_aaload, xE_iastore, xE_bastore, xE_castore, xE_aastore, xE_arraylength, xE_new, xE_newarray_int, xE_newarray_boolean, xE_newarray_char, xE_anewarray, xE_checkcast, xE_invokevirtual, xE_invokestatic, xE_invokespecial, xE_ireturn, xE_return_, xE_tableswitch, eCl, eKd, wCnd, pf0, wArgs, lg_n, lg_0, lg_s, wNl_n, wNl_i, wNl_r, wCat_n, wCat_i, wCat_r, wCat_l, cInt, cRef, cLong, fv0, fv1, fv2, fv3, fw0, fw1, oi_m1, oi_0, oi_1, oi_2, oi_3, oi_4, oi_5, wRf, wLn_n, wLn_c, List.length_cons, List.length_nil, List.replicate, List.set_cons_zero, List.set_cons_succ, List.cons_append, List.nil_append, List.mem_cons, List.not_mem_nil, if_true, if_false, ↓reduceIte, true_and, and_true, or_true, true_or, or_false, false_or, Option.toList, Nat.reduceAdd, Nat.reduceSub, Nat.reduceLT, Nat.reduceLeDiff, Nat.reduceEqDiff, Nat.le_refl, eq_self, Nat.zero_le, Int.cast_ofNat_Int, Int.reduceSub, Int.reduceAdd, Int.reduceLE, Int.reduceToNat, Int.reduceNeg, Int32.reduceAdd, Int32.reduceSub, Int32.reduceMul, Int32.reduceLT, i_leF, Bool.false_eq_true, Bool.true_eq_false, b2i_T, b2i_F, b2i_0, b2i_01, i_a0, not_false_eq_true, oi_6, oi_7, oi_8, oi_9, oi_10, oi_11, oi_12, oi_13, oi_14, oi_15, oi_16, oi_17, oi_18, oi_19, oi_20, oi_21, dL_low_0, dL_low_1, jo_8_8, dL_low_3, dL_low_4, dL_low_5, dL_low_6, pf1, hn']
  rfl
def s_low : List Value → wMem → Option (Prop × Option Value × wMem) := fun As M => match As with | [.int x, .int n] => some (¬ n = 0, some (.int (lowI x n)), M) | _ => none
def pf_low : wPft := pfA 80 s_low pf_qnr
theorem pf_low_ok (G : wG) : wPfOk G pf_low := by
  refine pfA_ok (fun As M g o M2 h hg => ?_) (pf_qnr_ok G)
  unfold s_low at h
  split at h
  · cases h; exact ct_low G M _ _ hg
  · cases h

set_option maxRecDepth 100000 in
set_option maxHeartbeats 4000000 in
theorem ct_cell (G : wG) (M : wMem) (k : Nat) (hk : k < gN G 1000000) (hb : gN G 1000000 ≤ 260) : CT G 79 0 0 [.ref 1000000, .int (nI k)] M (fun o M' => o = some (.int (gF G 1000000 k)) ∧ M' = M) := by
  have e1 : (Int32.ofNat (gN G 1000000) ≤ nI k) = False := eq_false (i_nle.mpr (nI_lt hk (by omega)))
  have e2 : vp_in (nI k) (gN G 1000000) := vp_in_nI hk (by omega)
  have e3 : (nI k).toNatClampNeg = k := nI_clamp (by omega)
  refine CT.intro wm_79 mo_79 (by decide +kernel) false (by simp) (Nat.le_of_ble_eq_true rfl) ?_
  refine wGoC (pf1_ok G) 60 [8] [] (fun C c0 c1 c2 c3 c4 c5 c6 c7 c8 c9 c10 c11 c12 => ?_)
  simp (config := {maxSteps := 10000000}) only [i1_0, nn_t, nn_f, im_t, im_f, nn_n, xR_s, xR_z, c0, c1, c2, c3, c4, c5, c6, c7, c8, c9, c10, c11, c12, iPuI_e, iPuR_e, iPuL_e, iStoI_e, iStoR_e, iInc_e, iAdd_e, iSub_e, iMul_e, iAnd_e, iOr_e, iShl_e, iShr_e, iPo_i, iLdi_e, iUshr_e, iDiv_e, iRem_e, iLushr_e, iLshl_e, iLand_e, iLor_e, iLcmp_e, iI2l_e, iL2i_e, iI2c_e, iDup_e, iDup2_e, iIf_e, iIfc_e, iSwA, iSw_e, iGetf_r, iGetf_i, iGetf_z, iPutf_i, iPutf_z, iPutf_rt, iPutf_rf, iGets_e, iLdc_e, iAl_e, iAl2_e, iAlr_e, iAq_e, iAq2_e, iAsI_e, iAsZ_e, iAsC_e, iAs2_e, iAt_e, iAt2_e, iLen_e, iNew_e, iNwa_e, iNwq_e, iPop, iCl2_s, iCl2_n, iIv2_e, iIv_e, iIv_c, iIs2_e, iIs_e, iIs_n, iIs_max, iIs_min, iIs_cop, iCp2_e, iIp2_e, iIp_o, iIp_2, iIp_3, iRet_i, iRet_z, iRtv_e, xE_iconst, xE_bipush, xE_sipush, xE_lconst, xE_ldc2_w, xE_iload_n, xE_iload, xE_lload_n, xE_aload_n, xE_aload, xE_istore_n, xE_istore, xE_astore_n, xE_astore, xE_iinc, xE_iadd, xE_isub, xE_imul, xE_idiv, xE_irem, xE_iand, xE_ior, xE_ishl, xE_ishr, xE_pop, xE_ldc, xE_iushr, xE_lushr, xE_lshl, xE_land, xE_lor, xE_lcmp, xE_i2l, xE_l2i, xE_i2c, xE_dup, xE_dup2, xE_ifCond, xE_if_icmp, xE_goto, xE_getfield, xE_putfield, xE_getstatic, xE_baload, xE_caload, xE_iaload, xE_aaload, xE_iastore, xE_bastore, xE_castore, xE_aastore, xE_arraylength, xE_new, xE_newarray_int, xE_newarray_boolean, xE_newarray_char, xE_anewarray, xE_checkcast, xE_invokevirtual, xE_invokestatic, xE_invokespecial, xE_ireturn, xE_return_, xE_tableswitch, eCl, eKd, wCnd, pf0, wArgs, lg_n, lg_0, lg_s, wNl_n, wNl_i, wNl_r, wCat_n, wCat_i, wCat_r, wCat_l, cInt, cRef, cLong, fv0, fv1, fv2, fv3, fw0, fw1, oi_m1, oi_0, oi_1, oi_2, oi_3, oi_4, oi_5, wRf, wLn_n, wLn_c, List.length_cons, List.length_nil, List.replicate, List.set_cons_zero, List.set_cons_succ, List.cons_append, List.nil_append, List.mem_cons, List.not_mem_nil, if_true, if_false, ↓reduceIte, true_and, and_true, or_true, true_or, or_false, false_or, Option.toList, Nat.reduceAdd, Nat.reduceSub, Nat.reduceLT, Nat.reduceLeDiff, Nat.reduceEqDiff, Nat.le_refl, eq_self, Nat.zero_le, Int.cast_ofNat_Int, Int.reduceSub, Int.reduceAdd, Int.reduceLE, Int.reduceToNat, Int.reduceNeg, Int32.reduceAdd, Int32.reduceSub, Int32.reduceMul, Int32.reduceLT, i_leF, Bool.false_eq_true, Bool.true_eq_false, b2i_T, b2i_F, b2i_0, b2i_01, i_a0, not_false_eq_true, oi_6, oi_7, oi_8, oi_9, oi_10, oi_11, oi_12, oi_13, oi_14, oi_15, oi_16, oi_17, oi_18, oi_19, oi_20, oi_21, dL_cell_0, dL_cell_1, dL_cell_2, dL_cell_3, dL_cell_6, dL_cell_7, dL_cell_8, dL_cell_9, dL_cell_12, jo_8_7, dL_cell_14, dL_cell_15, dL_cell_16, sp_977, dL_cell_19, dL_cell_20, pf1, e1, e2, e3]
