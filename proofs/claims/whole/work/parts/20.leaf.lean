/-! ===== pure methods of both classes, and their summaries ===== -/
def b2i (c : Prop) [Decidable c] : Int32 := if c then 1 else 0
theorem b2i_0 {c : Prop} [Decidable c] : b2i c = 0 ↔ ¬ c := by unfold b2i; split <;> simp_all
theorem b2i_1 {c : Prop} [Decidable c] : b2i c = 1 ↔ c := by unfold b2i; split <;> simp_all
theorem b2i_t {c : Prop} [Decidable c] (h : c) : b2i c = 1 := by simp [b2i, h]
theorem b2i_f {c : Prop} [Decidable c] (h : ¬ c) : b2i c = 0 := by simp [b2i, h]
theorem b2i_01 (c : Prop) [Decidable c] : b2i c = 0 ∨ b2i c = 1 := by unfold b2i; split <;> simp
theorem i_nlt {a b : Int32} : ¬ a < b ↔ b ≤ a := Int32.not_lt
theorem i_nle {a b : Int32} : ¬ a ≤ b ↔ b < a := Int32.not_le
set_option maxRecDepth 100000 in
set_option maxHeartbeats 4000000 in
theorem ct_at (G : wG) (a b : Int32) (M : wMem) : CT G 87 0 0 [.int a, .int b] M (fun o M' => o = some (.int (108 + 4 * a + b)) ∧ M' = M) := by
  refine CT.intro wm_87 mo_87 (by decide +kernel) false (by simp) (Nat.le_of_ble_eq_true rfl) ?_
  refine wGo (pf0_ok G) 40 [] [] ?_
  simp (config := {maxSteps := 10000000}) only [wStep, wSem, wRun, wO, wLi, wLl, wLr, s1i, s2i, s1l, s2l, s1r, sIR, sIIR, sRIR, sVR, wVi, wVr, sLI, s1v, s2v, s1e, s0e, sCop, wPop, wOb, wAr, wAq, eCl, eKd, wCnd, wBt, wSwA, aKd, wJ, wCall, wIv, wIs, wIp, pf0, wArgs, lg, wNl, wCat, cInt, cRef, cLong, fv0, fv1, fv2, fv3, fw0, fw1, oi_m1, oi_0, oi_1, oi_2, oi_3, oi_4, oi_5, wRf, List.length_cons, List.length_nil, List.replicate, List.set_cons_zero, List.set_cons_succ, List.cons_append, List.nil_append, List.mem_cons, List.not_mem_nil, if_true, if_false, reduceIte, true_and, and_true, or_true, true_or, or_false, false_or, Option.toList, Nat.reduceAdd, Nat.reduceSub, Nat.reduceLT, Nat.reduceLeDiff, Nat.reduceEqDiff, Nat.le_refl, eq_self, Nat.zero_le, Int.cast_ofNat_Int, Int.reduceSub, Int.reduceAdd, Int.reduceLE, Int.reduceToNat, Int.reduceNeg, dX8_at_0, bp_108, dX8_at_2, dX8_at_3, dX8_at_4, dX8_at_5, dX8_at_6, dX8_at_7, dX8_at_8]
set_option maxRecDepth 100000 in
set_option maxHeartbeats 4000000 in
theorem ct_of (G : wG) (a b : Int32) (M : wMem) : CT G 86 0 0 [.int a, .int b] M (fun o M' => o = some (.int (36 + 6 * a + b)) ∧ M' = M) := by
  refine CT.intro wm_86 mo_86 (by decide +kernel) false (by simp) (Nat.le_of_ble_eq_true rfl) ?_
  refine wGo (pf0_ok G) 40 [] [] ?_
  simp (config := {maxSteps := 10000000}) only [wStep, wSem, wRun, wO, wLi, wLl, wLr, s1i, s2i, s1l, s2l, s1r, sIR, sIIR, sRIR, sVR, wVi, wVr, sLI, s1v, s2v, s1e, s0e, sCop, wPop, wOb, wAr, wAq, eCl, eKd, wCnd, wBt, wSwA, aKd, wJ, wCall, wIv, wIs, wIp, pf0, wArgs, lg, wNl, wCat, cInt, cRef, cLong, fv0, fv1, fv2, fv3, fw0, fw1, oi_m1, oi_0, oi_1, oi_2, oi_3, oi_4, oi_5, wRf, List.length_cons, List.length_nil, List.replicate, List.set_cons_zero, List.set_cons_succ, List.cons_append, List.nil_append, List.mem_cons, List.not_mem_nil, if_true, if_false, reduceIte, true_and, and_true, or_true, true_or, or_false, false_or, Option.toList, Nat.reduceAdd, Nat.reduceSub, Nat.reduceLT, Nat.reduceLeDiff, Nat.reduceEqDiff, Nat.le_refl, eq_self, Nat.zero_le, Int.cast_ofNat_Int, Int.reduceSub, Int.reduceAdd, Int.reduceLE, Int.reduceToNat, Int.reduceNeg, dX8_of_0, bp_36, dX8_of_2, bp_6, dX8_of_4, dX8_of_5, dX8_of_6, dX8_of_7, dX8_of_8, dX8_of_9]
set_option maxRecDepth 100000 in
set_option maxHeartbeats 4000000 in
theorem ct_ofSolver (G : wG) (a b : Int32) (M : wMem) : CT G 85 0 0 [.int a, .int b] M (fun o M' => o = some (.int (12 + 4 * a + b)) ∧ M' = M) := by
  refine CT.intro wm_85 mo_85 (by decide +kernel) false (by simp) (Nat.le_of_ble_eq_true rfl) ?_
  refine wGo (pf0_ok G) 40 [] [] ?_
  simp (config := {maxSteps := 10000000}) only [wStep, wSem, wRun, wO, wLi, wLl, wLr, s1i, s2i, s1l, s2l, s1r, sIR, sIIR, sRIR, sVR, wVi, wVr, sLI, s1v, s2v, s1e, s0e, sCop, wPop, wOb, wAr, wAq, eCl, eKd, wCnd, wBt, wSwA, aKd, wJ, wCall, wIv, wIs, wIp, pf0, wArgs, lg, wNl, wCat, cInt, cRef, cLong, fv0, fv1, fv2, fv3, fw0, fw1, oi_m1, oi_0, oi_1, oi_2, oi_3, oi_4, oi_5, wRf, List.length_cons, List.length_nil, List.replicate, List.set_cons_zero, List.set_cons_succ, List.cons_append, List.nil_append, List.mem_cons, List.not_mem_nil, if_true, if_false, reduceIte, true_and, and_true, or_true, true_or, or_false, false_or, Option.toList, Nat.reduceAdd, Nat.reduceSub, Nat.reduceLT, Nat.reduceLeDiff, Nat.reduceEqDiff, Nat.le_refl, eq_self, Nat.zero_le, Int.cast_ofNat_Int, Int.reduceSub, Int.reduceAdd, Int.reduceLE, Int.reduceToNat, Int.reduceNeg, dX8_ofSolver_0, bp_12, dX8_ofSolver_2, dX8_ofSolver_3, dX8_ofSolver_4, dX8_ofSolver_5, dX8_ofSolver_6, dX8_ofSolver_7, dX8_ofSolver_8]
set_option maxRecDepth 100000 in
set_option maxHeartbeats 4000000 in
theorem ct_in (G : wG) (a b c : Int32) (M : wMem) : CT G 82 0 0 [.int a, .int b, .int c] M (fun o M' => o = some (.int (b2i (b ≤ a ∧ a ≤ c))) ∧ M' = M) := by
  refine CT.intro wm_82 mo_82 (by decide +kernel) false (by simp) (Nat.le_of_ble_eq_true rfl) ?_
  refine wGo (pf0_ok G) 40 [] [] ?_
  simp (config := {maxSteps := 10000000}) only [wStep, wSem, wRun, wO, wLi, wLl, wLr, s1i, s2i, s1l, s2l, s1r, sIR, sIIR, sRIR, sVR, wVi, wVr, sLI, s1v, s2v, s1e, s0e, sCop, wPop, wOb, wAr, wAq, eCl, eKd, wCnd, wBt, wSwA, aKd, wJ, wCall, wIv, wIs, wIp, pf0, wArgs, lg, wNl, wCat, cInt, cRef, cLong, fv0, fv1, fv2, fv3, fw0, fw1, oi_m1, oi_0, oi_1, oi_2, oi_3, oi_4, oi_5, wRf, List.length_cons, List.length_nil, List.replicate, List.set_cons_zero, List.set_cons_succ, List.cons_append, List.nil_append, List.mem_cons, List.not_mem_nil, if_true, if_false, reduceIte, true_and, and_true, or_true, true_or, or_false, false_or, Option.toList, Nat.reduceAdd, Nat.reduceSub, Nat.reduceLT, Nat.reduceLeDiff, Nat.reduceEqDiff, Nat.le_refl, eq_self, Nat.zero_le, Int.cast_ofNat_Int, Int.reduceSub, Int.reduceAdd, Int.reduceLE, Int.reduceToNat, Int.reduceNeg, dX8_in_0, dX8_in_1, dX8_in_2, dX8_in_5, dX8_in_6, dX8_in_7, dX8_in_10, dX8_in_11, dX8_in_14, dX8_in_15]
  refine ⟨fun h => ?_, fun h => ⟨fun h2 => ?_, fun h2 => ?_⟩⟩
  · rw [b2i_f (fun q => i_nlt.mpr q.1 h)]
  · rw [b2i_f (fun q => i_nlt.mpr q.2 h2)]
  · rw [b2i_t ⟨i_nlt.mp h, i_nlt.mp h2⟩]
set_option maxRecDepth 100000 in
set_option maxHeartbeats 4000000 in
theorem ct_isWithin (G : wG) (a b c : Int32) (M : wMem) : CT G 74 0 0 [.int a, .int b, .int c] M (fun o M' => o = some (.int (b2i (b ≤ a ∧ a ≤ c))) ∧ M' = M) := by
  refine CT.intro wm_74 mo_74 (by decide +kernel) false (by simp) (Nat.le_of_ble_eq_true rfl) ?_
  refine wGo (pf0_ok G) 40 [] [] ?_
  simp (config := {maxSteps := 10000000}) only [wStep, wSem, wRun, wO, wLi, wLl, wLr, s1i, s2i, s1l, s2l, s1r, sIR, sIIR, sRIR, sVR, wVi, wVr, sLI, s1v, s2v, s1e, s0e, sCop, wPop, wOb, wAr, wAq, eCl, eKd, wCnd, wBt, wSwA, aKd, wJ, wCall, wIv, wIs, wIp, pf0, wArgs, lg, wNl, wCat, cInt, cRef, cLong, fv0, fv1, fv2, fv3, fw0, fw1, oi_m1, oi_0, oi_1, oi_2, oi_3, oi_4, oi_5, wRf, List.length_cons, List.length_nil, List.replicate, List.set_cons_zero, List.set_cons_succ, List.cons_append, List.nil_append, List.mem_cons, List.not_mem_nil, if_true, if_false, reduceIte, true_and, and_true, or_true, true_or, or_false, false_or, Option.toList, Nat.reduceAdd, Nat.reduceSub, Nat.reduceLT, Nat.reduceLeDiff, Nat.reduceEqDiff, Nat.le_refl, eq_self, Nat.zero_le, Int.cast_ofNat_Int, Int.reduceSub, Int.reduceAdd, Int.reduceLE, Int.reduceToNat, Int.reduceNeg, dX7_isWithin_0, dX7_isWithin_1, dX7_isWithin_2, dX7_isWithin_5, dX7_isWithin_6, dX7_isWithin_7, dX7_isWithin_10, dX7_isWithin_11, dX7_isWithin_14, dX7_isWithin_15]
  refine ⟨fun h => ?_, fun h => ⟨fun h2 => ?_, fun h2 => ?_⟩⟩
  · rw [b2i_f (fun q => i_nlt.mpr q.1 h)]
  · rw [b2i_f (fun q => i_nlt.mpr q.2 h2)]
  · rw [b2i_t ⟨i_nlt.mp h, i_nlt.mp h2⟩]
def meanI (a b : Int32) : Int32 := if b = 0 then 0 else a / b
set_option maxRecDepth 100000 in
set_option maxHeartbeats 4000000 in
theorem ct_mean7 (G : wG) (a b : Int32) (M : wMem) : CT G 76 0 0 [.int a, .int b] M (fun o M' => o = some (.int (meanI a b)) ∧ M' = M) := by
  refine CT.intro wm_76 mo_76 (by decide +kernel) false (by simp) (Nat.le_of_ble_eq_true rfl) ?_
  refine wGo (pf0_ok G) 40 [] [] ?_
  simp (config := {maxSteps := 10000000}) only [wStep, wSem, wRun, wO, wLi, wLl, wLr, s1i, s2i, s1l, s2l, s1r, sIR, sIIR, sRIR, sVR, wVi, wVr, sLI, s1v, s2v, s1e, s0e, sCop, wPop, wOb, wAr, wAq, eCl, eKd, wCnd, wBt, wSwA, aKd, wJ, wCall, wIv, wIs, wIp, pf0, wArgs, lg, wNl, wCat, cInt, cRef, cLong, fv0, fv1, fv2, fv3, fw0, fw1, oi_m1, oi_0, oi_1, oi_2, oi_3, oi_4, oi_5, wRf, List.length_cons, List.length_nil, List.replicate, List.set_cons_zero, List.set_cons_succ, List.cons_append, List.nil_append, List.mem_cons, List.not_mem_nil, if_true, if_false, reduceIte, true_and, and_true, or_true, true_or, or_false, false_or, Option.toList, Nat.reduceAdd, Nat.reduceSub, Nat.reduceLT, Nat.reduceLeDiff, Nat.reduceEqDiff, Nat.le_refl, eq_self, Nat.zero_le, Int.cast_ofNat_Int, Int.reduceSub, Int.reduceAdd, Int.reduceLE, Int.reduceToNat, Int.reduceNeg, dX7_mean_0, dX7_mean_1, dX7_mean_4, dX7_mean_5, dX7_mean_8, dX7_mean_9, dX7_mean_10, dX7_mean_11]
  exact ⟨fun h => ⟨h, by simp [meanI, h]⟩, fun h => by simp [meanI, Classical.not_not.mp h]⟩
set_option maxRecDepth 100000 in
set_option maxHeartbeats 4000000 in
theorem ct_mean8 (G : wG) (m : Nat) (a b : Int32) (M : wMem) : CT G 97 0 0 [.ref m, .int a, .int b] M (fun o M' => o = some (.int (meanI a b)) ∧ M' = M) := by
  refine CT.intro wm_97 mo_97 (by decide +kernel) false (by simp) (Nat.le_of_ble_eq_true rfl) ?_
  refine wGo (pf0_ok G) 40 [] [] ?_
  simp (config := {maxSteps := 10000000}) only [wStep, wSem, wRun, wO, wLi, wLl, wLr, s1i, s2i, s1l, s2l, s1r, sIR, sIIR, sRIR, sVR, wVi, wVr, sLI, s1v, s2v, s1e, s0e, sCop, wPop, wOb, wAr, wAq, eCl, eKd, wCnd, wBt, wSwA, aKd, wJ, wCall, wIv, wIs, wIp, pf0, wArgs, lg, wNl, wCat, cInt, cRef, cLong, fv0, fv1, fv2, fv3, fw0, fw1, oi_m1, oi_0, oi_1, oi_2, oi_3, oi_4, oi_5, wRf, List.length_cons, List.length_nil, List.replicate, List.set_cons_zero, List.set_cons_succ, List.cons_append, List.nil_append, List.mem_cons, List.not_mem_nil, if_true, if_false, reduceIte, true_and, and_true, or_true, true_or, or_false, false_or, Option.toList, Nat.reduceAdd, Nat.reduceSub, Nat.reduceLT, Nat.reduceLeDiff, Nat.reduceEqDiff, Nat.le_refl, eq_self, Nat.zero_le, Int.cast_ofNat_Int, Int.reduceSub, Int.reduceAdd, Int.reduceLE, Int.reduceToNat, Int.reduceNeg, dX8_mean_0, dX8_mean_1, dX8_mean_4, dX8_mean_5, dX8_mean_8, dX8_mean_9, dX8_mean_10, dX8_mean_11]
  exact ⟨fun h => ⟨h, by simp [meanI, h]⟩, fun h => by simp [meanI, Classical.not_not.mp h]⟩
/-- summaries: what these answer -/
def pf1 : wPft := fun z As _ =>
  if z = 87 then (match As with | [.int a, .int b] => some (True, some (.int (108 + 4 * a + b))) | _ => none)
  else if z = 86 then (match As with | [.int a, .int b] => some (True, some (.int (36 + 6 * a + b))) | _ => none)
  else if z = 85 then (match As with | [.int a, .int b] => some (True, some (.int (12 + 4 * a + b))) | _ => none)
  else if z = 82 then (match As with | [.int a, .int b, .int c] => some (True, some (.int (b2i (b ≤ a ∧ a ≤ c)))) | _ => none)
  else if z = 74 then (match As with | [.int a, .int b, .int c] => some (True, some (.int (b2i (b ≤ a ∧ a ≤ c)))) | _ => none)
  else if z = 76 then (match As with | [.int a, .int b] => some (True, some (.int (meanI a b))) | _ => none)
  else if z = 97 then (match As with | [.ref _, .int a, .int b] => some (True, some (.int (meanI a b))) | _ => none)
  else none
theorem pf1_ok (G : wG) : wPfOk G pf1 := by
  intro z As M g o h hg
  unfold pf1 at h
  split at h
  · next hz => subst hz; split at h <;> cases h; exact ct_at G _ _ M
  split at h
  · next hz => subst hz; split at h <;> cases h; exact ct_of G _ _ M
  split at h
  · next hz => subst hz; split at h <;> cases h; exact ct_ofSolver G _ _ M
  split at h
  · next hz => subst hz; split at h <;> cases h; exact ct_in G _ _ _ M
  split at h
  · next hz => subst hz; split at h <;> cases h; exact ct_isWithin G _ _ _ M
  split at h
  · next hz => subst hz; split at h <;> cases h; exact ct_mean7 G _ _ M
  split at h
  · next hz => subst hz; split at h <;> cases h; exact ct_mean8 G _ _ _ M
  cases h
set_option maxRecDepth 100000 in
set_option maxHeartbeats 4000000 in
theorem ct_isSolver8 (G : wG) (a : Int32) (M : wMem) : CT G 83 0 0 [.int a] M (fun o M' => o = some (.int (b2i (0 ≤ a ∧ a ≤ 5))) ∧ M' = M) := by
  refine CT.intro wm_83 mo_83 (by decide +kernel) false (by simp) (Nat.le_of_ble_eq_true rfl) ?_
  refine wGo (pf1_ok G) 40 [] [] ?_
  simp (config := {maxSteps := 10000000}) only [wStep, wSem, wRun, wO, wLi, wLl, wLr, s1i, s2i, s1l, s2l, s1r, sIR, sIIR, sRIR, sVR, wVi, wVr, sLI, s1v, s2v, s1e, s0e, sCop, wPop, wOb, wAr, wAq, eCl, eKd, wCnd, wBt, wSwA, aKd, wJ, wCall, wIv, wIs, wIp, pf0, wArgs, lg, wNl, wCat, cInt, cRef, cLong, fv0, fv1, fv2, fv3, fw0, fw1, oi_m1, oi_0, oi_1, oi_2, oi_3, oi_4, oi_5, wRf, List.length_cons, List.length_nil, List.replicate, List.set_cons_zero, List.set_cons_succ, List.cons_append, List.nil_append, List.mem_cons, List.not_mem_nil, if_true, if_false, reduceIte, true_and, and_true, or_true, true_or, or_false, false_or, Option.toList, Nat.reduceAdd, Nat.reduceSub, Nat.reduceLT, Nat.reduceLeDiff, Nat.reduceEqDiff, Nat.le_refl, eq_self, Nat.zero_le, Int.cast_ofNat_Int, Int.reduceSub, Int.reduceAdd, Int.reduceLE, Int.reduceToNat, Int.reduceNeg, dX8_isSolver_0, dX8_isSolver_1, dX8_isSolver_2, dX8_isSolver_3, co_8_33, dX8_isSolver_6, pf1, b2i_01]
set_option maxRecDepth 100000 in
set_option maxHeartbeats 4000000 in
theorem ct_isSolver7 (G : wG) (a : Int32) (M : wMem) : CT G 75 0 0 [.int a] M (fun o M' => o = some (.int (b2i (0 ≤ a ∧ a ≤ 5))) ∧ M' = M) := by
  refine CT.intro wm_75 mo_75 (by decide +kernel) false (by simp) (Nat.le_of_ble_eq_true rfl) ?_
  refine wGo (pf1_ok G) 40 [] [] ?_
  simp (config := {maxSteps := 10000000}) only [wStep, wSem, wRun, wO, wLi, wLl, wLr, s1i, s2i, s1l, s2l, s1r, sIR, sIIR, sRIR, sVR, wVi, wVr, sLI, s1v, s2v, s1e, s0e, sCop, wPop, wOb, wAr, wAq, eCl, eKd, wCnd, wBt, wSwA, aKd, wJ, wCall, wIv, wIs, wIp, pf0, wArgs, lg, wNl, wCat, cInt, cRef, cLong, fv0, fv1, fv2, fv3, fw0, fw1, oi_m1, oi_0, oi_1, oi_2, oi_3, oi_4, oi_5, wRf, List.length_cons, List.length_nil, List.replicate, List.set_cons_zero, List.set_cons_succ, List.cons_append, List.nil_append, List.mem_cons, List.not_mem_nil, if_true, if_false, reduceIte, true_and, and_true, or_true, true_or, or_false, false_or, Option.toList, Nat.reduceAdd, Nat.reduceSub, Nat.reduceLT, Nat.reduceLeDiff, Nat.reduceEqDiff, Nat.le_refl, eq_self, Nat.zero_le, Int.cast_ofNat_Int, Int.reduceSub, Int.reduceAdd, Int.reduceLE, Int.reduceToNat, Int.reduceNeg, dX7_isSolver_0, dX7_isSolver_1, dX7_isSolver_2, dX7_isSolver_3, co_7_43, dX7_isSolver_6, pf1, b2i_01]
set_option maxRecDepth 100000 in
set_option maxHeartbeats 4000000 in
theorem ct_least (G : wG) (a : Int32) (M : wMem) : CT G 104 0 0 [.int a] M (fun o M' => o = some (.int (if a = 0 then 10 else 0)) ∧ M' = M) := by
  refine CT.intro wm_104 mo_104 (by decide +kernel) false (by simp) (Nat.le_of_ble_eq_true rfl) ?_
  refine wGo (pf1_ok G) 40 [] [] ?_
  simp (config := {maxSteps := 10000000}) only [wStep, wSem, wRun, wO, wLi, wLl, wLr, s1i, s2i, s1l, s2l, s1r, sIR, sIIR, sRIR, sVR, wVi, wVr, sLI, s1v, s2v, s1e, s0e, sCop, wPop, wOb, wAr, wAq, eCl, eKd, wCnd, wBt, wSwA, aKd, wJ, wCall, wIv, wIs, wIp, pf0, wArgs, lg, wNl, wCat, cInt, cRef, cLong, fv0, fv1, fv2, fv3, fw0, fw1, oi_m1, oi_0, oi_1, oi_2, oi_3, oi_4, oi_5, wRf, List.length_cons, List.length_nil, List.replicate, List.set_cons_zero, List.set_cons_succ, List.cons_append, List.nil_append, List.mem_cons, List.not_mem_nil, if_true, if_false, reduceIte, true_and, and_true, or_true, true_or, or_false, false_or, Option.toList, Nat.reduceAdd, Nat.reduceSub, Nat.reduceLT, Nat.reduceLeDiff, Nat.reduceEqDiff, Nat.le_refl, eq_self, Nat.zero_le, Int.cast_ofNat_Int, Int.reduceSub, Int.reduceAdd, Int.reduceLE, Int.reduceToNat, Int.reduceNeg, dX8_least_0, dX8_least_1, dX8_least_4, bp_10, dX8_least_6, dX8_least_9, dX8_least_10, pf1]
  exact ⟨fun h => by rw [if_neg h], fun h => by rw [if_pos (Classical.not_not.mp h)]⟩
set_option maxRecDepth 100000 in
set_option maxHeartbeats 4000000 in
theorem ct_most (G : wG) (a : Int32) (M : wMem) : CT G 105 0 0 [.int a] M (fun o M' => o = some (.int (if a = 0 then 400 else if a = 1 then 200 else if a = 2 then 9 else if a = 3 then 60 else if a = 4 then 20 else 50)) ∧ M' = M) := by
  refine CT.intro wm_105 mo_105 (by decide +kernel) false (by simp) (Nat.le_of_ble_eq_true rfl) ?_
  refine wGo (pf1_ok G) 40 [] [] ?_
  simp (config := {maxSteps := 10000000}) only [wStep, wSem, wRun, wO, wLi, wLl, wLr, s1i, s2i, s1l, s2l, s1r, sIR, sIIR, sRIR, sVR, wVi, wVr, sLI, s1v, s2v, s1e, s0e, sCop, wPop, wOb, wAr, wAq, eCl, eKd, wCnd, wBt, wSwA, aKd, wJ, wCall, wIv, wIs, wIp, pf0, wArgs, lg, wNl, wCat, cInt, cRef, cLong, fv0, fv1, fv2, fv3, fw0, fw1, oi_m1, oi_0, oi_1, oi_2, oi_3, oi_4, oi_5, wRf, List.length_cons, List.length_nil, List.replicate, List.set_cons_zero, List.set_cons_succ, List.cons_append, List.nil_append, List.mem_cons, List.not_mem_nil, if_true, if_false, reduceIte, true_and, and_true, or_true, true_or, or_false, false_or, Option.toList, Nat.reduceAdd, Nat.reduceSub, Nat.reduceLT, Nat.reduceLeDiff, Nat.reduceEqDiff, Nat.le_refl, eq_self, Nat.zero_le, Int.cast_ofNat_Int, Int.reduceSub, Int.reduceAdd, Int.reduceLE, Int.reduceToNat, Int.reduceNeg, dX8_most_0, dX8_most_1, dX8_most_36, sp_400, dX8_most_39, dX8_most_40, sp_200, dX8_most_43, dX8_most_44, bp_9, dX8_most_46, dX8_most_47, bp_60, dX8_most_49, dX8_most_50, bp_20, dX8_most_52, dX8_most_53, bp_50, dX8_most_55, pf1]
  refine ⟨fun h => ?_, fun h => by subst h; rfl, fun h => by subst h; rfl, fun h => by subst h; rfl, fun h => by subst h; rfl, fun h => by subst h; rfl⟩
  have ne : ∀ c : Int32, 0 ≤ c.toInt → c.toInt ≤ 4 → ¬ a = c := fun c h1 h2 q => by subst q; omega
  rw [if_neg (ne 0 (by decide) (by decide)), if_neg (ne 1 (by decide) (by decide)), if_neg (ne 2 (by decide) (by decide)), if_neg (ne 3 (by decide) (by decide)), if_neg (ne 4 (by decide) (by decide))]
