theorem neM {x : Int32} {a c : Int} (h : x.toInt < a ∨ c < x.toInt) (d : Int32) (hd : a ≤ d.toInt ∧ d.toInt ≤ c) : (x = d) = False := eq_false (fun e => by subst e; omega)
def inB (x a b : Int32) : Bool := decide (a ≤ x ∧ x ≤ b)
theorem inB_e (x a b : Int32) : b2i (a ≤ x ∧ x ≤ b) = b2i (inB x a b = true) := by simp [inB, b2i]
theorem ct_isW2 (G : wG) (a b c : Int32) (M : wMem) : CT G 72 0 0 [.int a, .int b, .int c] M (fun o M' => o = some (.int (b2i (inB a b c = true))) ∧ M' = M) := by
  rw [← inB_e]
  exact ct_isWithin G a b c M
def s_xin : List Value → wMem → Option (Prop × Option Value × wMem) := fun As M => match As with | [.int a, .int b, .int c] => some (True, some (.int (b2i (inB a b c = true))), M) | _ => none
def pf_xin : wPft := pfA 72 s_xin pf1
theorem pf_xin_ok (G : wG) : wPfOk G pf_xin := by
  refine pfA_ok (fun As M g o M2 h hg => ?_) (pf1_ok G)
  unfold s_xin at h
  split at h
  · cases h; exact ct_isW2 G _ _ _ M
  · cases h

theorem ct_isS7 (G : wG) (a : Int32) (M : wMem) : CT G 73 0 0 [.int a] M (fun o M' => o = some (.int (b2i (inB a 0 5 = true))) ∧ M' = M) := by
  rw [← inB_e]
  exact ct_isSolver7 G a M
def s_xis : List Value → wMem → Option (Prop × Option Value × wMem) := fun As M => match As with | [.int a] => some (True, some (.int (b2i (inB a 0 5 = true))), M) | _ => none
def pf_xis : wPft := pfA 73 s_xis pf_xin
theorem pf_xis_ok (G : wG) : wPfOk G pf_xis := by
  refine pfA_ok (fun As M g o M2 h hg => ?_) (pf_xin_ok G)
  unfold s_xis at h
  split at h
  · cases h; exact ct_isS7 G _ M
  · cases h

theorem inB_k {x : Int32} {c : Nat} (hc : c < 2 ^ 31) (h : inB x 0 (nI c) = true) : ∃ k, k ≤ c ∧ x = nI k := by
  have h := of_decide_eq_true h
  obtain ⟨k, hk, rfl⟩ := nI_of (x := x) (i_nlt.mpr h.1)
  exact ⟨k, (nI_leI hk hc).mp h.2, rfl⟩
def entO (v : Nat → Int32) (w a : Int32) : Option Nat := fstP (fun k => decide (eO v k = w ∧ nI (cntP (fun k => decide (eO v k = w)) k) = a)) (sN v)
theorem entO_lt {v : Nat → Int32} {w a : Int32} {j : Nat} (h : entO v w a = some j) : j < sN v := (fstP_some h).1
def qVote (v : Nat → Int32) (w a x : Int32) : Int32 :=
  if isW v w = true ∧ ¬ a < 0 then (match entO v w a with
    | none => -1
    | some j => if x = 0 then eM v j else if x = 1 then eW v j else if x = 2 then nI (cntP (plP (eO v) (eW v) j) (sN v)) else if x = 3 then lMany (dlc 27 (eH v j))
      else if x < 0 then -2 else lAt (dlc 27 (eH v j)) (x - 4).toNatClampNeg)
  else -1
def qSolver (v : Nat → Int32) (s x : Int32) : Int32 :=
  if inB s 0 5 = true then
    if x = 0 then v (12 + 4 * s.toNatClampNeg) else if x = 1 then v (13 + 4 * s.toNatClampNeg) else if x = 2 then v (14 + 4 * s.toNatClampNeg)
    else if x = 3 then nI (cntP (plS (sT v) s.toNatClampNeg) 6) else if x = 4 then meanI (v (15 + 4 * s.toNatClampNeg)) (v (13 + 4 * s.toNatClampNeg)) else -2
  else -1