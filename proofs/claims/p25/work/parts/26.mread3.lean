def pfA (z0 : Nat) (f : List Value → wMem → Option (Prop × Option Value × wMem)) (pf : wPft) : wPft := fun z As M => if z = z0 then f As M else pf z As M
theorem pfA_ok {G : wG} {z0 : Nat} {f : List Value → wMem → Option (Prop × Option Value × wMem)} {pf : wPft} (hf : ∀ As M g o M2, f As M = some (g, o, M2) → g → CT G z0 0 0 As M (fun o' M' => o' = o ∧ M' = M2)) (hpf : wPfOk G pf) : wPfOk G (pfA z0 f pf) := by
  intro z As M g o M2 h hg
  unfold pfA at h
  split at h
  · next hz => subst hz; exact hf As M g o M2 h hg
  · exact hpf z As M g o M2 h hg
theorem mLead_in {v : Nat → Int32} {w : Int32} (hn2 : sN v ≤ 180) {j : Nat} (h : mLead v w = some j) : j < 180 ∧ (nI j = -6) = False := by
  have := (leadO_lt h).1
  exact ⟨by omega, eq_false (nI_m6 (by omega))⟩
