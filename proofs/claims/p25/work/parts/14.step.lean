/-! ===== the symbolic step is the machine's ===== -/
theorem wO_e {α : Type} {o : Option α} {f : α → Prop} (h : wO o f) : ∃ x, o = some x ∧ f x := by
  cases o with
  | none => exact h.elim
  | some x => exact ⟨x, rfl, h⟩
theorem wLi_e {x : Option Value} {f : Int32 → Prop} (h : wLi x f) : ∃ y, x = some (.int y) ∧ f y := by
  unfold wLi at h; split at h
  · exact ⟨_, rfl, h⟩
  · exact h.elim
theorem wLl_e {x : Option Value} {f : Int64 → Prop} (h : wLl x f) : ∃ y, x = some (.long y) ∧ f y := by
  unfold wLl at h; split at h
  · exact ⟨_, rfl, h⟩
  · exact h.elim
theorem wLr_e {x : Option Value} {f : Nat → Prop} (h : wLr x f) : ∃ y, x = some (.ref y) ∧ f y := by
  unfold wLr at h; split at h
  · exact ⟨_, rfl, h⟩
  · exact h.elim
theorem s1i_e {st : List Value} {f : Int32 → List Value → Prop} (h : s1i st f) : ∃ x r, st = .int x :: r ∧ f x r := by
  unfold s1i at h; split at h
  · exact ⟨_, _, rfl, h⟩
  · exact h.elim
theorem s2i_e {st : List Value} {f : Int32 → Int32 → List Value → Prop} (h : s2i st f) : ∃ x y r, st = .int y :: .int x :: r ∧ f x y r := by
  unfold s2i at h; split at h
  · exact ⟨_, _, _, rfl, h⟩
  · exact h.elim
theorem s1l_e {st : List Value} {f : Int64 → List Value → Prop} (h : s1l st f) : ∃ x r, st = .long x :: r ∧ f x r := by
  unfold s1l at h; split at h
  · exact ⟨_, _, rfl, h⟩
  · exact h.elim
theorem s2l_e {st : List Value} {f : Int64 → Int64 → List Value → Prop} (h : s2l st f) : ∃ x y r, st = .long y :: .long x :: r ∧ f x y r := by
  unfold s2l at h; split at h
  · exact ⟨_, _, _, rfl, h⟩
  · exact h.elim
theorem s1r_e {st : List Value} {f : Nat → List Value → Prop} (h : s1r st f) : ∃ x r, st = .ref x :: r ∧ f x r := by
  unfold s1r at h; split at h
  · exact ⟨_, _, rfl, h⟩
  · exact h.elim
theorem sIR_e {st : List Value} {f : Int32 → Nat → List Value → Prop} (h : sIR st f) : ∃ i a r, st = .int i :: .ref a :: r ∧ f i a r := by
  unfold sIR at h; split at h
  · exact ⟨_, _, _, rfl, h⟩
  · exact h.elim
theorem sIIR_e {st : List Value} {f : Int32 → Int32 → Nat → List Value → Prop} (h : sIIR st f) : ∃ x i a r, st = .int x :: .int i :: .ref a :: r ∧ f x i a r := by
  unfold sIIR at h; split at h
  · exact ⟨_, _, _, _, rfl, h⟩
  · exact h.elim
theorem sRIR_e {st : List Value} {f : Nat → Int32 → Nat → List Value → Prop} (h : sRIR st f) : ∃ x i a r, st = .ref x :: .int i :: .ref a :: r ∧ f x i a r := by
  unfold sRIR at h; split at h
  · exact ⟨_, _, _, _, rfl, h⟩
  · exact h.elim
theorem sVR_e {st : List Value} {f : Value → Nat → List Value → Prop} (h : sVR st f) : ∃ v a r, st = v :: .ref a :: r ∧ f v a r := by
  unfold sVR at h; split at h
  · exact ⟨_, _, _, rfl, h⟩
  · exact h.elim
theorem wVi_e {x : Value} {f : Int32 → Prop} (h : wVi x f) : ∃ y, x = .int y ∧ f y := by
  unfold wVi at h; split at h
  · exact ⟨_, rfl, h⟩
  · exact h.elim
theorem wVr_e {x : Value} {f : Nat → Prop} (h : wVr x f) : ∃ y, x = .ref y ∧ f y := by
  unfold wVr at h; split at h
  · exact ⟨_, rfl, h⟩
  · exact h.elim
theorem sLI_e {st : List Value} {f : Int64 → Int32 → List Value → Prop} (h : sLI st f) : ∃ x y r, st = .int y :: .long x :: r ∧ f x y r := by
  unfold sLI at h; split at h
  · exact ⟨_, _, _, rfl, h⟩
  · exact h.elim
theorem s1v_e {st : List Value} {f : Value → List Value → Prop} (h : s1v st f) : ∃ x r, st = x :: r ∧ f x r := by
  unfold s1v at h; split at h
  · exact ⟨_, _, rfl, h⟩
  · exact h.elim
theorem s2v_e {st : List Value} {f : Value → Value → List Value → Prop} (h : s2v st f) : ∃ x y r, st = x :: y :: r ∧ f x y r := by
  unfold s2v at h; split at h
  · exact ⟨_, _, _, rfl, h⟩
  · exact h.elim
theorem s1e_e {st : List Value} {f : Int32 → Prop} (h : s1e st f) : ∃ x, st = [.int x] ∧ f x := by
  unfold s1e at h; split at h
  · exact ⟨_, rfl, h⟩
  · exact h.elim
theorem s0e_e {st : List Value} {f : Prop} (h : s0e st f) : st = [] ∧ f := by
  unfold s0e at h; split at h
  · exact ⟨rfl, h⟩
  · exact h.elim
theorem sCop_e {st : List Value} {f : Int32 → Int32 → Nat → Int32 → Nat → List Value → Prop} (h : sCop st f) : ∃ n dp a sp a0 r, st = .int n :: .int dp :: .ref a :: .int sp :: .ref a0 :: r ∧ f n dp a sp a0 r := by
  unfold sCop at h; split at h
  · exact ⟨_, _, _, _, _, _, rfl, h⟩
  · exact h.elim
theorem wPop_e {f : List Value → List Value → Prop} : ∀ {n : Nat} {st As : List Value}, wPop n st As f → ∃ Bs r, st = Bs.reverse ++ r ∧ Bs.length = n ∧ f (Bs ++ As) r
  | 0, st, As, h => ⟨[], st, rfl, rfl, h⟩
  | n + 1, [], As, h => h.elim
  | n + 1, v :: r, As, h => by
    obtain ⟨Bs, r2, h1, h2, h3⟩ := wPop_e (n := n) (st := r) (As := v :: As) h
    exact ⟨Bs ++ [v], r2, by simp [h1], by simp [h2], by simpa using h3⟩
theorem wAr_e {M : wMem} {a kd : Nat} {f : Nat → Prop} (h : wAr M a kd f) : ∃ l, wS M a = some (kd, l) ∧ f l := by
  unfold wAr at h; split at h
  · next k n e => exact ⟨n, by rw [e, h.1], h.2⟩
  · exact h.elim
theorem wAq_e {M : wMem} {a : Nat} {f : Nat → Nat → Prop} (h : wAq M a f) : ∃ kd l, wS M a = some (kd, l) ∧ 13 ≤ kd ∧ kd < 16 ∧ f kd l := by
  unfold wAq at h; split at h
  · next k n e => exact ⟨k, n, e, h.1, h.2.1, h.2.2⟩
  · exact h.elim
theorem wJ_e {pc : Nat} {off : Int} {f : Nat → Prop} (h : wJ pc off f) : ∃ t : Nat, (pc : Int) + off = (t : Int) ∧ f t := ⟨((pc : Int) + off).toNat, by have := h.1; omega, h.2⟩
theorem wF_ok {o i ci k tc : Nat} {fin : Bool} (h : fOf o i = some (ci, k, tc, fin)) : Jvm.Cond.fieldLink (RXn o) i (RXn ci) (TXn ci k).2.1 (TXn ci k).2.2.1 ∈ wU ∧ ci < 8 ∧ k < NXn ci ∧ (TXn ci k).1 = RXn ci ∧ (TXn ci k).2.2.2 = fin ∧ (tcs ci)[k]? = some tc := by
  have h1 := List.all_eq_true.mp wFchk_ok _ (lookup_mem h)
  simpa [wFchk, and_assoc] using h1
theorem wC_ok {o i : Nat} {q : Nat × Nat × Nat × Nat × Nat} (h : cOf o i = some q) : wCok ((o, i), q) := wCok_all _ (lookup_mem h)
theorem wN_ok {o i ci : Nat} (h : nOf o i = some ci) : Jvm.Cond.classLink (RXn o) i (RXn ci) ∈ wU ∧ ci < 8 := by
  have h1 := List.all_eq_true.mp wNchk_ok _ (lookup_mem h)
  simpa using h1
theorem wL_ok {o i : Nat} {x : Int64} (h : lOf o i = some x) : Jvm.Cond.constantLong (RXn o) i x ∈ wU := by
  have h1 := List.all_eq_true.mp wLchk_ok _ (lookup_mem h)
  simpa using h1
theorem wJc_ok {o i : Nat} {x : Int32} (h : jOf o i = some x) : Jvm.Cond.constant (RXn o) i x ∈ wU := by
  have h1 := List.all_eq_true.mp wJchk_ok _ (lookup_mem h)
  simpa using h1
theorem wK_ok {o i : Nat} (h : (o, i) ∈ kTab) : Jvm.Cond.classLink (RXn o) i "[I" ∈ wU := by
  have h1 := List.all_eq_true.mp wKchk_ok _ h
  simpa using h1
theorem wS_ok {o i a : Nat} {b : Bool} (h : sOf o i = some (a, b)) : (b = false → Jvm.Cond.fieldLink (RXn o) i RX7 (sNm a) "[I" ∈ wU) ∧ 1000001 ≤ a ∧ a < 1000004 := by
  have h1 := List.all_eq_true.mp wSchk_ok _ (lookup_mem h)
  simp only [Bool.and_eq_true, Bool.or_eq_true, decide_eq_true_eq] at h1
  exact ⟨fun hb => by rcases h1.1.1 with h2 | h2; · rw [hb] at h2; cases h2
                      · exact h2, h1.1.2, h1.2⟩
section WAT
variable {G : wG} {M : wMem} {H : Heap}
theorem wAt_o {a ci l : Nat} (hp : wHp G M H) (h : wS M a = some (ci, l)) (hc : ci < 8) : (wWs G M)[a]? = some (gAd G a, .inr (ci, wFs G (tcs ci) (wI M a) (wP M a))) := by
  obtain ⟨h1, h2, -⟩ := hp
  have ha := (h2 _ _ _ h).1
  rw [wWs_at ha, wEnt_of h, wKent_o (by omega), wAd_of (by omega)]
theorem wAt_i {a kd l : Nat} (hp : wHp G M H) (h : wS M a = some (kd, l)) (hk : 10 ≤ kd) (hk2 : kd < 13) : (wWs G M)[a]? = some (gAd G a, .inl (gCA G kd, l, .inl (wI M a))) := by
  obtain ⟨h1, h2, -⟩ := hp
  have ha := (h2 _ _ _ h).1
  rw [wWs_at ha, wEnt_of h, wKent_i hk hk2, wAd_of (by omega)]
theorem wAt_q {a kd l : Nat} (hp : wHp G M H) (h : wS M a = some (kd, l)) (hk : 13 ≤ kd) : (wWs G M)[a]? = some (gAd G a, .inl (gCA G kd, l, .inr (.inr (.inr (.inr (fun j => (wP M a j).map (gAd G))))))) := by
  obtain ⟨h1, h2, -⟩ := hp
  have ha := (h2 _ _ _ h).1
  rw [wWs_at ha, wEnt_of h, wKent_q hk, wAd_of (by omega)]
theorem wHp_set {M' : wMem} {H1 : Heap} {a : Nat} {e : va_E} (hp : wHp G M H) (hz : wZ M' = wZ M) (hs : ∀ q, wS M' q = wS M q) (ha : ∃ x, wS M a = some x) (hi : ∀ i, i ≠ a → ∀ j, wI M' i j = wI M i j) (hr : ∀ i, i ≠ a → ∀ j, wP M' i j = wP M i j) (he : wEnt G M' a = e)
    (hP : va_P (gD G) cl9 ((wWs G M).set a (gAd G a, e)) H1) : wHp G M' H1 := by
  obtain ⟨h1, h2, -⟩ := hp
  obtain ⟨⟨kd, l⟩, hx⟩ := ha
  have hal := (h2 _ _ _ hx).1
  refine ⟨by rw [hz]; exact h1, fun q kd n h => by rw [hz]; exact h2 q kd n (by rw [← hs]; exact h), ?_⟩
  rw [wAd_of (by omega), ← he] at hP
  rw [wWs_set hz hal] at hP
  · exact hP
  · intro i hia
    have e1 : wI M' i = wI M i := funext (hi i hia)
    have e2 : wP M' i = wP M i := funext (hr i hia)
    simp only [wEnt, hs, e1, e2]
theorem wWs_new {kd n : Nat} {f : Nat → Int32} : wWs G (wNew M kd n f) = wWs G M ++ [(gLo G + wZ M, wKent G kd n f (fun _ => none))] := by
  unfold wWs
  rw [wZ_new, List.range_succ, List.map_append]
  congr 1
  · apply List.map_congr_left
    intro i hi
    have hi' : i < wZ M := List.mem_range.mp hi
    have hne : i ≠ wZ M := by omega
    have e1 : wI (wNew M kd n f) i = wI M i := by funext j; rw [wI_new, if_neg hne]
    have e2 : wP (wNew M kd n f) i = wP M i := by funext j; rw [wP_new, if_neg hne]
    simp only [wEnt, wS_new, if_neg hne, e1, e2]
  · have e1 : wI (wNew M kd n f) (wZ M) = f := by funext j; rw [wI_new, if_pos rfl]
    have e2 : wP (wNew M kd n f) (wZ M) = fun _ => none := by funext j; rw [wP_new, if_pos rfl]
    simp only [List.map_cons, List.map_nil, wEnt, wS_new, if_pos, e1, e2]
theorem wHp_new {kd n : Nat} {f : Nat → Int32} {H1 : Heap} {q : Nat} (hp : wHp G M H) (hz : wZ M < 99999) (hkd : kd < 16) (hq : q = gLo G + wZ M) (hP : va_P (gD G) cl9 (wWs G M ++ [(q, wKent G kd n f (fun _ => none))]) H1) : wHp G (wNew M kd n f) H1 := by
  obtain ⟨h1, h2, -⟩ := hp
  refine ⟨by rw [wZ_new]; omega, fun a kd' n' h => ?_, by rw [wWs_new, ← hq]; exact hP⟩
  rw [wS_new] at h
  rw [wZ_new]
  by_cases ha : a = wZ M
  · rw [if_pos ha] at h
    cases h
    exact ⟨by omega, hkd⟩
  · rw [if_neg ha] at h
    have := h2 _ _ _ h
    omega
/-- the place of a new cell -/
theorem wQ_at {q k : Nat} {e : va_E} {H1 : Heap} {s : State} (hz : s.heap.size + k = gLo G + wZ M) (hP : va_P (gD G) cl9 (wWs G M ++ [(q, e)]) H1) (hD : va_D (gA G) (wWs G M ++ [(q, e)])) (hs : H1.size ≤ s.heap.size + (k + 1)) : q = gLo G + wZ M := by
  have hlen := wWs_len G M
  have hat : (wWs G M ++ [(q, e)])[wZ M]? = some (q, e) := by
    rw [List.getElem?_append_right (by omega), hlen]
    simp
  have h1 := (hP _ _ hat).lt
  have h2 : gLo G ≤ q := hD.2 _ _ hat
  have h1' : q < H1.size := h1
  by_cases hlt : q < gLo G + wZ M
  · exfalso
    have hi : q - gLo G < wZ M := by omega
    have hat2 : (wWs G M ++ [(q, e)])[q - gLo G]? = some (gLo G + (q - gLo G), wEnt G M (q - gLo G)) := by
      rw [List.getElem?_append_left (by omega), wWs_at hi]
    have := hD.1 _ _ _ _ hat2 hat (by show gLo G + (q - gLo G) = q; omega)
    omega
  · omega
end WAT
theorem wTy_i {ty : FieldType} {t : Nat} {x : Int32} (h : wTyc ty t = true) (ht : ¬ t = 2) (hx : t = 1 → x = 0 ∨ x = 1) : narrow ty (.int x) = .int x ∧ fits ty (.int x) = true := by
  cases ty <;> simp [wTyc] at h <;> subst h <;> first | exact ⟨rfl, rfl⟩ | (rcases hx rfl with rfl | rfl <;> exact ⟨rfl, rfl⟩) | exact absurd rfl ht
theorem wTy_r {ty : FieldType} {a : Nat} (h : wTyc ty 2 = true) : narrow ty (.ref a) = .ref a ∧ fits ty (.ref a) = true := by
  cases ty <;> simp [wTyc] at h <;> exact ⟨rfl, rfl⟩
theorem wTy_d {ty : FieldType} {t : Nat} (h : wTyc ty t = true) : defaultValue ty = if t = 2 then .null else .int 0 := by
  cases ty <;> simp [wTyc] at h <;> subst h <;> rfl
