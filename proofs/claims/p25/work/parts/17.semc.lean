section SEMC
variable {G : wG} {pf : wPft} {own : Nat} {ini : Bool} {rt : Option FieldType} {v mc ms : Nat} {ros : List Nat} {cc : ByteArray} {Qr : Option Value → wMem → Prop} {K Kc : wKt}
  {p : Program} {e : Env} {R : Room} {s : State} {m : MethodId} {args : Array Value} {below : List Frame} {meth : Method} {c : Code} {Z : State → Prop}
  {pc : Nat} {ls : wLs} {st : List Value} {M : wMem} {k n : Nat}
theorem cell_new {f : Nat → Int32} {cell : Cell} {cA : ClassId} (h1 : cell.cls = cA) (h2 : cell.slots.size = 6) (h3 : ∀ j : Nat, j < 6 → cell.slots[j]? = some (.int (f j))) : ({ cls := cell.cls, slots := cell.slots } : Cell) = vp_cell cA (6, .inl f) := by
  have e : cell.slots = Array.ofFn (n := 6) fun j => Value.int (f j.val) := by
    apply Array.ext_getElem?
    intro i
    by_cases hi : i < 6
    · rw [h3 i hi]
      simp [Array.getElem?_ofFn, hi]
    · rw [Array.getElem?_eq_none (by omega), Array.getElem?_eq_none (by simp; omega)]
  rw [h1, e]
  rfl
theorem wSem_n (hx : p.tables.exec = Jvm.exec) (hb : c.code = cc) (hown : s.vm.findClass (RXn own) = some m.cls) (hts : ∀ w ∈ wU, w.before args s = true) (hE : wEnv G s) (hlo : gLo G ≤ s.heap.size) (hmc : mc ≤ R.cells) (hms : ms ≤ R.slots)
    (hK : ∀ pc ls st M k n, K pc ls st M k n → wAt G p e R s m args below meth c Z pc ls st M k n) {i : Instr} {len : Nat} (hd : decode cc pc = .ok (i, len))
    (hi : match i with | .new _ | .newarray _ | .anewarray _ => True | _ => False)
    (h : wSem G pf own ini rt v mc ms ros Qr K Kc i len pc ls st M k n) : wAt G p e R s m args below meth c Z pc ls st M k n := by
  have hA : ∀ q, s.heap.size ≤ q → gA G q := fun q h => Nat.le_trans hlo h
  cases i with
  | new c0 =>
    obtain ⟨rfl, h⟩ := h; obtain ⟨ci, e1, hz1, h1, h2, h⟩ := wO_e h
    obtain ⟨g1, g2⟩ := wN_ok e1
    intro H locs lsA hl hp hS hz
    have hfs : ∀ j, j < NXn ci → defaultValue (tyn ci j) = vp_V (wFs G (tcs ci) (fun _ => 0) (fun _ => none)) j := by
      intro j hj
      obtain ⟨t, ht⟩ : ∃ t, (tcs ci)[j]? = some t := ⟨_, List.getElem?_eq_getElem (by rw [tcs_len ci g2]; exact hj)⟩
      rw [wTy_d (tcs_ok ci g2 j t ht).2]
      have := wFs_at (G := G) (f := fun _ => 0) (g := fun _ => none) ht
      simp only [vp_V, List.getD_eq_getElem?_getD, this]
      by_cases h9 : t = 2 <;> simp [h9, va_rf]
    refine va_new hx hb hts (wU_lays ci g2) (tyn ci) (tyn_ok ci g2) hown (hts _ g1) (hts _ (wU_inst ci g2).1) (hts _ (wU_inst ci g2).2) hE.1 hp.2.2 (wD_ws G M) hS hA (cl9_at ci g2) hfs (by omega) (by omega) hd (fun q H1 hP hD hS1 => ?_)
    intro T hT X
    have hq := wQ_at hz hP hD (by have := X.heapSize; rw [hT] at this; exact this)
    have hp1 : wHp G (wNew M ci 0 (fun _ => 0)) H1 := wHp_new hp hz1 (by omega) hq (by rw [wKent_o (by omega)]; exact hP)
    have k0 := hK _ _ _ _ _ _ h H1 locs lsA hl hp1 hS1 (by rw [wZ_new]; omega)
    have k1 : W p (gLn G) e R s m args below meth c H1 locs (k + 1) (n + NXn ci) Z (F0 m (pc + 3) lsA (.ref q :: st.map (rv G))) := by
      rw [hq, ← wAd_of (G := G) (i := wZ M) (by omega)]
      exact k0
    exact k1 T hT X
  | newarray t =>
    obtain ⟨rfl, h⟩ := h; obtain ⟨x, r, rfl, h0, h1, h2, h3, h4, h5, h⟩ := s1i_e h
    have ht : t = .int ∨ t = .boolean ∨ t = .char := by cases t <;> simp [aKd] at h0 ⊢
    have hw : (Jvm.Cond.arrayClass (newarray.typeOf t)) ∈ wU := by rcases ht with rfl | rfl | rfl <;> exact wFix_ok _ (by simp [wFix, newarray.typeOf])
    have hk1 : 10 ≤ aKd t ∧ aKd t < 13 := by rcases ht with rfl | rfl | rfl <;> decide
    have hty : newarray.typeOf t = aTy (aKd t) := by rcases ht with rfl | rfl | rfl <;> rfl
    have hcb : componentBytes (aTy (aKd t)) ≤ 4 := by rcases ht with rfl | rfl | rfl <;> decide
    have hdv : defaultValue (aTy (aKd t)) = .int 0 := by rcases ht with rfl | rfl | rfl <;> rfl
    intro H locs lsA hl hp hS hz
    refine va_newa (a0 := (x.toNatClampNeg, .inl (fun _ => 0))) hx hb (hts _ hw) hty hE.1 hp.2.2 (wD_ws G M) hS hA (N' := x.toNatClampNeg) (fun cA => by rw [vp_cell_i, hdv]) h1 rfl (Nat.le_trans (Nat.mul_le_mul_left _ hcb) (by omega)) (by omega) (by omega) hd (fun q cA H1 hK1 hP hD hS1 => ?_)
    intro T hT X
    have hcA : cA = gCA G (aKd t) := by
      have g1 := (hK1.2 6 (cA, aTy (aKd t)) (by simp [wTys])).2
      have g2 := (hE.1.2 (aKd t - 10) _ (wTys_at (G := G) hk1.1 (by omega))).2
      rcases ht with rfl | rfl | rfl <;> exact Option.some.inj (Eq.trans (Eq.symm g1) g2)
    have hq := wQ_at hz hP hD (by have := X.heapSize; rw [hT] at this; exact this)
    have hp1 : wHp G (wNew M (aKd t) x.toNatClampNeg (fun _ => 0)) H1 := wHp_new hp h3 (by omega) hq (by rw [wKent_i hk1.1 hk1.2, ← hcA]; exact hP)
    have k0 := hK _ _ _ _ _ _ h H1 locs lsA hl hp1 hS1 (by rw [wZ_new]; omega)
    have k1 : W p (gLn G) e R s m args below meth c H1 locs (k + 1) (n + x.toNatClampNeg) Z (F0 m (pc + 2) lsA (.ref q :: r.map (rv G))) := by
      rw [hq, ← wAd_of (G := G) (i := wZ M) (by omega)]
      exact k0
    exact k1 T hT X
  | anewarray c0 =>
    obtain ⟨rfl, h⟩ := h; obtain ⟨ci, e1, h⟩ := wO_e h; obtain ⟨x, r, rfl, h0, h1, h2, h3, h4, h5, h⟩ := s1i_e h
    obtain ⟨g1, g2⟩ := wN_ok e1
    have hci : ci = 5 ∨ ci = 4 ∨ ci = 6 := by
      have : ci = 0 ∨ ci = 1 ∨ ci = 2 ∨ ci = 3 ∨ ci = 4 ∨ ci = 5 ∨ ci = 6 ∨ ci = 7 ∨ ci = 8 := by omega
      rcases this with rfl | rfl | rfl | rfl | rfl | rfl | rfl | rfl | rfl <;> simp [eKd] at h0 ⊢
    have hk1 : 13 ≤ eKd ci ∧ eKd ci < 16 := by rcases hci with rfl | rfl | rfl <;> decide
    have hty : aTy (eKd ci) = .object (RXn ci) := by rcases hci with rfl | rfl | rfl <;> rfl
    intro H locs lsA hl hp hS hz
    refine va_newq hx hb hown (hts _ g1) (hE.2.2.2.2.1 (eKd ci) hk1.1 hk1.2 _ hty) hE.1 hp.2.2 (wD_ws G M) hS hA (N' := x.toNatClampNeg) h1 rfl (by omega) (by omega) (by omega) hd (fun q cA H1 hK1 hP hD hS1 => ?_)
    intro T hT X
    have hcA : cA = gCA G (eKd ci) := by
      obtain ⟨-, -, -, -, -, g3⟩ := (hK1.2 6 (cA, .object (RXn ci)) (by simp [wTys])).2
      have g4 := (hE.1.2 (eKd ci - 10) _ (wTys_at (G := G) (by omega) hk1.2)).2
      rw [hty] at g4
      obtain ⟨-, -, -, -, -, g5⟩ := g4
      exact Option.some.inj (Eq.trans (Eq.symm g3) g5)
    have hq := wQ_at hz hP hD (by have := X.heapSize; rw [hT] at this; exact this)
    have hp1 : wHp G (wNew M (eKd ci) x.toNatClampNeg (fun _ => 0)) H1 := wHp_new hp h3 (by omega) hq (by rw [wKent_q hk1.1, ← hcA]; exact hP)
    have k0 := hK _ _ _ _ _ _ h H1 locs lsA hl hp1 hS1 (by rw [wZ_new]; omega)
    have k1 : W p (gLn G) e R s m args below meth c H1 locs (k + 1) (n + x.toNatClampNeg) Z (F0 m (pc + 3) lsA (.ref q :: r.map (rv G))) := by
      rw [hq, ← wAd_of (G := G) (i := wZ M) (by omega)]
      exact k0
    exact k1 T hT X
  | _ => exact hi.elim
end SEMC
