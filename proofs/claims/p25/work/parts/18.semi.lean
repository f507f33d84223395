section SEMI
variable {G : wG} {pf : wPft} {own : Nat} {ini : Bool} {rt : Option FieldType} {v mc ms : Nat} {ros : List Nat} {cc : ByteArray} {Qr : Option Value → wMem → Prop} {K Kc : wKt}
  {p : Program} {e : Env} {R : Room} {s : State} {m : MethodId} {args : Array Value} {below : List Frame} {meth : Method} {c : Code} {Z : State → Prop}
  {pc : Nat} {ls : wLs} {st : List Value} {M : wMem} {k n : Nat}
theorem wRoomW {G : wG} {m : MethodId} {pc : Nat} {lsA : Array Slot} {st0 : List Value} {r : List Value} (h : wCat r ≤ 8) : 2 * (F0 m pc lsA st0).monitorRoom + ((r.map (rv G)).map fun v => v.category).sum ≤ 8 := lv_room (by rw [wCat_map]; exact h)
theorem wPre (hE : wEnv G s) {As : List Value} {H : Heap} {locs : List Loc} (hp : wHp G M H) (hS : va_S (gA G) s.heap H locs) (hz : H.size = gLo G + wZ M) : ∀ U : State, U.heap = H → s.WarmedH U.vm → wPc G As M ((As.map (rv G)).toArray) U :=
  fun U hU hW => ⟨rfl, by rw [hU]; exact hz, by rw [hU]; exact hp, hE.moved hW (fun q h1 h2 => by rw [hU]; exact hS.2.1 q h1 h2)⟩
/-- the heap's size, where nothing but what is counted was made -/
theorem wSize (hlo : gLo G ≤ s.heap.size) {T : State} {H : Heap} {locs : List Loc} (X : Stand p (gLn G) e R s m args below meth c T locs k n) (hT : T.heap = H) (hz : s.heap.size + k = gLo G + wZ M) (hp : wHp G M H) (hS : va_S (gA G) s.heap H locs) : H.size = gLo G + wZ M := by
  have h1 := X.heapSize
  rw [hT] at h1
  by_cases h0 : wZ M = 0
  · have := hS.1
    omega
  · have h2 := (hp.2.2 _ _ (wWs_at (G := G) (M := M) (show wZ M - 1 < wZ M by omega))).lt
    have h3 : gLo G + (wZ M - 1) < H.size := h2
    omega
theorem wCallB (hts : ∀ w ∈ wU, w.before args s = true) (hfr : v ≤ R.frames) (hlr : 43 * v ≤ R.locals) {z ci na lv o i mc' ms' : Nat} (hm : wM z ci na lv) (hlv : lv < v) (hl : Jvm.Cond.methodLink (RXn o) i (mOf z).1 ∈ wU) :
    CallB R s args (RXn o) i (mOf z).1 (mOf z).2.1 (mOf z).2.2.1 (mOf z).2.2.2.1 (wMws z) (wRm (mOf z).2.2.2.2 mc' ms') mc' ms' na := by
  obtain ⟨h1, h2, h3, h4, h5, h6, h7⟩ := hm
  refine callB_of na hts (wU_goodIn z h1) rfl rfl rfl (hts _ h7) (hts _ hl) h6 ⟨?_, ?_⟩
  · rw [h3]; show lv + 1 ≤ R.frames; omega
  · rw [h3]; show 8 + ((mOf z).2.2.1 + 11) + 43 * lv ≤ R.locals; omega
theorem wCallN (hts : ∀ w ∈ wU, w.before args s = true) (hfr : v ≤ R.frames) (hlr : 43 * v ≤ R.locals) {z ci na lv o i mc' ms' : Nat} (hm : wM z ci na lv) (hlv : lv < v) (hl : va_Nw (.methodLinkNest (RXn o) i (mOf z).1 RX7) s) :
    va_CN R s args (RXn o) i (mOf z).1 RX7 (mOf z).2.1 (mOf z).2.2.1 (mOf z).2.2.2.1 (wMws z) (wRm (mOf z).2.2.2.2 mc' ms') mc' ms' na := by
  obtain ⟨h1, h2, h3, h4, h5, h6, h7⟩ := hm
  refine va_cnB na hts (wU_goodIn z h1) rfl rfl rfl hl (hts _ h7) h6 ⟨?_, ?_⟩
  · rw [h3]; show lv + 1 ≤ R.frames; omega
  · rw [h3]; show 8 + ((mOf z).2.2.1 + 11) + 43 * lv ≤ R.locals; omega
/-- a call's continuation, by a summary or by the callee's contract -/
theorem wCall_e (hpf : wPfOk G pf) (hK : ∀ pc ls st M k n, K pc ls st M k n → wAt G p e R s m args below meth c Z pc ls st M k n) (hKc : ∀ pc ls st M k n, Kc pc ls st M k n → wAt G p e R s m args below meth c Z pc ls st M k n) {z : Nat} {As r : List Value} (h : wCall G pf K Kc z As r pc ls M k n) :
    CT G z 0 0 As M (fun o M' => wAt G p e R s m args below meth c Z (pc + 3) ls (o.toList ++ r) M' k n) := by
  unfold wCall at h
  split at h
  · next g o M2 he => exact (hpf z As M g o M2 he h.1).mono (fun o' M' h9 => by rw [h9.1, h9.2]; exact hK _ _ _ _ _ _ h.2)
  · exact h.mono (fun o M' h9 => hKc _ _ _ _ _ _ h9)
theorem wSem_v (hx : p.tables.exec = Jvm.exec) (hb : c.code = cc) (hown : s.vm.findClass (RXn own) = some m.cls) (hts : ∀ w ∈ wU, w.before args s = true) (hE : wEnv G s) (hlo : gLo G ≤ s.heap.size) (hfr : v ≤ R.frames) (hlr : 43 * v ≤ R.locals) (hmc : mc ≤ R.cells) (hms : ms ≤ R.slots)
    (hpf : wPfOk G pf) (hK : ∀ pc ls st M k n, K pc ls st M k n → wAt G p e R s m args below meth c Z pc ls st M k n) (hKc : ∀ pc ls st M k n, Kc pc ls st M k n → wAt G p e R s m args below meth c Z pc ls st M k n) {i len : Nat} (hd : decode cc pc = .ok (.invokevirtual i, len))
    (h : wSem G pf own ini rt v mc ms ros Qr K Kc (.invokevirtual i) len pc ls st M k n) : wAt G p e R s m args below meth c Z pc ls st M k n := by
  obtain ⟨rfl, hkn1, hkn2, h⟩ := h; obtain ⟨⟨kd, z, na, lv, ci⟩, e1, h⟩ := wO_e h
  have hok := wC_ok e1
  unfold wIv at h
  by_cases h5 : kd = 5
  · rw [if_pos h5] at h
    obtain ⟨hv, hz1, h1, h2, h⟩ := h
    obtain ⟨a, r, rfl, rfl, hcat, h⟩ := s1r_e h
    have hlk : Jvm.Cond.methodLink (RXn own) i ⟨"[I", "clone", "()Ljava/lang/Object;"⟩ ∈ wU := by
      rcases hok with q | q | q | q | q | q | q | q | q | q
      all_goals first | exact q.2 | (have := q.1; simp only at this; omega)
    intro H locs lsA hl hp hS hz
    obtain ⟨g1, cell, c1, c2, c3, c4, c5⟩ := hE.2.1 1000001 (by omega) (by omega)
    have hlt : gRa G 1000001 < s.heap.size := (Array.getElem?_eq_some_iff.mp c1).1
    have hcl := hE.2.2.2.1 cell c1
    have hnm : s.vm.findClass "[I" = some (gCA G 10) := (hE.1.2 0 _ rfl).2
    obtain ⟨c0, t0', f1, f2, f3⟩ := Cond.castable_spec (va_Nw.use (A := args) rfl hE.2.2.2.2.2.2.2)
    cases hnm.symm.trans f1
    obtain ⟨-, kS, hkS, compS, hkindS⟩ := (hE.1.2 0 _ (rfl : (wTys G)[0]? = some (gCA G 10, .int))).1 0 (fun _ => .null)
    intro T hT X
    have hcellT : T.heap[gRa G 1000001]? = some cell := by rw [hT, hS.2.1 _ hlt (fun q => absurd g1 (Nat.not_lt.mpr q))]; exact c1
    obtain ⟨-, kA, hkA, comp, hkind⟩ := State.isArrayOf_alike X.warmed.alike ((hE.1.2 0 _ (rfl : (wTys G)[0]? = some (gCA G 10, .int))).1 0 (fun _ => .null))
    have hcl6 : cell.slots.size = 6 := c4
    have hkA' : T.vm.classes[cell.cls]? = some kA := by rw [hcl]; exact hkA
    have hkS' : s.vm.classes[cell.cls]? = some kS := by rw [hcl]; exact hkS
    obtain ⟨vm', X', stp⟩ := X.cloneArray hx hown (hts _ hlk) (hts _ (wFix_ok _ (by simp [wFix]))) (hts _ (wFix_ok _ (by simp [wFix]))) (hts _ (wFix_ok _ (by simp [wFix]))) (hts _ (wFix_ok _ (by simp [wFix]))) (a := gRa G 1000001) (cell := cell) hcellT c2.1 c3 (by rw [hcl]; exact hnm) f2 (by rw [hcl]; exact f3)
      (fun j w hw => by
        have hj : j < 6 := by rw [← hcl6]; exact (Array.getElem?_eq_some_iff.mp hw).1
        have hw2 := c5 j hj
        rw [hw] at hw2
        cases hw2
        simp [State.fitsSlot, State.slotType?, hkA', hkind]
        rfl)
      (g := F0 m pc lsA (.ref (gRa G 1000001) :: r.map (rv G))) rfl hl.1 rfl (by rw [hb]; exact hd) (by omega) (by show 2 * 0 + _ + 14 ≤ _; rw [wCat_map]; omega) (by omega) (by rw [hcl6]; omega) (hloader := Vm.clonesLoader_of_array hkS' hkindS)
    rw [cell_new (f := gF G 1000001) hcl hcl6 c5, hcl6] at X'
    rw [cell_new (f := gF G 1000001) hcl hcl6 c5] at stp
    have hsz := wSize hlo X hT hz hp hS
    generalize hH1 : H.push (vp_cell (gCA G 10) (6, .inl (gF G 1000001))) = H1
    have z1 : H1.size = H.size + 1 := by rw [← hH1, Array.size_push]
    have e1' : H1[H.size]? = some (vp_cell (gCA G 10) (6, .inl (gF G 1000001))) := by rw [← hH1, Array.getElem?_push_size]
    have o1 : ∀ q : Nat, q < H.size → H1[q]? = H[q]? := fun q hq => by rw [← hH1, Array.getElem?_push, if_neg (Nat.ne_of_lt hq)]
    have hP1 : va_P (gD G) cl9 (wWs G M ++ [(H.size, wKent G 10 6 (gF G 1000001) (fun _ => none))]) H1 := by
      refine (hp.2.2.kept (fun k y hy => o1 y.1 ((hp.2.2 k y hy).lt))).app (fun j y hy => ?_)
      have hj : j < 1 := (List.getElem?_eq_some_iff.mp hy).1
      rw [show j = 0 by omega] at hy
      cases hy
      rw [wKent_i (by omega) (by omega)]
      exact e1'
    have hp1 : wHp G (wNew M 10 6 (gF G 1000001)) H1 := wHp_new hp hz1 (by omega) hsz hP1
    have hS1 : va_S (gA G) s.heap H1 locs := ⟨Nat.le_trans hS.1 (by omega), fun x h1 h2 => (o1 x (Nat.lt_of_lt_of_le h1 hS.1)).trans (hS.2.1 x h1 h2), hS.2.2⟩
    have k0 := hK _ _ _ _ _ _ h H1 locs lsA hl hp1 hS1 (by rw [wZ_new]; omega)
    have k1 : W p (gLn G) e R s m args below meth c H1 locs (k + 1) (n + 6) Z (F0 m (pc + 3) lsA (.ref T.heap.size :: r.map (rv G))) := by
      rw [hT, hsz, ← wAd_of (G := G) (i := wZ M) (by omega)]
      exact k0
    obtain ⟨t, b1, b2⟩ := k1 _ (show ((T.setVm vm').pushCell (vp_cell (gCA G 10) (6, .inl (gF G 1000001)))).heap = H1 by rw [← hH1, ← hT]; rfl) X'
    exact ⟨t, stp t b1, b2⟩
  · rw [if_neg h5] at h
    obtain ⟨rfl, hlv, h⟩ := h
    obtain ⟨As, st', rfl, hlen, h⟩ := wPop_e h
    obtain ⟨b, r, rfl, hob, hcat, h⟩ := s1r_e h
    rw [List.append_nil] at h
    have hok2 : wM z ci na lv ∧ Jvm.Cond.methodLink (RXn own) i (mOf z).1 ∈ wU ∧ Jvm.Cond.instanceMethod (mOf z).1 ∈ wU ∧ Jvm.Cond.selects (mOf z).1.cls (mOf z).1 (mOf z).1 ∈ wU ∧ ci < 8 := by
      rcases hok with q | q | q | q | q | q | q | q | q | q
      all_goals first | exact q.2 | (have := q.1; simp only at this; omega)
    obtain ⟨hm, hl1, hl2, hl3, g5⟩ := hok2
    have hct := wCall_e hpf hK hKc h
    obtain ⟨g1, g2, g3, g4, -, g6, g7⟩ := id hm
    intro H locs lsA hl hp hS hz T hT X
    have hsz := wSize hlo X hT hz hp hS
    have hrecv := va_recv (q0 := b) (ci := ci) hE.1 hp.2.2 (cl9_at ci g5) (wAt_o hp hob g5)
    refine wBack (k := k) (n := n) (mc := 0) (ms := 0) (va_runV (C := (mOf z).1.cls) (As := As.map (rv G)) (rest := r.map (rv G)) ⟨hx, hb, rfl, hown, hts⟩ hct ⟨wCallB hts hfr hlr hm (by simpa using hlv) hl1, hts _ hl2, hts _ hl3⟩ ⟨wPc_blind _ _ _, by rw [g4]; exact hrecv, wPre hE hp hS hsz⟩ rfl (by rw [List.length_map]; exact hlen) hl.1 (by simp [rv]) (wRoomW hcat) hd ⟨by omega, by omega⟩) hS ?_ T hT X
    intro o M' H1 locs1 hq hp1 hz1 hS1
    rw [rv_opt]
    exact hq H1 locs1 lsA hl hp1 hS1 (by rw [hz1]; omega)
theorem wSem_s (hx : p.tables.exec = Jvm.exec) (hb : c.code = cc) (hown : s.vm.findClass (RXn own) = some m.cls) (hts : ∀ w ∈ wU, w.before args s = true) (hE : wEnv G s) (hlo : gLo G ≤ s.heap.size) (hfr : v ≤ R.frames) (hlr : 43 * v ≤ R.locals) (hmc : mc ≤ R.cells) (hms : ms ≤ R.slots)
    (hpf : wPfOk G pf) (hK : ∀ pc ls st M k n, K pc ls st M k n → wAt G p e R s m args below meth c Z pc ls st M k n) (hKc : ∀ pc ls st M k n, Kc pc ls st M k n → wAt G p e R s m args below meth c Z pc ls st M k n) {i len : Nat} (hd : decode cc pc = .ok (.invokestatic i, len))
    (h : wSem G pf own ini rt v mc ms ros Qr K Kc (.invokestatic i) len pc ls st M k n) : wAt G p e R s m args below meth c Z pc ls st M k n := by
  obtain ⟨rfl, hkn1, hkn2, h⟩ := h; obtain ⟨⟨kd, z, na, lv, ci⟩, e1, h⟩ := wO_e h
  have hok := wC_ok e1
  unfold wIs at h
  by_cases h7 : kd = 7
  · rw [if_pos h7] at h
    obtain ⟨hv, h⟩ := h
    obtain ⟨x, y, r, rfl, hcat, h⟩ := s2i_e h
    have hlk : Jvm.Cond.methodLink (RXn own) i Lib.Math.max.name ∈ wU := by
      rcases hok with q | q | q | q | q | q | q | q | q | q
      all_goals first | exact q.2 | (have := q.1; simp only at this; omega)
    exact fun H locs lsA hl hp hS hz => va_mmax hx hb hl.1.symm hown (hts _ hlk) (hts _ (wFix_ok _ (by simp [wFix]))) (hts _ (wFix_ok _ (by simp [wFix]))) (hts _ (wFix_ok _ (by simp [wFix]))) (by omega) (by rw [wCat_map]; omega) (by omega) (by omega) hd (hK _ _ _ _ _ _ h H locs lsA hl hp hS hz)
  rw [if_neg h7] at h
  by_cases h8 : kd = 8
  · rw [if_pos h8] at h
    obtain ⟨hv, h⟩ := h
    obtain ⟨x, y, r, rfl, hcat, h⟩ := s2i_e h
    have hlk : Jvm.Cond.methodLink (RXn own) i Lib.Math.min.name ∈ wU := by
      rcases hok with q | q | q | q | q | q | q | q | q | q
      all_goals first | exact q.2 | (have := q.1; simp only at this; omega)
    exact fun H locs lsA hl hp hS hz => va_mmin hx hb hl.1.symm hown (hts _ hlk) (hts _ (wFix_ok _ (by simp [wFix]))) (hts _ (wFix_ok _ (by simp [wFix]))) (hts _ (wFix_ok _ (by simp [wFix]))) (by omega) (by rw [wCat_map]; omega) (by omega) (by omega) hd (hK _ _ _ _ _ _ h H locs lsA hl hp hS hz)
  rw [if_neg h8] at h
  by_cases h9 : kd = 9
  · rw [if_pos h9] at h
    obtain ⟨hv, h⟩ := h
    obtain ⟨len, dp, b, sp, a, r, rfl, hcat, h⟩ := sCop_e h
    obtain ⟨n0, hn0, h⟩ := wAr_e h
    obtain ⟨n1, hn1, f1, f2, f3, f4, f5, h⟩ := wAr_e h
    have hlk : Jvm.Cond.methodLink (RXn own) i arraycopyName ∈ wU := by
      rcases hok with q | q | q | q | q | q | q | q | q | q
      all_goals first | exact q.2 | (have := q.1; simp only at this; omega)
    intro H locs lsA hl hp hS hz
    refine va_copyi (q0 := a) (q1 := b) (t0 := 0) (t1 := 0) hx hb hl.1.symm hown (hts _ hlk) (hts _ (wFix_ok _ (by simp [wFix]))) (hts _ (wFix_ok _ (by simp [wFix]))) (hts _ (wFix_ok _ (by simp [wFix]))) hE.1 hp.2.2 (wD_ws G M) hS (wAt_i hp hn0 (by omega) (by omega)) (wAt_i hp hn1 (by omega) (by omega)) rfl rfl rfl f1 f2 f3 f4 f5 (fun _ _ => rfl) (by omega) (by rw [wCat_map]; show wCat r + (7 + 11) ≤ _; omega) hd
      (fun H1 locs1 hP _ hS1 => hK _ _ _ _ _ _ h H1 locs1 lsA hl (wHp_set hp rfl (fun _ => rfl) ⟨_, hn1⟩ (fun i hi j => by rw [wI_cop, if_neg hi]) (fun i hi j => rfl) ?_ hP) hS1 hz)
    rw [wEnt_of ((wS_cop M _ _ _ _ _ b).trans hn1), wKent_i (by omega) (by omega)]
    congr 4
    funext j
    rw [wI_cop, if_pos rfl]
  rw [if_neg h9] at h
  obtain ⟨hkd, hlv, h⟩ := h
  obtain ⟨As, r, rfl, hlen, hcat, h⟩ := wPop_e h
  rw [List.append_nil] at h
  have hct := wCall_e hpf hK hKc h
  rcases hkd with hkd | hkd
  · have hkd1 : kd = 1 := hkd
    have hok2 : wM z ci na lv ∧ Jvm.Cond.methodLink (RXn own) i (mOf z).1 ∈ wU ∧ Jvm.Cond.static (mOf z).1 ∈ wU := by
      rcases hok with q | q | q | q | q | q | q | q | q | q
      all_goals first | exact q.2 | (have := q.1; simp only at this; omega)
    obtain ⟨hm, hl1, hl2⟩ := hok2
    intro H locs lsA hl hp hS hz T hT X
    have hsz := wSize hlo X hT hz hp hS
    refine wBack (k := k) (n := n) (mc := 0) (ms := 0) (va_runS (As := As.map (rv G)) (rest := r.map (rv G)) ⟨hx, hb, rfl, hown, hts⟩ hct ⟨wCallB hts hfr hlr hm (by simpa using hlv) hl1, hts _ hl2⟩ ⟨wPc_blind _ _ _, wPre hE hp hS hsz⟩ rfl (by rw [List.length_map]; exact hlen) hl.1 (by simp) (wRoomW hcat) hd ⟨by omega, by omega⟩) hS ?_ T hT X
    intro o M' H1 locs1 hq hp1 hz1 hS1
    rw [rv_opt]
    exact hq H1 locs1 lsA hl hp1 hS1 (by rw [hz1]; omega)
  · have hkd1 : kd = 4 := hkd
    have hok2 : wM z ci na lv ∧ Jvm.Cond.static (mOf z).1 ∈ wU := by
      rcases hok with q | q | q | q | q | q | q | q | q | q
      all_goals first | exact q.2 | (have := q.1; simp only at this; omega)
    obtain ⟨hm, hl2⟩ := hok2
    have hl1 := hE.2.2.2.2.2.1 _ _ _ _ _ _ _ e1 (Or.inr hkd1)
    intro H locs lsA hl hp hS hz T hT X
    have hsz := wSize hlo X hT hz hp hS
    refine wBack (k := k) (n := n) (mc := 0) (ms := 0) (va_runSN (As := As.map (rv G)) (rest := r.map (rv G)) ⟨hx, hb, rfl, hown, hts⟩ hct ⟨wCallN hts hfr hlr hm (by simpa using hlv) hl1, hts _ hl2, trivial⟩ ⟨wPc_blind _ _ _, wPre hE hp hS hsz⟩ rfl (by rw [List.length_map]; exact hlen) hl.1 (by simp) (wRoomW hcat) hd ⟨by omega, by omega⟩) hS ?_ T hT X
    intro o M' H1 locs1 hq hp1 hz1 hS1
    rw [rv_opt]
    exact hq H1 locs1 lsA hl hp1 hS1 (by rw [hz1]; omega)
theorem wSem_i (hx : p.tables.exec = Jvm.exec) (hb : c.code = cc) (hown : s.vm.findClass (RXn own) = some m.cls) (hts : ∀ w ∈ wU, w.before args s = true) (hE : wEnv G s) (hlo : gLo G ≤ s.heap.size) (hfr : v ≤ R.frames) (hlr : 43 * v ≤ R.locals) (hmc : mc ≤ R.cells) (hms : ms ≤ R.slots)
    (hK : ∀ pc ls st M k n, K pc ls st M k n → wAt G p e R s m args below meth c Z pc ls st M k n) (hKc : ∀ pc ls st M k n, Kc pc ls st M k n → wAt G p e R s m args below meth c Z pc ls st M k n) {i len : Nat} (hd : decode cc pc = .ok (.invokespecial i, len))
    (h : wSem G pf own ini rt v mc ms ros Qr K Kc (.invokespecial i) len pc ls st M k n) : wAt G p e R s m args below meth c Z pc ls st M k n := by
  obtain ⟨rfl, h⟩ := h; obtain ⟨⟨kd, z, na, lv, ci⟩, e1, h⟩ := wO_e h
  have hok := wC_ok e1
  unfold wIp at h
  by_cases h6 : kd = 6
  · rw [if_pos h6] at h
    obtain ⟨hv, h⟩ := h
    obtain ⟨a, r, rfl, hcat, h⟩ := s1r_e h
    have hlk : Jvm.Cond.methodLink (RXn own) i objectInit ∈ wU := by
      rcases hok with q | q | q | q | q | q | q | q | q | q
      all_goals first | exact q.2 | (have := q.1; simp only at this; omega)
    exact fun H locs lsA hl hp hS hz => W.objInit hx hb hown (hts _ hlk) (hts _ (wFix_ok _ (by simp [wFix]))) (hts _ (wFix_ok _ (by simp [wFix]))) rfl hl.1 (a := gAd G a) (rest := r.map (rv G)) rfl hd (by omega) (by show 2 * 0 + _ + 12 ≤ _; rw [wCat_map]; omega) (hK _ _ _ _ _ _ h H locs lsA hl hp hS hz)
  rw [if_neg h6] at h
  obtain ⟨hkd, hlv, h⟩ := h
  obtain ⟨As, st', rfl, hlen, h⟩ := wPop_e h
  obtain ⟨b, r, rfl, hcat, mc', ms', hm1, hm2, h⟩ := s1r_e h
  rw [List.append_nil] at h
  have hct : CT G z mc' ms' (.ref b :: As) M (fun o M' => wAt G p e R s m args below meth c Z (pc + 3) ls (o.toList ++ r) M' (k + mc') (n + ms')) := h.mono (fun o M' h9 => hKc _ _ _ _ _ _ h9)
  rcases hkd with hkd | hkd
  · have hkd1 : kd = 2 := hkd
    have hok2 : wM z ci na lv ∧ Jvm.Cond.methodLink (RXn own) i (mOf z).1 ∈ wU ∧ Jvm.Cond.instanceMethod (mOf z).1 ∈ wU ∧ (mOf z).1.name = "<init>" ∧ (mOf z).2.2.2.1 = none := by
      rcases hok with q | q | q | q | q | q | q | q | q | q
      all_goals first | exact q.2 | (have := q.1; simp only at this; omega)
    obtain ⟨hm, hl1, hl2, hl3, hl4⟩ := hok2
    intro H locs lsA hl hp hS hz T hT X
    have hsz := wSize hlo X hT hz hp hS
    have hcb := wCallB (mc' := mc') (ms' := ms') hts hfr hlr hm (by simpa using hlv) hl1
    rw [hl4] at hcb
    refine wBack (k := k) (n := n) (mc := mc') (ms := ms') (va_runI (As := As.map (rv G)) (rest := r.map (rv G)) ⟨hx, hb, rfl, hown, hts⟩ hct ⟨hcb, hl3, hts _ hl2⟩ ⟨wPc_blind _ _ _, wPre hE hp hS hsz⟩ rfl (by rw [List.length_map]; exact hlen) hl.1 (by simp [rv]) (wRoomW hcat) hd ⟨by omega, by omega⟩) hS ?_ T hT X
    intro o M' H1 locs1 hq hp1 hz1 hS1
    rw [rv_opt]
    exact hq H1 locs1 lsA hl hp1 hS1 (by rw [hz1]; omega)
  · have hkd1 : kd = 3 := hkd
    have hok2 : wM z ci na lv ∧ Jvm.Cond.instanceMethod (mOf z).1 ∈ wU ∧ (mOf z).1.name = "<init>" ∧ (mOf z).2.2.2.1 = none := by
      rcases hok with q | q | q | q | q | q | q | q | q | q
      all_goals first | exact q.2 | (have := q.1; simp only at this; omega)
    obtain ⟨hm, hl2, hl3, hl4⟩ := hok2
    have hl1 := hE.2.2.2.2.2.1 _ _ _ _ _ _ _ e1 (Or.inl hkd1)
    intro H locs lsA hl hp hS hz T hT X
    have hsz := wSize hlo X hT hz hp hS
    have hcb := wCallN (mc' := mc') (ms' := ms') hts hfr hlr hm (by simpa using hlv) hl1
    rw [hl4] at hcb
    refine wBack (k := k) (n := n) (mc := mc') (ms := ms') (va_runIN (As := As.map (rv G)) (rest := r.map (rv G)) ⟨hx, hb, rfl, hown, hts⟩ hct ⟨hcb, hl3, hts _ hl2⟩ ⟨wPc_blind _ _ _, wPre hE hp hS hsz⟩ rfl (by rw [List.length_map]; exact hlen) hl.1 (by simp [rv]) (wRoomW hcat) hd ⟨by omega, by omega⟩) hS ?_ T hT X
    intro o M' H1 locs1 hq hp1 hz1 hS1
    rw [rv_opt]
    exact hq H1 locs1 lsA hl hp1 hS1 (by rw [hz1]; omega)
end SEMI
