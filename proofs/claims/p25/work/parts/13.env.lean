/-! ===== what stays over calls; entry; calls ===== -/
theorem wEnv.moved {G : wG} {u U : State} (hW : u.WarmedH U.vm) (hh : ∀ q : Nat, q < u.heap.size → ¬ gA G q → U.heap[q]? = u.heap[q]?) (h : wEnv G u) : wEnv G U := by
  obtain ⟨h1, h2, h3, h4, h5, h6, h7, h8⟩ := h
  have hvm := hW.alike
  refine ⟨h1.moved hvm, fun a ha hb => ?_, fun a ha hb => ?_, fun cell hc => ?_, fun kd ha hb C hC => (h5 kd ha hb C hC).moved hvm, fun o i kd z na lv ci hq hk => va_Nw.warmM hW (h6 o i kd z na lv ci hq hk), fun o i a hq => va_Nw.warmF hW (h7 o i a hq), va_Nw.warmC hW h8⟩
  · obtain ⟨g1, g2⟩ := h2 a ha hb
    refine ⟨g1, ?_⟩
    have hlt : gRa G a < u.heap.size := by
      obtain ⟨scr, e1, -⟩ := g2
      exact (Array.getElem?_eq_some_iff.mp e1).1
    exact (g2.moved hvm).kept (hh _ hlt (fun q => absurd g1 (Nat.not_lt.mpr q)))
  · exact (va_Z.moved hvm (h3 a ha hb)).kept hh
  · obtain ⟨g1, g2⟩ := h2 1000001 (by omega) (by omega)
    have hlt : gRa G 1000001 < u.heap.size := by
      obtain ⟨scr, e1, -⟩ := g2
      exact (Array.getElem?_eq_some_iff.mp e1).1
    rw [hh _ hlt (fun q => absurd g1 (Nat.not_lt.mpr q))] at hc
    exact h4 cell hc
theorem wEnv.same {G : wG} {u U : State} (hv : u.vm = U.vm) (hh : u.heap = U.heap) (h : wEnv G u) : wEnv G U := by
  obtain ⟨h1, h2, h3, h4, h5, h6, h7, h8⟩ := h
  have hvm : u.vm.Alike U.vm := by rw [hv]; exact Vm.Alike.refl U.vm
  refine ⟨h1.moved hvm, fun a ha hb => ?_, fun a ha hb => ?_, fun cell hc => ?_, fun kd ha hb C hC => (h5 kd ha hb C hC).moved hvm, fun o i kd z na lv ci hq hk => va_Nw.same rfl hv (h6 o i kd z na lv ci hq hk), fun o i a hq => va_Nw.same rfl hv (h7 o i a hq), va_Nw.same rfl hv h8⟩
  · obtain ⟨g1, g2⟩ := h2 a ha hb
    exact ⟨g1, by rw [← hh]; exact g2.moved hvm⟩
  · rw [← hh]
    exact va_Z.moved hvm (h3 a ha hb)
  · rw [← hh] at hc
    exact h4 cell hc
theorem wPc_blind (G : wG) (As : List Value) (M : wMem) : FrameBlind (wPc G As M) := fun a U g mk h => ⟨h.1, h.2.1, h.2.2.1, wEnv.same (u := U) rfl rfl h.2.2.2⟩
theorem rv_cat (G : wG) (v : Value) : (rv G v).category = v.category := by cases v <;> rfl
theorem wCat_map (G : wG) (st : List Value) : ((st.map (rv G)).map fun v => v.category).sum = wCat st := by
  induction st with
  | nil => rfl
  | cons v r ih => simp [wCat, rv_cat, ← ih]
theorem wU_goodIn (z : Nat) (h : Jvm.Cond.code (mOf z).1 (mOf z).2.1 (mOf z).2.2.1 (mOf z).2.2.2.1 ∈ wU) : GoodIn wU (wMws z) := by
  intro w hw
  rcases List.mem_cons.mp hw with rfl | hw
  · exact ⟨h, good_of_word (wU_good _ h)⟩
  · exact ⟨hw, good_of_word (wU_good _ hw)⟩
/-! the locals -/
theorem lg_set (ls : wLs) : ∀ (i j : Nat) (x : Option Value), lg (ls.set i x) j = if j = i ∧ i < ls.length then x else lg ls j := by
  induction ls with
  | nil => intro i j x; simp [lg]
  | cons a r ih =>
    intro i j x
    cases i with
    | zero =>
      cases j with
      | zero => simp [lg]
      | succ j => simp [lg]
    | succ i =>
      cases j with
      | zero => simp [lg]
      | succ j => simp [lg, ih]
theorem lg_lt {ls : wLs} : ∀ {i : Nat} {w : Value}, lg ls i = some w → i < ls.length := by
  induction ls with
  | nil => intro i w h; cases h
  | cons a r ih =>
    intro i w h
    cases i with
    | zero => simp
    | succ i => simpa using ih (show lg r i = some w from h)
def wEn (G : wG) (ls : wLs) : List (Nat × Value) := (List.range ls.length).filterMap fun j => (lg ls j).map fun w => (j, rv G w)
theorem wEn_mem {G : wG} {ls : wLs} {q : Nat × Value} : q ∈ wEn G ls ↔ ∃ w, lg ls q.1 = some w ∧ q.2 = rv G w := by
  constructor
  · intro h
    obtain ⟨j, -, hj⟩ := List.mem_filterMap.mp h
    cases e : lg ls j with
    | none => rw [e] at hj; cases hj
    | some w =>
      rw [e] at hj
      cases hj
      exact ⟨w, e, rfl⟩
  · rintro ⟨w, h1, h2⟩
    refine List.mem_filterMap.mpr ⟨q.1, List.mem_range.mpr (lg_lt h1), ?_⟩
    rw [h1]
    obtain ⟨a, b⟩ := q
    simp only at h2
    simp [h2]
theorem wLv.has {G : wG} {nL : Nat} {lsA : Array Slot} {ls : wLs} (h : wLv G nL lsA ls) : lv_has lsA nL (wEn G ls) := by
  refine ⟨h.1, h.2.2.1, fun q hq => ?_⟩
  obtain ⟨w, h1, h2⟩ := wEn_mem.mp hq
  rw [h2]
  exact h.2.2.2 _ _ h1
theorem wLv.set {G : wG} {nL : Nat} {lsA lsB : Array Slot} {ls : wLs} {i : Nat} {w : Value} (h : wLv G nL lsA ls) (hi : i < ls.length) (hn : wNl (lg ls (i - 1)) = true)
    (hb : lv_has lsB nL ((i, rv G w) :: (wEn G ls).filter (fun q => !(q.1 == i) && !(q.1 + 1 == i && q.2.category == 2)))) : wLv G nL lsB (ls.set i (some w)) := by
  refine ⟨hb.1, by simpa using h.2.1, hb.2.1, fun j u hj => ?_⟩
  rw [lg_set] at hj
  by_cases hji : j = i
  · rw [if_pos ⟨hji, hi⟩] at hj
    cases hj
    rw [hji]
    exact hb.2.2 (i, rv G w) List.mem_cons_self
  · rw [if_neg (fun q => hji q.1)] at hj
    refine hb.2.2 (j, rv G u) (List.mem_cons_of_mem _ (List.mem_filter.mpr ⟨wEn_mem.mpr ⟨u, hj, rfl⟩, ?_⟩))
    simp only [rv_cat]
    by_cases h1 : j + 1 = i
    · have h2 : i - 1 = j := by omega
      rw [h2, hj] at hn
      have h3 : u.category ≠ 2 := by
        intro q
        cases u <;> simp [Value.category, wNl] at q hn
      simp [hji, h3]
    · simp [hji, h1]
theorem wLv.size {G : wG} {nL : Nat} {lsA : Array Slot} {ls : wLs} (h : wLv G nL lsA ls) : lsA.size = nL := h.1
/-- the locals at a method's entry -/
def wArgs : List Value → wLs
  | [] => []
  | v :: r => if v.category = 2 then some v :: none :: wArgs r else some v :: wArgs r
theorem wArgs_has {G : wG} : ∀ (vs : List Value) (o i : Nat) (w : Value), lg (wArgs vs) i = some w → (o + i, rv G w) ∈ lv_args o (vs.map (rv G))
  | [], o, i, w, h => by cases h
  | v :: r, o, i, w, h => by
    have hc := rv_cat G v
    simp only [wArgs] at h
    simp only [List.map_cons, lv_args]
    by_cases h2 : v.category = 2
    · rw [if_pos h2] at h
      rw [if_pos (hc.trans h2)]
      cases i with
      | zero =>
        cases h
        exact List.mem_cons_self
      | succ i =>
        cases i with
        | zero => cases h
        | succ i =>
          have h3 : lg (wArgs r) i = some w := h
          have := wArgs_has (G := G) r (o + 2) i w h3
          rw [show o + (i + 1 + 1) = o + 2 + i by omega]
          exact List.mem_cons_of_mem _ this
    · rw [if_neg h2] at h
      rw [if_neg (fun q => h2 (hc.symm.trans q))]
      cases i with
      | zero =>
        cases h
        exact List.mem_cons_self
      | succ i =>
        have h3 : lg (wArgs r) i = some w := h
        have := wArgs_has (G := G) r (o + 1) i w h3
        rw [show o + (i + 1) = o + 1 + i by omega]
        exact List.mem_cons_of_mem _ this
theorem wArgs_len (G : wG) : ∀ (vs : List Value), (wArgs vs).length = (lg_sl (vs.map (rv G))).length
  | [] => rfl
  | v :: r => by
    have hc := rv_cat G v
    have ih := wArgs_len G r
    simp only [wArgs, lg_sl, List.map_cons, List.flatMap_cons, List.length_append] at ih ⊢
    by_cases h2 : v.category = 2
    · rw [if_pos h2, if_pos (hc.trans h2)]
      simp [ih]
      omega
    · rw [if_neg h2, if_neg (fun q => h2 (hc.symm.trans q))]
      simp [ih]
      omega
theorem lg_append (a b : wLs) : ∀ i, lg (a ++ b) i = if i < a.length then lg a i else lg b (i - a.length) := by
  induction a with
  | nil => intro i; simp
  | cons x r ih =>
    intro i
    cases i with
    | zero => simp [lg]
    | succ i => simp [lg, ih]
theorem lg_rep (n : Nat) : ∀ i, lg (List.replicate n none) i = none := by
  induction n with
  | zero => intro i; rfl
  | succ n ih =>
    intro i
    cases i with
    | zero => rfl
    | succ i => exact ih i
/-- a method's contract by its run from the entry -/
theorem CT.intro {G : wG} {z mc ms : Nat} {As : List Value} {M : wMem} {Q : Option Value → wMem → Prop} {ci na lv : Nat} {y : MethodName} {cc : ByteArray} {nL : Nat} {rt : Option FieldType}
    (hm : wM z ci na lv) (he : mOf z = (y, cc, nL, rt, lv)) (hp : plainName y.cls = true) (ini : Bool) (hini : ini = true → y.name = "<init>") (hl : (wArgs As).length ≤ nL)
    (hw : wp G ci ini rt lv mc ms cc Q 0 (wArgs As ++ List.replicate (nL - (wArgs As).length) none) [] M 0 0) : CT G z mc ms As M Q := by
  obtain ⟨h1, h2, h3, h4, h5, h6, h7⟩ := hm
  unfold CT
  have hws : wMws z = .code y cc nL rt :: wU := by unfold wMws; rw [he]
  rw [he] at h4 h3 ⊢
  rw [hws]
  refine Met.ofW (cc := cc) (maxL := nL) (ret := rt) hp rfl ?_
  intro p e s m args below meth c s₁ B hml hv
  obtain ⟨rfl, hsz, hP, hE⟩ := hv
  have hts := atoms_spec (ws := .code y cc nL rt :: wU) B.pre
  have hown : s.vm.findClass (RXn ci) = some m.cls := by
    rw [← h4]
    exact findClass_of_methodNamed B.named
  have hlocks := B.notSynchronized
  have hl0 : (lg_sl (As.map (rv G))).length ≤ nL := by rw [← wArgs_len G]; exact hl
  have hent := lv_entry (As.map (rv G)) (n := nL) hl0
  rw [lg_entry_eq]
  have hlv : wLv G c.maxLocals ((lg_sl (As.map (rv G)) ++ List.replicate (nL - (lg_sl (As.map (rv G))).length) Slot.unset).toArray) (wArgs As ++ List.replicate (nL - (wArgs As).length) none) := by
    rw [hml]
    refine ⟨hent.1, by simp; omega, hent.2.1, fun i w h => ?_⟩
    rw [lg_append] at h
    by_cases hi : i < (wArgs As).length
    · rw [if_pos hi] at h
      have := wArgs_has (G := G) As 0 i w h
      rw [Nat.zero_add] at this
      exact hent.2.2 _ this
    · rw [if_neg hi, lg_rep] at h
      cases h
  refine hw p e _ s m _ below meth c _ ?_ _ [] _ hlv hP va_S.rf hsz
  refine ⟨B.exec, B.bytes, hown, fun w hw => hts w (List.mem_cons_of_mem _ hw), hE, fun hi => ?_, ?_, by rw [hsz]; omega, Nat.le_refl _, Nat.le_refl _, Nat.le_refl _, Nat.le_refl _⟩
  · exact (name_of_methodNamed B.named B.method).1.trans (hini hi)
  · intro o M' H locs pc lsA hq hP' hS' hz' hr
    have hr0 := B.returns
    have hq' : ∀ t : State, t.heap = H → wQc G Q (wZ M + mc) ((As.map (rv G)).toArray) s (.returned (o.map (rv G))) t := fun t ht => ⟨⟨o, M', rfl, hq, by rw [ht]; exact hP', by omega⟩, hS'.F ht⟩
    rcases hr with ⟨x, rfl, hd, hb⟩ | ⟨rfl, rfl, hd⟩
    · rcases hb with rfl | ⟨rfl, hx⟩
      · exact W.zret B.exec B.bytes hr0 rfl (fun t ht _ => hq' t ht) hS'.2.2 hd
      · exact W.zret B.exec B.bytes hr0 (by rcases hx with rfl | rfl <;> rfl) (fun t ht _ => hq' t ht) hS'.2.2 hd
    · exact W.vret B.exec B.bytes hr0 (fun t ht _ => hq' t ht) hS'.2.2 hd
/-- behind a call -/
theorem wBack {G : wG} {p : Program} {e : Env} {R : Room} {s : State} {m : MethodId} {args : Array Value} {below : List Frame} {meth : Method} {c : Code} {Z : State → Prop} {H : Heap} {locs : List Loc} {k n mc ms z0 pc : Nat} {lsA : Array Slot} {st0 rest : List Value} {Q : Option Value → wMem → Prop} {a : Array Value}
    (hr : va_Run p (gLn G) e R s m args below meth c H locs k n mc ms (F0 m pc lsA st0) rest (wQc G Q z0 a) (gA G)) (hS : va_S (gA G) s.heap H locs)
    (kk : ∀ (o : Option Value) (M' : wMem) (H1 : Heap) (locs1 : List Loc), Q o M' → wHp G M' H1 → wZ M' = z0 → va_S (gA G) s.heap H1 locs1 → W p (gLn G) e R s m args below meth c H1 locs1 (k + mc) (n + ms) Z (F0 m (pc + 3) lsA ((o.map (rv G)).toList ++ rest))) :
    W p (gLn G) e R s m args below meth c H locs k n Z (F0 m pc lsA st0) := by
  intro T hT X
  obtain ⟨v, st₀, t, T', L, h0, X', hL, e1, e2, ⟨⟨r, M', hv, hq, hp, hz⟩, hz2, hk⟩, st⟩ := hr T hT X
  cases hv
  rw [h0] at hz2 hk
  obtain ⟨t2, a1, b1⟩ := kk r M' T'.heap (locs ++ L) hq (by rw [e1]; exact hp) hz
    ⟨Nat.le_trans hS.1 (by rw [e1]; exact hz2), fun q h1 h2 => by rw [e1, hk q (Nat.lt_of_lt_of_le h1 hS.1) h2]; exact hS.2.1 q h1 h2, fun q hq => by
      rcases List.mem_append.mp hq with h | h
      · exact hS.2.2 q h
      · exact hL q h⟩ T' rfl X'
  exact ⟨t2, st t2 a1, b1⟩
theorem rv_opt (G : wG) (o : Option Value) (r : List Value) : (o.map (rv G)).toList ++ r.map (rv G) = (o.toList ++ r).map (rv G) := by cases o <;> rfl
theorem CT.mono {G : wG} {z mc ms : Nat} {As : List Value} {M : wMem} {Q Q2 : Option Value → wMem → Prop} (h : CT G z mc ms As M Q) (hq : ∀ o M', Q o M' → Q2 o M') : CT G z mc ms As M Q2 := by
  unfold CT Met at *
  exact fun p e ha hc hk s m args below hf hpre hP hK => by
    obtain ⟨k, o, a1, a2, a3, ⟨⟨r, M', e1, e2, e3, e4⟩, e5⟩, e6⟩ := h p e ha hc hk s m args below hf hpre hP hK
    exact ⟨k, o, a1, a2, a3, ⟨⟨r, M', e1, hq _ _ e2, e3, e4⟩, e5⟩, e6⟩
