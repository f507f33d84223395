/-! ===== rows about the pictures ===== -/
theorem wZ_setI (M : wMem) (a k : Nat) (v : Int32) : wZ (wSetI M a k v) = wZ M := rfl
theorem wZ_setP (M : wMem) (a k : Nat) (v : Option Nat) : wZ (wSetP M a k v) = wZ M := rfl
theorem wZ_cop (M : wMem) (a b sp dp n : Nat) : wZ (wCop M a b sp dp n) = wZ M := rfl
theorem wZ_new (M : wMem) (kd n : Nat) (f : Nat → Int32) : wZ (wNew M kd n f) = wZ M + 1 := rfl
theorem wS_setI (M : wMem) (a k : Nat) (v : Int32) (q : Nat) : wS (wSetI M a k v) q = wS M q := rfl
theorem wS_setP (M : wMem) (a k : Nat) (v : Option Nat) (q : Nat) : wS (wSetP M a k v) q = wS M q := rfl
theorem wS_cop (M : wMem) (a b sp dp n q : Nat) : wS (wCop M a b sp dp n) q = wS M q := rfl
theorem wS_new (M : wMem) (kd n : Nat) (f : Nat → Int32) (q : Nat) : wS (wNew M kd n f) q = if q = wZ M then some (kd, n) else wS M q := rfl
theorem wI_setI (M : wMem) (a k : Nat) (v : Int32) (q j : Nat) : wI (wSetI M a k v) q j = if q = a ∧ j = k then v else wI M q j := rfl
theorem wI_setP (M : wMem) (a k : Nat) (v : Option Nat) (q j : Nat) : wI (wSetP M a k v) q j = wI M q j := rfl
theorem wI_cop (M : wMem) (a b sp dp n q j : Nat) : wI (wCop M a b sp dp n) q j = if q = b then va_cpy (wI M a) (wI M b) sp dp n j else wI M q j := rfl
theorem wI_new (M : wMem) (kd n : Nat) (f : Nat → Int32) (q j : Nat) : wI (wNew M kd n f) q j = if q = wZ M then f j else wI M q j := rfl
theorem wP_setI (M : wMem) (a k : Nat) (v : Int32) (q j : Nat) : wP (wSetI M a k v) q j = wP M q j := rfl
theorem wP_setP (M : wMem) (a k : Nat) (v : Option Nat) (q j : Nat) : wP (wSetP M a k v) q j = if q = a ∧ j = k then v else wP M q j := rfl
theorem wP_cop (M : wMem) (a b sp dp n q j : Nat) : wP (wCop M a b sp dp n) q j = wP M q j := rfl
theorem wP_new (M : wMem) (kd n : Nat) (f : Nat → Int32) (q j : Nat) : wP (wNew M kd n f) q j = if q = wZ M then none else wP M q j := rfl
theorem wWs_at {G : wG} {M : wMem} {a : Nat} (ha : a < wZ M) : (wWs G M)[a]? = some (gLo G + a, wEnt G M a) := by
  simp [wWs, List.getElem?_map, List.getElem?_range ha]
theorem wEnt_of {G : wG} {M : wMem} {a kd n : Nat} (h : wS M a = some (kd, n)) : wEnt G M a = wKent G kd n (wI M a) (wP M a) := by
  simp [wEnt, h]
theorem wWs_len (G : wG) (M : wMem) : (wWs G M).length = wZ M := by simp [wWs]
theorem wWs_set {G : wG} {M M' : wMem} {a : Nat} (hz : wZ M' = wZ M) (ha : a < wZ M) (ho : ∀ i, i ≠ a → wEnt G M' i = wEnt G M i) : (wWs G M).set a (gLo G + a, wEnt G M' a) = wWs G M' := by
  apply List.ext_getElem?
  intro i
  by_cases hi : i = a
  · subst hi
    rw [List.getElem?_set_self (by rw [wWs_len]; exact ha), wWs_at (by rw [hz]; exact ha)]
  · rw [List.getElem?_set_ne (Ne.symm hi)]
    by_cases hl : i < wZ M
    · rw [wWs_at hl, wWs_at (by rw [hz]; exact hl), ho i hi]
    · rw [List.getElem?_eq_none (by rw [wWs_len]; omega), List.getElem?_eq_none (by rw [wWs_len, hz]; omega)]
theorem wD_ws (G : wG) (M : wMem) : va_D (gA G) (wWs G M) := by
  have key : ∀ (k : Nat) (q : Nat × va_E), (wWs G M)[k]? = some q → q.1 = gLo G + k := by
    intro k q h
    have hk : k < wZ M := by rw [← wWs_len G M]; exact (List.getElem?_eq_some_iff.mp h).1
    rw [wWs_at hk] at h
    cases h
    rfl
  refine ⟨fun i j p q hi hj h => ?_, fun k q h => ?_⟩
  · have h1 := key i p hi
    have h2 := key j q hj
    omega
  · show gLo G ≤ q.1
    rw [key k q h]
    omega
theorem wAd_of {G : wG} {i : Nat} (h : i < 1000000) : gAd G i = gLo G + i := by simp [gAd, h]
theorem wAd_ro {G : wG} {i : Nat} (h : 1000000 ≤ i) : gAd G i = gRa G i := by simp [gAd, Nat.not_lt.mpr h]
theorem rv_wRf (G : wG) (r : Option Nat) : rv G (wRf r) = va_rf (r.map (gAd G)) := by cases r <;> rfl
theorem wFs_at {G : wG} {ts : List Nat} {f : Nat → Int32} {g : Nat → Option Nat} {k t : Nat} (h : ts[k]? = some t) : (wFs G ts f g)[k]? = some (if t = 2 then va_rf ((g k).map (gAd G)) else .int (f k)) := by
  simp [wFs, List.getElem?_map, List.getElem?_zipIdx, h]
theorem wFs_len (G : wG) (ts : List Nat) (f : Nat → Int32) (g : Nat → Option Nat) : (wFs G ts f g).length = ts.length := by simp [wFs]
theorem wFs_set {G : wG} {ts : List Nat} {f f' : Nat → Int32} {g g' : Nat → Option Nat} {k t : Nat} {x : Value} (h : ts[k]? = some t) (hx : x = if t = 2 then va_rf ((g' k).map (gAd G)) else .int (f' k)) (hf : ∀ j, j ≠ k → f' j = f j) (hg : ∀ j, j ≠ k → g' j = g j) : (wFs G ts f g).set k x = wFs G ts f' g' := by
  have hk : k < ts.length := (List.getElem?_eq_some_iff.mp h).1
  apply List.ext_getElem?
  intro i
  by_cases hi : i = k
  · subst hi
    rw [List.getElem?_set_self (by rw [wFs_len]; exact hk), wFs_at h, hx]
  · rw [List.getElem?_set_ne (Ne.symm hi)]
    by_cases hl : i < ts.length
    · have e : ts[i]? = some ts[i] := List.getElem?_eq_getElem hl
      rw [wFs_at e, wFs_at e, hf i hi, hg i hi]
    · rw [List.getElem?_eq_none (by rw [wFs_len]; omega), List.getElem?_eq_none (by rw [wFs_len]; omega)]
theorem wKent_o {G : wG} {kd n : Nat} {f : Nat → Int32} {g : Nat → Option Nat} (h : kd < 10) : wKent G kd n f g = .inr (kd, wFs G (tcs kd) f g) := by simp [wKent, h]
theorem wKent_i {G : wG} {kd n : Nat} {f : Nat → Int32} {g : Nat → Option Nat} (h : 10 ≤ kd) (h2 : kd < 13) : wKent G kd n f g = .inl (gCA G kd, n, .inl f) := by simp [wKent, Nat.not_lt.mpr h, h2]
theorem wKent_q {G : wG} {kd n : Nat} {f : Nat → Int32} {g : Nat → Option Nat} (h : 13 ≤ kd) : wKent G kd n f g = .inl (gCA G kd, n, .inr (.inr (.inr (.inr (fun j => (g j).map (gAd G)))))) := by
  have h1 : ¬ kd < 10 := by omega
  have h2 : ¬ kd < 13 := by omega
  simp [wKent, h1, h2]
theorem wTys_at {G : wG} {kd : Nat} (h : 10 ≤ kd) (h2 : kd < 16) : (wTys G)[kd - 10]? = some (gCA G kd, aTy kd) := by
  have : kd = 10 ∨ kd = 11 ∨ kd = 12 ∨ kd = 13 ∨ kd = 14 ∨ kd = 15 := by omega
  rcases this with rfl | rfl | rfl | rfl | rfl | rfl <;> rfl
/-! facts about the tables, each decided once -/
theorem cl9_at : ∀ c, c < 8 → cl9[c]? = some (RXn c, TXn c, NXn c) := by
  intro c h
  have : c = 0 ∨ c = 1 ∨ c = 2 ∨ c = 3 ∨ c = 4 ∨ c = 5 ∨ c = 6 ∨ c = 7 := by omega
  rcases this with rfl | rfl | rfl | rfl | rfl | rfl | rfl | rfl <;> rfl
theorem lookup_mem {α β : Type} [BEq α] [LawfulBEq α] {k : α} {v : β} : ∀ {l : List (α × β)}, l.lookup k = some v → (k, v) ∈ l
  | [], h => by simp at h
  | (a, b) :: l, h => by
    rw [List.lookup_cons] at h
    by_cases hk : k == a
    · rw [hk] at h
      have e : k = a := by simpa using hk
      cases h
      rw [e]
      exact List.mem_cons_self
    · have hk' : (k == a) = false := by simpa using hk
      rw [hk'] at h
      exact List.mem_cons_of_mem _ (lookup_mem h)
def wFchk (x : (Nat × Nat) × (Nat × Nat × Nat × Bool)) : Bool :=
  decide (Jvm.Cond.fieldLink (RXn x.1.1) x.1.2 (RXn x.2.1) (TXn x.2.1 x.2.2.1).2.1 (TXn x.2.1 x.2.2.1).2.2.1 ∈ wU) && decide (x.2.1 < 8) && decide (x.2.2.1 < NXn x.2.1) && decide ((TXn x.2.1 x.2.2.1).1 = RXn x.2.1)
  && decide ((TXn x.2.1 x.2.2.1).2.2.2 = x.2.2.2.2) && decide ((tcs x.2.1)[x.2.2.1]? = some x.2.2.2.1)
theorem wFchk_ok : fTab.all wFchk = true := by decide +kernel
theorem wU_lays : ∀ c, c < 8 → ∀ w ∈ u_ws (RXn c) (TXn c) (NXn c), w ∈ wU := by
  have h : (List.range 8).all (fun c => (u_ws (RXn c) (TXn c) (NXn c)).all (fun w => decide (w ∈ wU))) = true := by decide +kernel
  intro c hc w hw
  have h1 := List.all_eq_true.mp h c (List.mem_range.mpr hc)
  have h2 := List.all_eq_true.mp h1 w hw
  exact of_decide_eq_true h2
theorem wU_inst : ∀ c, c < 8 → Jvm.Cond.instantiable (RXn c) (NXn c) ∈ wU ∧ Jvm.Cond.initialized (RXn c) ∈ wU := by
  have h : (List.range 8).all (fun c => decide (Jvm.Cond.instantiable (RXn c) (NXn c) ∈ wU) && decide (Jvm.Cond.initialized (RXn c) ∈ wU)) = true := by decide +kernel
  intro c hc
  have h1 := List.all_eq_true.mp h c (List.mem_range.mpr hc)
  simpa using h1
theorem wU_good : ∀ w ∈ wU, goodWord w = true := fun w h => (List.mem_filter.mp h).2
theorem wU_tbl : ∀ w ∈ wU, w ∈ lw_tbl := fun w h => (List.mem_filter.mp h).1
theorem tyn_ok : ∀ c, c < 8 → ∀ k, k < NXn c → parseFieldDescriptor (TXn c k).2.2.1 = some (tyn c k) := by
  have h : (List.range 8).all (fun c => (List.range (NXn c)).all (fun k => decide (parseFieldDescriptor (TXn c k).2.2.1 = some (tyn c k)))) = true := by decide +kernel
  intro c hc k hk
  have h1 := List.all_eq_true.mp h c (List.mem_range.mpr hc)
  have h2 := List.all_eq_true.mp h1 k (List.mem_range.mpr hk)
  exact of_decide_eq_true h2
theorem nmn_ok : ∀ c, c < 8 → ∀ a, a < NXn c → ∀ b, b < NXn c → a ≠ b → (TXn c a).2.1 ≠ (TXn c b).2.1 := by
  have h : (List.range 8).all (fun c => (List.range (NXn c)).all (fun a => (List.range (NXn c)).all (fun b => decide (a ≠ b → (TXn c a).2.1 ≠ (TXn c b).2.1)))) = true := by decide +kernel
  intro c hc a ha b hb hab
  have h1 := List.all_eq_true.mp h c (List.mem_range.mpr hc)
  have h2 := List.all_eq_true.mp h1 a (List.mem_range.mpr ha)
  have h3 := List.all_eq_true.mp h2 b (List.mem_range.mpr hb)
  exact of_decide_eq_true h3 hab
def wTyc (ty : FieldType) (t : Nat) : Bool := match ty with
  | .int => t == 0
  | .boolean => t == 1
  | .object _ => t == 2
  | .array _ => t == 2
  | _ => false
theorem tcs_ok : ∀ c, c < 8 → ∀ k t, (tcs c)[k]? = some t → k < NXn c ∧ wTyc (tyn c k) t = true := by
  have h : (List.range 8).all (fun c => (tcs c).zipIdx.all (fun q => decide (q.2 < NXn c) && wTyc (tyn c q.2) q.1)) = true := by decide +kernel
  intro c hc k t hk
  have h1 := List.all_eq_true.mp h c (List.mem_range.mpr hc)
  have h2 := List.all_eq_true.mp h1 (t, k) (List.mem_of_getElem? (i := k) (by rw [List.getElem?_zipIdx, hk]; simp))
  simpa using h2
theorem tcs_len : ∀ c, c < 8 → (tcs c).length = NXn c := by
  intro c h
  have : c = 0 ∨ c = 1 ∨ c = 2 ∨ c = 3 ∨ c = 4 ∨ c = 5 ∨ c = 6 ∨ c = 7 := by omega
  rcases this with rfl | rfl | rfl | rfl | rfl | rfl | rfl | rfl <;> rfl
theorem wU_mem {w : Jvm.Cond} (i : Nat) (h : lw_tbl[i]? = some w) (hg : goodWord w = true) : w ∈ wU := List.mem_filter.mpr ⟨List.mem_of_getElem? h, hg⟩
/-- a method: its code word, its locals, its level, its class, how many arguments -/
def wM (z ci na lv : Nat) : Prop := Jvm.Cond.code (mOf z).1 (mOf z).2.1 (mOf z).2.2.1 (mOf z).2.2.2.1 ∈ wU ∧ (mOf z).2.2.1 ≤ 24 ∧ (mOf z).2.2.2.2 = lv ∧ (mOf z).1.cls = RXn ci ∧ ci < 9
  ∧ ((mOf z).1.cls ≠ "java/lang/invoke/MethodHandle" ∧ (mOf z).1.cls ≠ "java/lang/invoke/VarHandle" ∧ (parseMethodDescriptor (mOf z).1.desc).map (fun d => d.parameters.length) = some na) ∧ Jvm.Cond.initialized (mOf z).1.cls ∈ wU
/-- a call, by its kind -/
def wCok (x : (Nat × Nat) × (Nat × Nat × Nat × Nat × Nat)) : Prop :=
  (x.2.1 = 0 ∧ wM x.2.2.1 x.2.2.2.2.2 x.2.2.2.1 x.2.2.2.2.1 ∧ Jvm.Cond.methodLink (RXn x.1.1) x.1.2 (mOf x.2.2.1).1 ∈ wU ∧ Jvm.Cond.instanceMethod (mOf x.2.2.1).1 ∈ wU ∧ Jvm.Cond.selects (mOf x.2.2.1).1.cls (mOf x.2.2.1).1 (mOf x.2.2.1).1 ∈ wU ∧ x.2.2.2.2.2 < 8)
  ∨ (x.2.1 = 1 ∧ wM x.2.2.1 x.2.2.2.2.2 x.2.2.2.1 x.2.2.2.2.1 ∧ Jvm.Cond.methodLink (RXn x.1.1) x.1.2 (mOf x.2.2.1).1 ∈ wU ∧ Jvm.Cond.static (mOf x.2.2.1).1 ∈ wU)
  ∨ (x.2.1 = 2 ∧ wM x.2.2.1 x.2.2.2.2.2 x.2.2.2.1 x.2.2.2.2.1 ∧ Jvm.Cond.methodLink (RXn x.1.1) x.1.2 (mOf x.2.2.1).1 ∈ wU ∧ Jvm.Cond.instanceMethod (mOf x.2.2.1).1 ∈ wU ∧ (mOf x.2.2.1).1.name = "<init>" ∧ (mOf x.2.2.1).2.2.2.1 = none)
  ∨ (x.2.1 = 3 ∧ wM x.2.2.1 x.2.2.2.2.2 x.2.2.2.1 x.2.2.2.2.1 ∧ Jvm.Cond.instanceMethod (mOf x.2.2.1).1 ∈ wU ∧ (mOf x.2.2.1).1.name = "<init>" ∧ (mOf x.2.2.1).2.2.2.1 = none)
  ∨ (x.2.1 = 4 ∧ wM x.2.2.1 x.2.2.2.2.2 x.2.2.2.1 x.2.2.2.2.1 ∧ Jvm.Cond.static (mOf x.2.2.1).1 ∈ wU)
  ∨ (x.2.1 = 5 ∧ Jvm.Cond.methodLink (RXn x.1.1) x.1.2 ⟨"[I", "clone", "()Ljava/lang/Object;"⟩ ∈ wU)
  ∨ (x.2.1 = 6 ∧ Jvm.Cond.methodLink (RXn x.1.1) x.1.2 objectInit ∈ wU)
  ∨ (x.2.1 = 7 ∧ Jvm.Cond.methodLink (RXn x.1.1) x.1.2 Lib.Math.max.name ∈ wU)
  ∨ (x.2.1 = 8 ∧ Jvm.Cond.methodLink (RXn x.1.1) x.1.2 Lib.Math.min.name ∈ wU)
  ∨ (x.2.1 = 9 ∧ Jvm.Cond.methodLink (RXn x.1.1) x.1.2 arraycopyName ∈ wU)
def wFix : List Jvm.Cond := [.instanceMethod objectInit, .code objectInit ⟨#[0xb1]⟩ 1 none, .static Lib.Math.max.name, .code Lib.Math.max.name Lib.Math.max.code 2 (some .int), .static Lib.Math.min.name, .code Lib.Math.min.name Lib.Math.min.code 2 (some .int), .initialized "java/lang/Math",
  .native arraycopyName, .static arraycopyName, .initialized "java/lang/System", .sameMethod "[I" "java/lang/Object" "clone" "()Ljava/lang/Object;", .native ⟨"java/lang/Object", "clone", "()Ljava/lang/Object;"⟩, .instanceMethod ⟨"java/lang/Object", "clone", "()Ljava/lang/Object;"⟩,
  .selects "[I" ⟨"[I", "clone", "()Ljava/lang/Object;"⟩ ⟨"java/lang/Object", "clone", "()Ljava/lang/Object;"⟩, .arrayClass .int, .arrayClass .boolean, .arrayClass .char]
theorem wFix_ok : ∀ w ∈ wFix, w ∈ wU := by decide +kernel
theorem wNchk_ok : nTab.all (fun x => decide (Jvm.Cond.classLink (RXn x.1.1) x.1.2 (RXn x.2) ∈ wU) && decide (x.2 < 8)) = true := by decide +kernel
theorem wKchk_ok : kTab.all (fun x => decide (Jvm.Cond.classLink (RXn x.1) x.2 "[I" ∈ wU)) = true := by decide +kernel
theorem wLchk_ok : lTab.all (fun x => decide (Jvm.Cond.constantLong (RXn x.1.1) x.1.2 x.2 ∈ wU)) = true := by decide +kernel
theorem wJchk_ok : jTab.all (fun x => decide (Jvm.Cond.constant (RXn x.1.1) x.1.2 x.2 ∈ wU)) = true := by decide +kernel
theorem wSchk_ok : sTab.all (fun x => (x.2.2 || decide (Jvm.Cond.fieldLink (RXn x.1.1) x.1.2 RX7 (sNm x.2.1) "[I" ∈ wU)) && decide (1000001 ≤ x.2.1) && decide (x.2.1 < 1000004)) = true := by decide +kernel
theorem mTab_plain : mTab.all (fun r => plainName r.1.cls) = true := by decide +kernel
