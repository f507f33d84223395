/-! ===== memories that the heap cannot tell apart: what stands beyond the cells is ours ===== -/
def SM (M N : wMem) : Prop := wZ N = wZ M ∧ wS N = wS M ∧ ∀ q, q < wZ M → wI N q = wI M q ∧ wP N q = wP M q
theorem SM.sy {M N : wMem} (h : SM M N) : SM N M := ⟨h.1.symm, h.2.1.symm, fun q hq => ⟨((h.2.2 q (by rw [← h.1]; exact hq)).1).symm, ((h.2.2 q (by rw [← h.1]; exact hq)).2).symm⟩⟩
theorem wWs_sm (G : wG) {M N : wMem} (h : SM M N) : wWs G N = wWs G M := by
  unfold wWs
  rw [h.1]
  apply List.map_congr_left
  intro i hi
  obtain ⟨e1, e2⟩ := h.2.2 i (List.mem_range.mp hi)
  simp only [wEnt, h.2.1, e1, e2]
theorem wHp_sm {G : wG} {M N : wMem} {H : Heap} (h : SM M N) (hp : wHp G M H) : wHp G N H := by
  obtain ⟨a, b, c⟩ := hp
  exact ⟨by rw [h.1]; exact a, by rw [h.1, h.2.1]; exact b, by rw [wWs_sm G h]; exact c⟩
theorem wp_sm {G : wG} {own : Nat} {ini : Bool} {rt : Option FieldType} {v mc ms : Nat} {cc : ByteArray} {Qr : Option Value → wMem → Prop} {pc : Nat} {ls : wLs} {st : List Value} {M N : wMem} {k n : Nat} (h : SM M N) (hw : wp G own ini rt v mc ms cc Qr pc ls st N k n) : wp G own ini rt v mc ms cc Qr pc ls st M k n := by
  intro p e R s m args below meth c Z C H locs lsA hl hp hS hz
  exact hw p e R s m args below meth c Z C H locs lsA hl (wHp_sm h hp) hS (by rw [h.1]; exact hz)
theorem CT.post {G : wG} {z mc ms : Nat} {As : List Value} {M : wMem} {Q Q2 : Option Value → wMem → Prop} (h : CT G z mc ms As M Q) (hq : ∀ o M', Q o M' → ∃ N, SM M' N ∧ Q2 o N) : CT G z mc ms As M Q2 := by
  unfold CT Met at *
  exact fun p e ha hc hk s m args below hf hpre hP hK => by
    obtain ⟨k, o, a1, a2, a3, ⟨⟨r, M', e1, e2, e3, e4⟩, e5⟩, e6⟩ := h p e ha hc hk s m args below hf hpre hP hK
    obtain ⟨N, n1, n2⟩ := hq _ _ e2
    exact ⟨k, o, a1, a2, a3, ⟨⟨r, N, e1, n2, wHp_sm n1 e3, n1.1.trans e4⟩, e5⟩, e6⟩
/-! between two calls: now is v, h holds the K states behind, the pad holds xs -/
def J (v h : Nat → Int32) (K : Nat) (xs : List Nat) (M : wMem) : Prop :=
  RX M v h K (fun _ => 0) (fun _ => 0) ∧ wZ M = 252 ∧ (wI M 253 = v ∧ wI M 252 2 = nI K ∧ wI M 252 6 = nI xs.length ∧ wI M 257 = wI M 3)
  ∧ (wI M 2 1 = nI xs.length ∧ xs.length ≤ 60 ∧ ∀ i c, xs[i]? = some c → 33 ≤ c ∧ c ≤ 126 ∧ wI M 3 i = nI c)
def syn (M : wMem) (v : Nat → Int32) (K L : Nat) : wMem := (wZ M, wS M, fun q => if q < 252 then wI M q else if q = 253 then v else if q = 252 then (fun j => if j = 2 then nI K else nI L) else wI M 3, wP M)
theorem syn_I (M : wMem) (v : Nat → Int32) (K L q : Nat) : wI (syn M v K L) q = if q < 252 then wI M q else if q = 253 then v else if q = 252 then (fun j => if j = 2 then nI K else nI L) else wI M 3 := rfl
theorem syn_lo {M : wMem} {v : Nat → Int32} {K L q : Nat} (h : q < 252) : wI (syn M v K L) q = wI M q := by rw [syn_I, if_pos h]
theorem SM_syn {M : wMem} {v : Nat → Int32} {K L : Nat} (h : wZ M = 252) : SM M (syn M v K L) := ⟨rfl, rfl, fun q hq => ⟨syn_lo (by omega), rfl⟩⟩
theorem RX_hi {M M' : wMem} {v h sl sv : Nat → Int32} {K : Nat} (hR : RX M v h K sl sv) (hs : wS M' = wS M) (hp : wP M' = wP M) (hi : ∀ q, q < 252 → wI M' q = wI M q) : RX M' v h K sl sv := by
  obtain ⟨hX, hS, hV, ⟨k1, k2, k3, k4, k5, k6⟩, ⟨g1, g2, ⟨g3, g4⟩, g5, g6⟩⟩ := hR
  have sl' : ∀ B, SL B M → SL B M' := fun B hb => SL_of hb hs (fun a _ _ => by rw [hp])
  have rv' : ∀ B w, B + 27 ≤ 252 → SL B M → RV B M w → RV B M' w := fun B w hB hb hr => RV_of hb hr (fun a _ _ => by rw [hp]) (fun a _ _ => hi a (by omega))
  refine ⟨XL_of hX hs (by rw [hp]) (by rw [hp]) (by rw [hp]) (by rw [hp]), sl' _ hS, rv' _ _ (by decide) hS hV, ⟨by rw [hi _ (by decide)]; exact k1, k2, fun q hq => sl' _ (k3 q hq), by rw [hp]; exact k4, by rw [hp]; exact k5, ?_⟩, sl' _ g1, sl' _ g2, ⟨by rw [hi _ (by decide)]; exact g3, by rw [hi _ (by decide)]; exact g4⟩, fun r => rv' _ _ (by decide) g1 (g5 r), fun r => rv' _ _ (by decide) g2 (g6 r)⟩
  rw [hp]
  intro i hik q hq
  obtain ⟨q2, hq2, e⟩ := k4 i (by omega)
  have e2 : q = 34 + 27 * q2 := Option.some.inj (hq.symm.trans e)
  exact rv' _ _ (by omega) (e2 ▸ k3 q2 hq2) (k6 i hik q hq)
theorem J_syn {N : wMem} {v h : Nat → Int32} {K : Nat} {xs : List Nat} (hR : RX N v h K (fun _ => 0) (fun _ => 0)) (hz : wZ N = 252) (hp : wI N 2 1 = nI xs.length) (hl : xs.length ≤ 60) (hc : ∀ i c, xs[i]? = some c → 33 ≤ c ∧ c ≤ 126 ∧ wI N 3 i = nI c) : J v h K xs (syn N v K xs.length) := by
  refine ⟨RX_hi hR rfl rfl (fun q hq => syn_lo hq), hz, ⟨?_, ?_, ?_, ?_⟩, ?_, hl, ?_⟩
  · rw [syn_I, if_neg (by decide), if_pos rfl]
  · rw [syn_I, if_neg (by decide), if_neg (by decide), if_pos rfl, if_pos rfl]
  · rw [syn_I, if_neg (by decide), if_neg (by decide), if_pos rfl, if_neg (by decide)]
  · rw [syn_I, if_neg (by decide), if_neg (by decide), if_neg (by decide), syn_lo (by decide)]
  · rw [syn_lo (by decide)]; exact hp
  · rw [syn_lo (by decide)]; exact hc
theorem J_ch {M N : wMem} {v h v' h' : Nat → Int32} {K K' : Nat} {xs : List Nat} (hJ : J v h K xs M) (hR : RX N v' h' K' (fun _ => 0) (fun _ => 0)) (hz : wZ N = wZ M) (hp : wI N 2 1 = wI M 2 1) (hc : wI N 3 = wI M 3) : J v' h' K' xs (syn N v' K' xs.length) :=
  J_syn hR (hz.trans hJ.2.1) (hp.trans hJ.2.2.2.1) hJ.2.2.2.2.1 (by rw [hc]; exact hJ.2.2.2.2.2)
theorem J_len {M : wMem} {v h : Nat → Int32} {K : Nat} {xs : List Nat} (hJ : J v h K xs M) : lenM M = xs.length := by
  have := hJ.2.2.2.2.1
  unfold lenM
  rw [hJ.2.2.1.2.2.1, nI_clamp (by omega)]
theorem J_ok {M : wMem} {v h : Nat → Int32} {K : Nat} {xs : List Nat} (hJ : J v h K xs M) : chOk (wI M 3) xs.length := by
  intro i hi
  obtain ⟨h1, h2, h3⟩ := hJ.2.2.2.2.2 i _ (List.getElem?_eq_getElem hi)
  exact ⟨_, h1, h2, h3⟩
theorem J_PD {M : wMem} {v h : Nat → Int32} {K : Nat} {xs : List Nat} (hJ : J v h K xs M) : PD M := by
  have hl := J_len hJ
  refine ⟨hJ.2.2.2.1.trans hJ.2.2.1.2.2.1.symm, by rw [hl]; exact hJ.2.2.1.2.2.1, by rw [hl]; exact hJ.2.2.2.2.1, hJ.2.2.1.2.2.2.symm, ?_⟩
  rw [hl, hJ.2.2.1.2.2.2]
  exact J_ok hJ
theorem J_XG {M : wMem} {v h : Nat → Int32} {K : Nat} {xs : List Nat} (hJ : J v h K xs M) : XG M := PD_XG hJ.1.1 (J_PD hJ)
theorem J_lenC {M : wMem} {v h : Nat → Int32} {K : Nat} {xs : List Nat} (hJ : J v h K xs M) : lenC M = xs.length := (PD_len (J_PD hJ)).trans (J_len hJ)
theorem J_RN {M : wMem} {v h : Nat → Int32} {K : Nat} {xs : List Nat} (hJ : J v h K xs M) (hI : IV 512 v) : RN M := by
  refine ⟨hJ.1.1, hJ.1.2.1, ?_, ?_⟩
  · rw [hJ.2.2.1.1]; exact hJ.1.2.2.1
  · rw [hJ.2.2.1.1]; exact hI
theorem J_K {M : wMem} {v h : Nat → Int32} {K : Nat} {xs : List Nat} (hJ : J v h K xs M) : wI M 0 4 = wI M 252 2 := hJ.1.2.2.2.1.1.trans hJ.2.2.1.2.1.symm
theorem J_cnt {M : wMem} {v h : Nat → Int32} {K : Nat} {xs : List Nat} (hJ : J v h K xs M) : cntOk v := hJ.1.2.2.1.1
/-! a call that changes, by the same frame each time -/
theorem J_gen {G : wG} {z : Nat} {As : List Value} {M : wMem} {v h v1 h1 : Nat → Int32} {K K1 : Nat} {xs : List Nat} {r : Int32} {b : Prop} [Decidable b] (hJ : J v h K xs M)
    (hc : CT G z 0 0 As M (fun o M' => o = some (.int r) ∧ (if b then RX M' v1 h1 K1 (fun _ => 0) (fun _ => 0) else M' = M) ∧ FRc M M')) :
    CT G z 0 0 As M (fun o M' => o = some (.int r) ∧ J (if b then v1 else v) (if b then h1 else h) (if b then K1 else K) xs M') := by
  refine CT.post hc ?_
  rintro o N ⟨rfl, g1, hF⟩
  have hz := hF.1.trans hJ.2.1
  have p1 : wI N 2 1 = wI M 2 1 := by rw [(hF.2.2 2 (by omega)).1]
  have p2 : wI N 3 = wI M 3 := (hF.2.2 3 (by omega)).1
  by_cases hb : b
  · rw [if_pos hb] at g1
    simp only [if_pos hb]
    exact ⟨_, SM_syn hz, trivial, J_ch hJ g1 hF.1 p1 p2⟩
  · rw [if_neg hb] at g1
    simp only [if_neg hb]
    subst g1
    exact ⟨_, SM_syn hz, trivial, J_ch hJ hJ.1 rfl rfl rfl⟩
theorem J_genk {G : wG} {z : Nat} {As : List Value} {M : wMem} {v h v1 h1 : Nat → Int32} {K K1 : Nat} {xs : List Nat} {r : Int32} {b : Prop} [Decidable b] (hJ : J v h K xs M)
    (hc : CT G z 0 0 As M (fun o M' => o = some (.int r) ∧ (if b then RX M' v1 h1 K1 (fun _ => 0) (fun _ => 0) ∧ wI M' 2 1 = 0 else RX M' v h K (fun _ => 0) (fun _ => 0) ∧ wI M' 2 1 = wI M 2 1) ∧ FRk M M')) :
    CT G z 0 0 As M (fun o M' => o = some (.int r) ∧ J (if b then v1 else v) (if b then h1 else h) (if b then K1 else K) (if b then [] else xs) M') := by
  refine CT.post hc ?_
  rintro o N ⟨rfl, g1, hF⟩
  have hz := hF.1.trans hJ.2.1
  by_cases hb : b
  · rw [if_pos hb] at g1
    simp only [if_pos hb]
    exact ⟨_, SM_syn hz, trivial, J_syn g1.1 hz g1.2 (Nat.zero_le _) (fun i c hi => by cases hi)⟩
  · rw [if_neg hb] at g1
    simp only [if_neg hb]
    exact ⟨_, SM_syn hz, trivial, J_ch hJ g1.1 hF.1 g1.2 hF.2.2.1⟩
