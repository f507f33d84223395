/-! rows that are the same below 828 -/
theorem IV_c {T : Nat} {v v' : Nat → Int32} (h : IV T v) (hc : cntOk v) (e : ∀ j, j < 828 → v' j = v j) : IV T v' := by
  have h12 := hc.2.1
  have h17 := hc.2.2.2
  have hW : nW v' = nW v := nW_c e
  have hN : sN v' = sN v := sN_c e
  obtain ⟨⟨a1, a2, a3, a4, a5, a6⟩, b, c, d, u, f, g, i⟩ := h
  have eo : ∀ k, k < sN v → eO v' k = eO v k := fun k hk => e _ (by omega)
  have eh : ∀ k, k < sN v → eH v' k = eH v k := fun k hk => e _ (by omega)
  have ew : ∀ k, k < sN v → eW v' k = eW v k := fun k hk => e _ (by omega)
  refine ⟨?_, fun i hi => ?_, fun i hi => ?_, fun k hk => ?_, fun i j hi hj h1 h2 => ?_, ?_, ?_, by rw [hN]; exact i⟩
  · rw [e _ (by omega), e _ (by omega), e _ (by omega), e _ (by omega), e _ (by omega), e _ (by omega)]
    exact ⟨a1, a2, a3, a4, a5, a6⟩
  · rw [e _ (by omega)]; exact b i hi
  · rw [hW] at hi
    rw [e _ (by omega), e _ (by omega), e _ (by omega)]; exact c i hi
  · rw [hN] at hk
    rw [ew k hk, eh k hk]; exact d k hk
  · rw [hN] at hi hj
    rw [eo i hi, eo j hj] at h1
    rw [eh i hi, eh j hj] at h2
    exact u i j hi hj h1 h2
  · rw [e _ (by omega), ← f]
    exact sumF_c fun i hi => e _ (by omega)
  · rw [e _ (by omega), ← g]
    exact sumF_c fun i hi => e _ (by omega)
theorem cnt_c {v v' : Nat → Int32} (h : cntOk v) (e : ∀ j, j < 828 → v' j = v j) : cntOk v' := by
  have hW : nW v' = nW v := nW_c e
  have hN : sN v' = sN v := sN_c e
  exact ⟨by rw [e _ (by omega), hW]; exact h.1, by rw [hW]; exact h.2.1, by rw [e _ (by omega), hN]; exact h.2.2.1, by rw [hN]; exact h.2.2.2⟩
/-- sound rows: now, the states behind, the slots -/
def GR (U : Nat) (v : Nat → Int32) : Prop := IV U v ∧ cntOk v
theorem GR_c {U : Nat} {v v' : Nat → Int32} (h : GR U v) (e : ∀ j, j < 828 → v' j = v j) : GR U v' := ⟨IV_c h.1 h.2 e, cnt_c h.2 e⟩
theorem GR_mono {U U' : Nat} {v : Nat → Int32} (h : GR U v) (hU : U ≤ U') : GR U' v := ⟨IV_mono h.1 hU, h.2⟩
def GH (U : Nat) (h : Nat → Int32) (K : Nat) : Prop := K ≤ 6 ∧ ∀ i, i < K → GR U (hseg h i)
def GS (U : Nat) (sl sv : Nat → Int32) : Prop := (¬ sv 0 = 0 → GR U (hseg sl 0)) ∧ (¬ sv 1 = 0 → GR U (hseg sl 1))
theorem GH_mono {U U' : Nat} {h : Nat → Int32} {K : Nat} (g : GH U h K) (hU : U ≤ U') : GH U' h K := ⟨g.1, fun i hi => GR_mono (g.2 i hi) hU⟩
theorem GS_mono {U U' : Nat} {sl sv : Nat → Int32} (g : GS U sl sv) (hU : U ≤ U') : GS U' sl sv := ⟨fun q => GR_mono (g.1 q) hU, fun q => GR_mono (g.2 q) hU⟩
theorem GH_rc {U : Nat} {h v : Nat → Int32} {K : Nat} (g : GH U h K) (hv : GR U v) : GH U (rcH h v K) (rcK K) := by
  obtain ⟨g1, g2⟩ := g
  unfold rcH rcK
  by_cases h6 : K = 6
  · rw [if_pos h6, if_pos h6]
    refine ⟨by omega, fun i hi => ?_⟩
    by_cases h5 : i = 5
    · exact GR_c hv (fun j hj => by rw [hseg_put hj, if_pos h5])
    · exact GR_c (g2 (i + 1) (by omega)) (fun j hj => by rw [hseg_put hj, if_neg h5, hseg_sh (by omega) hj])
  · rw [if_neg h6, if_neg h6]
    refine ⟨by omega, fun i hi => ?_⟩
    by_cases hK : i = K
    · exact GR_c hv (fun j hj => by rw [hseg_put hj, if_pos hK])
    · exact GR_c (g2 i (by omega)) (fun j hj => by rw [hseg_put hj, if_neg hK])
theorem GR_seg {U : Nat} {h v : Nat → Int32} {i : Nat} (g : GR U (hseg h i)) : GR U (segN 828 h v i) := GR_c g (fun j hj => by
  unfold segN hseg
  rw [if_pos hj])
theorem GS_put {U : Nat} {sl sv v : Nat → Int32} {a : Nat} (ha : a < 2) (g : GS U sl sv) (hv : GR U v) : GS U (hPut 828 sl v a) (up1 sv a 1) := by
  have : a = 0 ∨ a = 1 := by omega
  rcases this with rfl | rfl
  · refine ⟨fun _ => GR_c hv (fun j hj => by rw [hseg_put hj, if_pos rfl]), fun q => ?_⟩
    rw [up1_ne _ _ _ (by decide)] at q
    exact GR_c (g.2 q) (fun j hj => by rw [hseg_put hj, if_neg (by decide)])
  · refine ⟨fun q => ?_, fun _ => GR_c hv (fun j hj => by rw [hseg_put hj, if_pos rfl])⟩
    rw [up1_ne _ _ _ (by decide)] at q
    exact GR_c (g.1 q) (fun j hj => by rw [hseg_put hj, if_neg (by decide)])
