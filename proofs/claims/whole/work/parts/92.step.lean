theorem RX_hi {M M' : wMem} {v h sl sv : Nat → Int32} {K : Nat} (hR : RX M v h K sl sv) (hs : wS M' = wS M) (hp : wP M' = wP M) (hi : ∀ q, q < 252 → wI M' q = wI M q) : RX M' v h K sl sv := by
  obtain ⟨hX, hS, hV, ⟨k1, k2, k3, k4, k5, k6⟩, ⟨g1, g2, ⟨g3, g4⟩, g5, g6⟩⟩ := hR
  have sl' : ∀ B, SL B M → SL B M' := fun B hb => SL_of hb hs (fun a _ _ => by rw [hp])
  have rv' : ∀ B w, B + 27 ≤ 252 → SL B M → RV B M w → RV B M' w := fun B w hB hb hr => RV_of hb hr (fun a _ _ => by rw [hp]) (fun a _ _ => hi a (by omega))
  refine ⟨XL_of hX hs (by rw [hp]) (by rw [hp]) (by rw [hp]) (by rw [hp]), sl' _ hS, rv' _ _ (by decide) hS hV, ⟨by rw [hi _ (by decide)]; exact k1, k2, fun q hq => sl' _ (k3 q hq), by rw [hp]; exact k4, by rw [hp]; exact k5, ?_⟩, sl' _ g1, sl' _ g2, ⟨by rw [hi _ (by decide)]; exact g3, by rw [hi _ (by decide)]; exact g4⟩, fun r => rv' _ _ (by decide) g1 (g5 r), fun r => rv' _ _ (by decide) g2 (g6 r)⟩
  rw [hp]
  intro i hik q hq
  obtain ⟨q2, hq2, e⟩ := k4 i (by omega)
  have e2 : q = 34 + 27 * q2 := Option.some.inj (hq.symm.trans e)
  exact rv' _ _ (by omega) (e2 ▸ k3 q2 hq2) (k6 i hik q hq)
theorem INV_mk {N P : wMem} {v h sl sv : Nat → Int32} {K U t : Nat} (hR : RX N v h K sl sv) (hS : wS P = wS N) (hP : wP P = wP N) (hZ : wZ P = 259) (hi : ∀ q, q < 252 → wI P q = wI N q) (e1 : wI P 253 = v) (e2 : wI P 254 = h) (e3 : wI P 255 = sl) (e4 : wI P 256 = sv)
    (hk : wI P 252 2 = nI K) (hD : PD P) (hL : MLay P) (hU : U + (lenM P + 7) / 8 ≤ t) (gv : GR U v) (gh : GH U h K) (gs : GS U sl sv) : INV t P := by
  refine ⟨K, U, ?_, hk, hD, hL, hZ, hU, by rw [e1]; exact gv, by rw [e2]; exact gh, by rw [e3, e4]; exact gs⟩
  rw [e1, e2, e3, e4]
  exact RX_hi hR hS hP hi
/-- what a call of the class leaves of the reference's cells and of the pad -/
theorem FRk_i {M N : wMem} (h : FRk M N) {q : Nat} (hq : 252 ≤ q) : wI N q = wI M q := (h.2.2.2 q hq).1
theorem FRk_L {M N : wMem} (h : FRk M N) (hL : MLay M) : MLay N := by
  unfold MLay at *
  rw [h.2.1, (h.2.2.2 252 (by decide)).2]
  exact hL
def SIM (G : wG) (z1 z2 : Nat) (As : List Value) (t : Nat) (M : wMem) : Prop := CT G z1 0 0 (.ref 0 :: As) M (fun o N => ∃ r, o = some (.int r) ∧ wS N 252 = some (8, 0) ∧ CT G z2 0 0 (.ref 252 :: As) N (fun o' P => o' = some (.int r) ∧ INV (t + 1) P))
theorem INV_up {t t' : Nat} {M : wMem} (h : INV t M) (ht : t ≤ t') : INV t' M := by
  obtain ⟨K, U, hR, hk, hD, hL, hZ, hU, hv, hh, hs⟩ := h
  exact ⟨K, U, hR, hk, hD, hL, hZ, by omega, hv, hh, hs⟩
