/-! ===== the class: a state's cells, from B on, and the row of the reference that they stand for ===== -/
def SL (B : Nat) (M : wMem) : Prop :=
  (wS M B = some (5, 0) ∧ wP M B 0 = some (B + 1) ∧ wP M B 1 = some (B + 2) ∧ wP M B 2 = some (B + 3) ∧ wP M B 3 = some (B + 4))
  ∧ (wS M (B + 1) = some (10, 6) ∧ wS M (B + 2) = some (14, 6) ∧ wS M (B + 3) = some (15, 12))
  ∧ (wS M (B + 4) = some (0, 0) ∧ wP M (B + 4) 0 = some (B + 5) ∧ wP M (B + 4) 1 = some (B + 6) ∧ wP M (B + 4) 2 = some (B + 7) ∧ wP M (B + 4) 3 = some (B + 8) ∧ wS M (B + 5) = some (10, 170) ∧ wS M (B + 6) = some (10, 170) ∧ wS M (B + 7) = some (10, 170) ∧ wS M (B + 8) = some (10, 170))
  ∧ (∀ i, i < 6 → wP M (B + 2) i = some (B + 9 + i) ∧ wS M (B + 9 + i) = some (4, 0))
  ∧ (∀ i, i < 12 → ∃ r, r < 12 ∧ wP M (B + 3) i = some (B + 15 + r) ∧ wS M (B + 15 + r) = some (6, 0))
  ∧ (∀ i j, i < 12 → j < 12 → wP M (B + 3) i = wP M (B + 3) j → i = j)
def RVw (M : wMem) (q : Nat) (v : Nat → Int32) (i : Nat) : Prop := wI M q 0 = v (36 + 6 * i) ∧ wI M q 1 = v (37 + 6 * i) ∧ LR (wI M q 2) (v (38 + 6 * i)) ∧ wI M q 3 = v (39 + 6 * i) ∧ wI M q 4 = v (40 + 6 * i) ∧ wI M q 5 = v (41 + 6 * i)
def RVs (M : wMem) (q : Nat) (v : Nat → Int32) (i : Nat) : Prop := wI M q 0 = v (12 + 4 * i) ∧ wI M q 1 = v (13 + 4 * i) ∧ wI M q 2 = v (14 + 4 * i) ∧ wI M q 3 = v (15 + 4 * i)
def RVe (M : wMem) (B : Nat) (v : Nat → Int32) (k : Nat) : Prop := wI M (B + 5) k = eO v k ∧ LR (wI M (B + 6) k) (eH v k) ∧ wI M (B + 7) k = eM v k ∧ wI M (B + 8) k = eW v k
def cntOk (v : Nat → Int32) : Prop := v 6 = nI (nW v) ∧ nW v ≤ 12 ∧ v 11 = nI (sN v) ∧ sN v ≤ 170
def RV (B : Nat) (M : wMem) (v : Nat → Int32) : Prop :=
  cntOk v ∧ (∀ i, i < 6 → wI M (B + 1) i = v i) ∧ (wI M B 4 = v 6 ∧ wI M B 5 = v 9 ∧ wI M B 6 = v 10)
  ∧ (∀ i, i < 6 → RVs M (B + 9 + i) v i) ∧ (∀ i, i < nW v → ∀ q, wP M (B + 3) i = some q → RVw M q v i)
  ∧ wI M (B + 4) 4 = v 11 ∧ (∀ k, k < sN v → RVe M B v k)
theorem SL_of {B : Nat} {M M' : wMem} (h : SL B M) (hs : wS M' = wS M) (hp : ∀ a, B ≤ a → a < B + 27 → wP M' a = wP M a) : SL B M' := by
  obtain ⟨⟨a1, a2, a3, a4, a5⟩, ⟨b1, b2, b3⟩, ⟨d1, d2, d3, d4, d5, d6, d7, d8, d9⟩, e, f, g⟩ := h
  have p0 := hp B (by omega) (by omega)
  have p2 := hp (B + 2) (by omega) (by omega)
  have p3 := hp (B + 3) (by omega) (by omega)
  have p4 := hp (B + 4) (by omega) (by omega)
  refine ⟨⟨by rw [hs]; exact a1, by rw [p0]; exact a2, by rw [p0]; exact a3, by rw [p0]; exact a4, by rw [p0]; exact a5⟩, ⟨by rw [hs]; exact b1, by rw [hs]; exact b2, by rw [hs]; exact b3⟩,
    ⟨by rw [hs]; exact d1, by rw [p4]; exact d2, by rw [p4]; exact d3, by rw [p4]; exact d4, by rw [p4]; exact d5, by rw [hs]; exact d6, by rw [hs]; exact d7, by rw [hs]; exact d8, by rw [hs]; exact d9⟩, ?_, ?_, ?_⟩
  · rw [p2, hs]; exact e
  · rw [p3, hs]; exact f
  · rw [p3]; exact g
theorem RV_of {B : Nat} {M M' : wMem} {v : Nat → Int32} (hL : SL B M) (h : RV B M v) (hp : ∀ a, B ≤ a → a < B + 27 → wP M' a = wP M a) (hi : ∀ a, B ≤ a → a < B + 27 → wI M' a = wI M a) : RV B M' v := by
  obtain ⟨h0, h1, ⟨h2, h3, h4⟩, h5, h6, h7, h8⟩ := h
  have hw := hL.2.2.2.2.1
  refine ⟨h0, fun i hl => by rw [hi _ (by omega) (by omega)]; exact h1 i hl, ⟨by rw [hi _ (by omega) (by omega)]; exact h2, by rw [hi _ (by omega) (by omega)]; exact h3, by rw [hi _ (by omega) (by omega)]; exact h4⟩, fun i hl => ?_, fun i hl q hq => ?_, by rw [hi _ (by omega) (by omega)]; exact h7, fun k hk => ?_⟩
  · have := h5 i hl
    unfold RVs at *
    rw [hi _ (by omega) (by omega)]
    exact this
  · rw [hp _ (by omega) (by omega)] at hq
    obtain ⟨r, hr, e1, -⟩ := hw i (by have := h0.2.1; omega)
    have e2 : q = B + 15 + r := Option.some.inj (hq.symm.trans e1)
    have := h6 i hl q hq
    unfold RVw at *
    rw [hi q (by omega) (by omega)]
    exact this
  · have := h8 k hk
    unfold RVe at *
    rw [hi _ (by omega) (by omega), hi _ (by omega) (by omega), hi _ (by omega) (by omega), hi _ (by omega) (by omega)]
    exact this
theorem nW_c {v v' : Nat → Int32} (h : ∀ j, j < 828 → v' j = v j) : nW v' = nW v := by unfold nW; rw [h 6 (by decide)]
theorem sN_c {v v' : Nat → Int32} (h : ∀ j, j < 828 → v' j = v j) : sN v' = sN v := by unfold sN; rw [h 11 (by decide)]
theorem RV_c {B : Nat} {M : wMem} {v v' : Nat → Int32} (h : RV B M v) (hv : ∀ j, j < 828 → v' j = v j) : RV B M v' := by
  obtain ⟨⟨g1, g2, g3, g4⟩, h1, ⟨h2, h3, h4⟩, h5, h6, h7, h8⟩ := h
  have eW' := nW_c hv
  have eN' := sN_c hv
  refine ⟨⟨by rw [hv _ (by decide), eW']; exact g1, by rw [eW']; exact g2, by rw [hv _ (by decide), eN']; exact g3, by rw [eN']; exact g4⟩, fun i hl => by rw [hv _ (by omega)]; exact h1 i hl, ⟨by rw [hv _ (by decide)]; exact h2, by rw [hv _ (by decide)]; exact h3, by rw [hv _ (by decide)]; exact h4⟩, fun i hl => ?_, fun i hl q hq => ?_, by rw [hv _ (by decide)]; exact h7, fun k hk => ?_⟩
  · have := h5 i hl
    unfold RVs at *
    rw [hv _ (by omega), hv _ (by omega), hv _ (by omega), hv _ (by omega)]
    exact this
  · rw [eW'] at hl
    have := h6 i hl q hq
    unfold RVw at *
    rw [hv _ (by omega), hv _ (by omega), hv _ (by omega), hv _ (by omega), hv _ (by omega), hv _ (by omega)]
    exact this
  · rw [eN'] at hk
    have := h8 k hk
    unfold RVe eO eH eM eW at *
    rw [hv _ (by omega), hv _ (by omega), hv _ (by omega), hv _ (by omega)]
    exact this
/-! what stands fast beside the states -/
def XL (M : wMem) : Prop := (wS M 0 = some (7, 0) ∧ wP M 0 0 = some 2 ∧ wP M 0 1 = some 1 ∧ wP M 0 2 = some 6 ∧ wP M 0 3 = some 33 ∧ wP M 0 5 = some 196 ∧ wP M 0 6 = some 251)
  ∧ (wS M 2 = some (1, 0) ∧ wP M 2 0 = some 3 ∧ wS M 3 = some (12, 60))
  ∧ (wS M 1 = some (3, 0) ∧ wP M 1 0 = some 2 ∧ wP M 1 4 = some 4 ∧ wP M 1 5 = some 5 ∧ wS M 4 = some (2, 0) ∧ wS M 5 = some (2, 0))
  ∧ (wS M 33 = some (13, 6) ∧ wS M 196 = some (13, 2) ∧ wP M 196 0 = some 197 ∧ wP M 196 1 = some 224 ∧ wS M 251 = some (11, 2))
theorem XL_of {M M' : wMem} (h : XL M) (hs : wS M' = wS M) (h0 : wP M' 0 = wP M 0) (h1 : wP M' 2 = wP M 2) (h2 : wP M' 1 = wP M 1) (h3 : wP M' 196 = wP M 196) : XL M' := by
  unfold XL at *
  rw [hs, h0, h1, h2, h3]
  exact h
/-- the cells of now, one by one -/
theorem SLn {M : wMem} (h : SL 6 M) : wS M 6 = some (5, 0) ∧ wP M 6 0 = some 7 ∧ wP M 6 1 = some 8 ∧ wP M 6 2 = some 9 ∧ wP M 6 3 = some 10 ∧ wS M 7 = some (10, 6) ∧ wS M 8 = some (14, 6) ∧ wS M 9 = some (15, 12) ∧ LB M := by
  obtain ⟨⟨a1, a2, a3, a4, a5⟩, ⟨b1, b2, b3⟩, ⟨d1, d2, d3, d4, d5, d6, d7, d8, d9⟩, -, -, -⟩ := h
  exact ⟨a1, a2, a3, a4, a5, b1, b2, b3, d1, d2, d3, d4, d5, d6, d7, d8, d9⟩
theorem SLs {M : wMem} (h : SL 6 M) {j : Nat} (hj : j < 6) : wP M 8 j = some (15 + j) ∧ wS M (15 + j) = some (4, 0) := h.2.2.2.1 j hj
theorem SLw {M : wMem} (h : SL 6 M) {i : Nat} (hi : i < 12) : ∃ q, wP M 9 i = some q ∧ wS M q = some (6, 0) ∧ 21 ≤ q ∧ q < 33 := by
  obtain ⟨r, hr, e1, e2⟩ := h.2.2.2.2.1 i hi
  exact ⟨21 + r, e1, e2, by omega, by omega⟩
theorem bN_e {M : wMem} {v : Nat → Int32} (h : RV 6 M v) : bN M = sN v := by
  unfold bN sN
  rw [show wI M 10 4 = v 11 from h.2.2.2.2.2.1]
theorem BG_e {M : wMem} {v : Nat → Int32} (hL : SL 6 M) (h : RV 6 M v) : BG M := by
  refine ⟨(SLn hL).2.2.2.2.2.2.2.2, ?_, ?_⟩
  · rw [bN_e h, show wI M 10 4 = v 11 from h.2.2.2.2.2.1]; exact h.1.2.2.1
  · rw [bN_e h]; exact h.1.2.2.2
theorem leadO_c {f g f' g' : Nat → Int32} {w : Int32} : ∀ {n : Nat}, (∀ k, k < n → f k = f' k ∧ g k = g' k) → leadO f g w n = leadO f' g' w n
  | 0, _ => rfl
  | n + 1, h => by
    have ih := leadO_c (w := w) (fun k hk => h k (Nat.lt_succ_of_lt hk))
    simp only [leadO]
    rw [ih]
    cases e : leadO f' g' w n with
    | none => simp only [(h n (by omega)).1]
    | some j =>
      have hj := (leadO_lt e).1
      simp only [(h n (by omega)).1, (h n (by omega)).2, (h j (by omega)).2]
theorem othM_c {f g f' g' : Nat → Int32} {w : Int32} {l : Option Nat} : ∀ {n : Nat}, (∀ k, k < n → f k = f' k ∧ g k = g' k) → othM f g w l n = othM f' g' w l n
  | 0, _ => rfl
  | n + 1, h => by
    have ih := othM_c (w := w) (l := l) (fun k hk => h k (Nat.lt_succ_of_lt hk))
    simp only [othM]
    rw [ih, (h n (by omega)).1, (h n (by omega)).2]
theorem cntP_c {p p' : Nat → Bool} : ∀ {n : Nat}, (∀ k, k < n → p k = p' k) → cntP p n = cntP p' n
  | 0, _ => rfl
  | n + 1, h => by
    have ih := cntP_c (fun k hk => h k (Nat.lt_succ_of_lt hk))
    simp only [cntP]
    rw [ih, h n (by omega)]
theorem fstP_c {p p' : Nat → Bool} : ∀ {n : Nat}, (∀ k, k < n → p k = p' k) → fstP p n = fstP p' n
  | 0, _ => rfl
  | n + 1, h => by
    have ih := fstP_c (fun k hk => h k (Nat.lt_succ_of_lt hk))
    simp only [fstP]
    rw [ih, h n (by omega)]
theorem othM_0 {f g : Nat → Int32} {w : Int32} : ∀ {n : Nat}, leadO f g w n = none → othM f g w none n = 0 ∧ ∀ k, k < n → ¬ f k = w
  | 0, _ => ⟨rfl, fun k hk => by omega⟩
  | n + 1, h => by
    simp only [leadO] at h
    cases e : leadO f g w n with
    | none =>
      rw [e] at h
      simp only at h
      by_cases hw : f n = w
      · rw [if_pos hw] at h; cases h
      · have ih := othM_0 e
        refine ⟨?_, fun k hk => ?_⟩
        · simp only [othM]
          rw [if_neg (fun q => hw q.1)]
          exact ih.1
        · by_cases hk2 : k = n
          · rw [hk2]; exact hw
          · exact ih.2 k (by omega)
    | some j =>
      rw [e] at h
      simp only at h
      split at h <;> cases h
theorem bLead_e {M : wMem} {v : Nat → Int32} (h : RV 6 M v) (w : Int32) : bLead M w = mLead v w := by
  unfold bLead mLead
  rw [bN_e h]
  exact leadO_c (fun k hk => ⟨(h.2.2.2.2.2.2 k hk).1, (h.2.2.2.2.2.2 k hk).2.2.2⟩)
theorem bWt_e {M : wMem} {v : Nat → Int32} (h : RV 6 M v) (w : Int32) : oV (bLead M w) (wI M 14) = mWt v w := by
  rw [bLead_e h]
  unfold mWt
  cases hl : mLead v w with
  | none => rfl
  | some j => exact (h.2.2.2.2.2.2 j (leadO_lt hl).1).2.2.2
theorem bLo_e {M : wMem} {v : Nat → Int32} (h : RV 6 M v) (w : Int32) : bLeadOf M w = mLo v w := by
  unfold bLeadOf mLo mWt
  rw [bLead_e h]
  cases hl : mLead v w with
  | none =>
    simp only [oV]
    rw [(othM_0 hl).1]
    rfl
  | some j =>
    simp only [oV]
    rw [show wI M 14 j = eW v j from (h.2.2.2.2.2.2 j (leadO_lt hl).1).2.2.2, bN_e h]
    congr 1
    exact othM_c (fun k hk => ⟨(h.2.2.2.2.2.2 k hk).1, (h.2.2.2.2.2.2 k hk).2.2.2⟩)
