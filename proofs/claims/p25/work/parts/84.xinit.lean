/-! ===== the class' constructor: what there is so far ===== -/
def AGb (b : Nat) (N P : wMem) : Prop := ∀ q, q < b → wS P q = wS N q ∧ wI P q = wI N q ∧ wP P q = wP N q
theorem SL_lo {B : Nat} {M M' : wMem} (h : SL B M) (hs : ∀ a, B ≤ a → a < B + 27 → wS M' a = wS M a) (hp : ∀ a, B ≤ a → a < B + 27 → wP M' a = wP M a) : SL B M' := by
  obtain ⟨a, b, d, e, f, g⟩ := h
  refine ⟨?_, ?_, ?_, fun i hi => ?_, fun i hi => ?_, fun i j hi hj => ?_⟩
  · rw [hs _ (by omega) (by omega), hp _ (by omega) (by omega)]; exact a
  · rw [hs _ (by omega) (by omega), hs _ (by omega) (by omega), hs _ (by omega) (by omega)]; exact b
  · rw [hs _ (by omega) (by omega), hs _ (by omega) (by omega), hs _ (by omega) (by omega), hs _ (by omega) (by omega), hs _ (by omega) (by omega), hp _ (by omega) (by omega)]; exact d
  · rw [hs _ (by omega) (by omega), hp _ (by omega) (by omega)]; exact e i hi
  · obtain ⟨r, hr, e1, e2⟩ := f i hi
    exact ⟨r, hr, by rw [hp _ (by omega) (by omega)]; exact e1, by rw [hs _ (by omega) (by omega)]; exact e2⟩
  · rw [hp _ (by omega) (by omega)]; exact g i j hi hj
/-- one more state behind all there is -/
theorem st_app {B : Nat} {N P : wMem} (hz : wZ N = B) (h : StN B (wNew N 5 0 (fun _ => 0)) P 6 12) : SL B P ∧ RV B P row0 ∧ wZ P = B + 27 ∧ AGb B N P := by
  obtain ⟨h1, h2⟩ := StN_end h
  refine ⟨h1, h2, h.2.1, fun q hq => ?_⟩
  obtain ⟨g1, g2, g3⟩ := h.1 q hq
  rw [g1, g2, g3, nw_S1, nw_I1, nw_P, if_neg (by omega), if_neg (by omega)]
  refine ⟨rfl, rfl, ?_⟩
  show (if q = wZ N then fun _ => none else wP N q) = _
  rw [if_neg (by omega)]
def XB (N : wMem) : Prop :=
  (wS N 0 = some (7, 0) ∧ wP N 0 0 = some 2 ∧ wP N 0 1 = some 1 ∧ wP N 0 2 = some 6 ∧ wI N 0 4 = 0)
  ∧ (wS N 2 = some (1, 0) ∧ wP N 2 0 = some 3 ∧ wS N 3 = some (12, 60) ∧ wI N 2 1 = 0 ∧ wI N 3 = fun _ => 0)
  ∧ (wS N 1 = some (3, 0) ∧ wP N 1 0 = some 2 ∧ wP N 1 4 = some 4 ∧ wP N 1 5 = some 5 ∧ wS N 4 = some (2, 0) ∧ wS N 5 = some (2, 0))
  ∧ SL 6 N ∧ RV 6 N row0
theorem XB_of {N P : wMem} (h : XB N) (hs : ∀ q, q < 33 → wS P q = wS N q) (hi : ∀ q, q < 33 → wI P q = wI N q) (hp : ∀ q, 0 < q → q < 33 → wP P q = wP N q) (h0 : ∀ j, j < 3 → wP P 0 j = wP N 0 j) : XB P := by
  obtain ⟨a, b, d, e, f⟩ := h
  refine ⟨?_, ?_, ?_, SL_lo e (fun q _ _ => hs q (by omega)) (fun q _ _ => hp q (by omega) (by omega)), RV_of e f (fun q _ _ => hp q (by omega) (by omega)) (fun q _ _ => hi q (by omega))⟩
  · rw [hs _ (by omega), h0 _ (by omega), h0 _ (by omega), h0 _ (by omega), hi _ (by omega)]; exact a
  · rw [hs _ (by omega), hs _ (by omega), hp _ (by omega) (by omega), hi _ (by omega), hi _ (by omega)]; exact b
  · rw [hs _ (by omega), hs _ (by omega), hs _ (by omega), hp _ (by omega) (by omega)]; exact d
def XH (N : wMem) (i : Nat) : Prop := XB N ∧ wP N 0 3 = some 33 ∧ wS N 33 = some (13, 6) ∧ ∀ l, l < i → wP N 33 l = some (34 + 27 * l) ∧ SL (34 + 27 * l) N
theorem XH_of {N P : wMem} {i : Nat} (h : XH N i) {b : Nat} (hb : 34 + 27 * i ≤ b) (hs : ∀ q, q < b → wS P q = wS N q) (hi : ∀ q, q < b → wI P q = wI N q) (hp : ∀ q, 0 < q → q ≠ 33 → q < b → wP P q = wP N q) (h0 : ∀ j, j < 4 → wP P 0 j = wP N 0 j) (h33 : ∀ j, j < i → wP P 33 j = wP N 33 j) : XH P i := by
  obtain ⟨a, c, d, e⟩ := h
  refine ⟨XB_of a (fun q hq => hs q (by omega)) (fun q hq => hi q (by omega)) (fun q h1 h2 => hp q h1 (by omega) (by omega)) (fun j hj => h0 j (by omega)), by rw [h0 _ (by omega)]; exact c, by rw [hs _ (by omega)]; exact d, fun l hl => ?_⟩
  obtain ⟨e1, e2⟩ := e l hl
  exact ⟨by rw [h33 l hl]; exact e1, SL_lo e2 (fun q _ _ => hs q (by omega)) (fun q _ _ => hp q (by omega) (by omega) (by omega))⟩
theorem XH_s {N P : wMem} {i : Nat} (h : XH N i) (hz : wZ N = 34 + 27 * i) (hP : StN (34 + 27 * i) (wNew N 5 0 (fun _ => 0)) P 6 12) : XH (wSetP P 33 i (some (34 + 27 * i))) (i + 1) ∧ wZ (wSetP P 33 i (some (34 + 27 * i))) = 34 + 27 * (i + 1) := by
  obtain ⟨s1, s2, s3, s4⟩ := st_app hz hP
  have pp : ∀ q, q ≠ 33 → wP (wSetP P 33 i (some (34 + 27 * i))) q = wP P q := fun q hq => by funext j; rw [sp_P, if_neg (fun r => hq r.1)]
  have key : XH (wSetP P 33 i (some (34 + 27 * i))) i := by
    refine XH_of h (Nat.le_refl _) (fun q hq => by rw [sp_S]; exact (s4 q hq).1) (fun q hq => by rw [sp_I]; exact (s4 q hq).2.1) (fun q h1 h2 h3 => by rw [pp q h2]; exact (s4 q h3).2.2) (fun j hj => by rw [pp 0 (by omega), (s4 0 (by omega)).2.2]) (fun j hj => ?_)
    rw [sp_P, if_neg (by omega), (s4 33 (by omega)).2.2]
  obtain ⟨a, c, d, e⟩ := key
  refine ⟨⟨a, c, d, fun l hl => ?_⟩, by rw [sp_Z, s3]; omega⟩
  by_cases hli : l = i
  · subst hli
    exact ⟨by rw [sp_P, if_pos ⟨rfl, rfl⟩], SL_lo s1 (fun q _ _ => by rw [sp_S]) (fun q _ _ => pp q (by omega))⟩
  · exact e l (by omega)
def XS (N : wMem) (j : Nat) : Prop := XH N 6 ∧ wP N 0 5 = some 196 ∧ wS N 196 = some (13, 2) ∧ ∀ l, l < j → wP N 196 l = some (197 + 27 * l) ∧ SL (197 + 27 * l) N
theorem XS_s {N P : wMem} {j : Nat} (h : XS N j) (hz : wZ N = 197 + 27 * j) (hP : StN (197 + 27 * j) (wNew N 5 0 (fun _ => 0)) P 6 12) : XS (wSetP P 196 j (some (197 + 27 * j))) (j + 1) ∧ wZ (wSetP P 196 j (some (197 + 27 * j))) = 197 + 27 * (j + 1) := by
  obtain ⟨s1, s2, s3, s4⟩ := st_app hz hP
  have pp : ∀ q, q ≠ 196 → wP (wSetP P 196 j (some (197 + 27 * j))) q = wP P q := fun q hq => by funext l; rw [sp_P, if_neg (fun r => hq r.1)]
  obtain ⟨a, c, d, e⟩ := h
  have key : XH (wSetP P 196 j (some (197 + 27 * j))) 6 := by
    refine XH_of a (b := 196) (by omega) (fun q hq => by rw [sp_S]; exact (s4 q (by omega)).1) (fun q hq => by rw [sp_I]; exact (s4 q (by omega)).2.1) (fun q h1 h2 h3 => by rw [pp q (by omega)]; exact (s4 q (by omega)).2.2) (fun l hl => by rw [pp 0 (by omega), (s4 0 (by omega)).2.2]) (fun l hl => by rw [pp 33 (by omega), (s4 33 (by omega)).2.2])
  refine ⟨⟨key, by rw [pp 0 (by omega), (s4 0 (by omega)).2.2]; exact c, by rw [sp_S, (s4 196 (by omega)).1]; exact d, fun l hl => ?_⟩, by rw [sp_Z, s3]; omega⟩
  by_cases hlj : l = j
  · subst hlj
    exact ⟨by rw [sp_P, if_pos ⟨rfl, rfl⟩], SL_lo s1 (fun q _ _ => by rw [sp_S]) (fun q _ _ => pp q (by omega))⟩
  · obtain ⟨e1, e2⟩ := e l (by omega)
    exact ⟨by rw [sp_P, if_neg (fun r => hlj r.2), (s4 196 (by omega)).2.2]; exact e1, SL_lo e2 (fun q _ _ => by rw [sp_S]; exact (s4 q (by omega)).1) (fun q _ _ => by rw [pp q (by omega)]; exact (s4 q (by omega)).2.2)⟩
