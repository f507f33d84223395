/-! ===== a state's constructor: i solvers and j words there ===== -/
def stF (j : Nat) : Int32 := gRow 1000001 |>.getD j 0
def StN (B : Nat) (M N : wMem) (i j : Nat) : Prop :=
  (∀ q, q < B → wS N q = wS M q ∧ wI N q = wI M q ∧ wP N q = wP M q) ∧ wZ N = B + 9 + i + j
  ∧ (wS N B = some (5, 0) ∧ wP N B 0 = some (B + 1) ∧ wP N B 1 = some (B + 2) ∧ wP N B 2 = some (B + 3) ∧ wP N B 3 = some (B + 4))
  ∧ (wS N (B + 1) = some (10, 6) ∧ wS N (B + 2) = some (14, 6) ∧ wS N (B + 3) = some (15, 12))
  ∧ (wS N (B + 4) = some (0, 0) ∧ wP N (B + 4) 0 = some (B + 5) ∧ wP N (B + 4) 1 = some (B + 6) ∧ wP N (B + 4) 2 = some (B + 7) ∧ wP N (B + 4) 3 = some (B + 8) ∧ wS N (B + 5) = some (10, 170) ∧ wS N (B + 6) = some (10, 170) ∧ wS N (B + 7) = some (10, 170) ∧ wS N (B + 8) = some (10, 170))
  ∧ ((∀ l, l < 6 → wI N (B + 1) l = stF l) ∧ wI N B 4 = 0 ∧ wI N B 5 = 0 ∧ wI N B 6 = 0 ∧ wI N (B + 4) 4 = 0)
  ∧ (∀ l, l < i → (wP N (B + 2) l = some (B + 9 + l) ∧ wS N (B + 9 + l) = some (4, 0)) ∧ wI N (B + 9 + l) 0 = 50 ∧ wI N (B + 9 + l) 1 = 0 ∧ wI N (B + 9 + l) 2 = 0 ∧ wI N (B + 9 + l) 3 = 0)
  ∧ (∀ l, l < j → wP N (B + 3) l = some (B + 15 + l) ∧ wS N (B + 15 + l) = some (6, 0))
theorem StN_s {B : Nat} {M N : wMem} {i : Nat} (h : StN B M N i 0) (hi : i < 6) : StN B M (wSetP (wSetI (wNew N 4 0 (fun _ => 0)) (wZ N) 0 50) (B + 2) i (some (wZ N))) (i + 1) 0 := by
  obtain ⟨h0, hz, ⟨a1, a2, a3, a4, a5⟩, ⟨b1, b2, b3⟩, ⟨d1, d2, d3, d4, d5, d6, d7, d8, d9⟩, ⟨e1, e2, e3, e4, e5⟩, hs, hw⟩ := h
  have fS : ∀ q, q ≠ B + 9 + i → wS (wSetP (wSetI (wNew N 4 0 (fun _ => 0)) (wZ N) 0 50) (B + 2) i (some (wZ N))) q = wS N q := fun q hq => by rw [sp_S, nS_f, nw_S, hz]; exact if_neg (by omega)
  have fI : ∀ q, q ≠ B + 9 + i → wI (wSetP (wSetI (wNew N 4 0 (fun _ => 0)) (wZ N) 0 50) (B + 2) i (some (wZ N))) q = wI N q := fun q hq => by rw [sp_I, nI_o _ _ _ _ (by omega), nw_I, hz]; exact if_neg (by omega)
  have fP : ∀ q, q ≠ B + 9 + i → q ≠ B + 2 → wP (wSetP (wSetI (wNew N 4 0 (fun _ => 0)) (wZ N) 0 50) (B + 2) i (some (wZ N))) q = wP N q := fun q hq h2 => by funext l; rw [sp_P, if_neg (fun r => h2 r.1), nP_f, nw_P, hz]; exact congrFun (if_neg (by omega)) l
  have gS : wS (wSetP (wSetI (wNew N 4 0 (fun _ => 0)) (wZ N) 0 50) (B + 2) i (some (wZ N))) (B + 9 + i) = some (4, 0) := by rw [sp_S, nS_f, nw_S, hz]; exact if_pos (by omega)
  have gI : ∀ l, wI (wSetP (wSetI (wNew N 4 0 (fun _ => 0)) (wZ N) 0 50) (B + 2) i (some (wZ N))) (B + 9 + i) l = if l = 0 then 50 else 0 := fun l => by
    rw [sp_I, nI_s, hz, nw_I, hz]
    by_cases hl : l = 0
    · rw [if_pos ⟨by omega, hl⟩, if_pos hl]
    · rw [if_neg (fun r => hl r.2), if_neg hl]
      exact congrFun (if_pos (by omega)) l
  have gP : ∀ l, wP (wSetP (wSetI (wNew N 4 0 (fun _ => 0)) (wZ N) 0 50) (B + 2) i (some (wZ N))) (B + 2) l = if l = i then some (B + 9 + i) else wP N (B + 2) l := fun l => by
    rw [sp_P, nP_f, nw_P, hz]
    by_cases hl : l = i
    · rw [if_pos ⟨rfl, hl⟩, if_pos hl]; simp
    · rw [if_neg (fun r => hl r.2), if_neg hl]; exact congrFun (if_neg (by omega)) l
  have gZ : wZ (wSetP (wSetI (wNew N 4 0 (fun _ => 0)) (wZ N) 0 50) (B + 2) i (some (wZ N))) = B + 9 + (i + 1) + 0 := by rw [sp_Z, wZ_setI, nw_Z, hz]; omega
  generalize wSetP (wSetI (wNew N 4 0 (fun _ => 0)) (wZ N) 0 50) (B + 2) i (some (wZ N)) = P at *
  refine ⟨fun q hq => ?_, gZ, ?_, ?_, ?_, ?_, fun l hl => ?_, fun l hl => by omega⟩
  · rw [fS _ (by omega), fI _ (by omega), fP _ (by omega) (by omega)]; exact h0 q hq
  · rw [fS _ (by omega), fP _ (by omega) (by omega)]; exact ⟨a1, a2, a3, a4, a5⟩
  · rw [fS _ (by omega), fS _ (by omega), fS _ (by omega)]; exact ⟨b1, b2, b3⟩
  · rw [fS _ (by omega), fS _ (by omega), fS _ (by omega), fS _ (by omega), fS _ (by omega), fP _ (by omega) (by omega)]; exact ⟨d1, d2, d3, d4, d5, d6, d7, d8, d9⟩
  · rw [fI _ (by omega), fI _ (by omega), fI _ (by omega)]; exact ⟨e1, e2, e3, e4, e5⟩
  · rw [gP]
    by_cases hli : l = i
    · subst hli
      rw [if_pos rfl, gS, gI, gI, gI, gI]
      exact ⟨⟨rfl, rfl⟩, rfl, rfl, rfl, rfl⟩
    · rw [if_neg hli, fS _ (by omega), fI _ (by omega)]
      exact hs l (by omega)
theorem StN_w {B : Nat} {M N : wMem} {j : Nat} (h : StN B M N 6 j) (hj : j < 12) : StN B M (wSetP (wNew N 6 0 (fun _ => 0)) (B + 3) j (some (wZ N))) 6 (j + 1) := by
  obtain ⟨h0, hz, ⟨a1, a2, a3, a4, a5⟩, ⟨b1, b2, b3⟩, ⟨d1, d2, d3, d4, d5, d6, d7, d8, d9⟩, ⟨e1, e2, e3, e4, e5⟩, hs, hw⟩ := h
  have fS : ∀ q, q ≠ B + 15 + j → wS (wSetP (wNew N 6 0 (fun _ => 0)) (B + 3) j (some (wZ N))) q = wS N q := fun q hq => by rw [sp_S, nw_S, hz]; exact if_neg (by omega)
  have fI : ∀ q, q ≠ B + 15 + j → wI (wSetP (wNew N 6 0 (fun _ => 0)) (B + 3) j (some (wZ N))) q = wI N q := fun q hq => by rw [sp_I, nw_I, hz]; exact if_neg (by omega)
  have fP : ∀ q, q ≠ B + 15 + j → q ≠ B + 3 → wP (wSetP (wNew N 6 0 (fun _ => 0)) (B + 3) j (some (wZ N))) q = wP N q := fun q hq h2 => by funext l; rw [sp_P, if_neg (fun r => h2 r.1), nw_P, hz]; exact congrFun (if_neg (by omega)) l
  have gS : wS (wSetP (wNew N 6 0 (fun _ => 0)) (B + 3) j (some (wZ N))) (B + 15 + j) = some (6, 0) := by rw [sp_S, nw_S, hz]; exact if_pos (by omega)
  have gP : ∀ l, wP (wSetP (wNew N 6 0 (fun _ => 0)) (B + 3) j (some (wZ N))) (B + 3) l = if l = j then some (B + 15 + j) else wP N (B + 3) l := fun l => by
    rw [sp_P, nw_P, hz]
    by_cases hl : l = j
    · rw [if_pos ⟨rfl, hl⟩, if_pos hl]
    · rw [if_neg (fun r => hl r.2), if_neg hl]; exact congrFun (if_neg (by omega)) l
  have gZ : wZ (wSetP (wNew N 6 0 (fun _ => 0)) (B + 3) j (some (wZ N))) = B + 9 + 6 + (j + 1) := by rw [sp_Z, nw_Z, hz]; omega
  generalize wSetP (wNew N 6 0 (fun _ => 0)) (B + 3) j (some (wZ N)) = P at *
  refine ⟨fun q hq => ?_, gZ, ?_, ?_, ?_, ?_, fun l hl => ?_, fun l hl => ?_⟩
  · rw [fS _ (by omega), fI _ (by omega), fP _ (by omega) (by omega)]; exact h0 q hq
  · rw [fS _ (by omega), fP _ (by omega) (by omega)]; exact ⟨a1, a2, a3, a4, a5⟩
  · rw [fS _ (by omega), fS _ (by omega), fS _ (by omega)]; exact ⟨b1, b2, b3⟩
  · rw [fS _ (by omega), fS _ (by omega), fS _ (by omega), fS _ (by omega), fS _ (by omega), fP _ (by omega) (by omega)]; exact ⟨d1, d2, d3, d4, d5, d6, d7, d8, d9⟩
  · rw [fI _ (by omega), fI _ (by omega), fI _ (by omega)]; exact ⟨e1, e2, e3, e4, e5⟩
  · rw [fP _ (by omega) (by omega), fS _ (by omega), fI _ (by omega)]; exact hs l hl
  · rw [gP]
    by_cases hlj : l = j
    · subst hlj
      rw [if_pos rfl, gS]
      exact ⟨rfl, rfl⟩
    · rw [if_neg hlj, fS _ (by omega)]
      exact hw l (by omega)
/-- the first row -/
def row0 : Nat → Int32 := fun j => if j < 6 then stF j else if 12 ≤ j ∧ j < 36 ∧ j % 4 = 0 then 50 else 0
theorem StN_end {B : Nat} {M N : wMem} (h : StN B M N 6 12) : SL B N ∧ RV B N row0 := by
  obtain ⟨h0, hz, a, b, d, ⟨e1, e2, e3, e4, e5⟩, hs, hw⟩ := h
  have n0 : nW row0 = 0 := by decide
  have n1 : sN row0 = 0 := by decide
  refine ⟨⟨a, b, d, fun i hi => (hs i hi).1, fun i hi => ⟨i, hi, hw i hi⟩, fun i j hi hj hij => ?_⟩, ⟨by rw [n0]; decide, by omega, by rw [n1]; decide, by omega⟩, fun i hi => ?_, ⟨by rw [e2]; decide, by rw [e3]; decide, by rw [e4]; decide⟩, fun i hi => ?_, fun i hi => by omega, by rw [e5]; decide, fun k hk => by omega⟩
  · rw [(hw i hi).1, (hw j hj).1] at hij
    have := Option.some.inj hij
    omega
  · rw [e1 i hi]
    unfold row0
    rw [if_pos hi]
  · obtain ⟨-, g0, g1, g2, g3⟩ := hs i hi
    unfold RVs row0
    rw [g0, g1, g2, g3, if_neg (by omega), if_pos (by omega), if_neg (by omega), if_neg (by omega), if_neg (by omega), if_neg (by omega), if_neg (by omega), if_neg (by omega)]
    exact ⟨rfl, rfl, rfl, rfl⟩
