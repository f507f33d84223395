theorem tk_ok {f : Nat → Int32} {L : Nat} {s : pS} {lo hi : Int32} (hlo : 0 < lo) (h : (tk f L s lo hi).2 = false) : s.2 = false ∧ s.1 < L ∧ inB (f s.1) lo hi = true ∧ tk f L s lo hi = (s.1 + 1, false) := by
  unfold tk at h ⊢
  split at h
  · next hc =>
    have hp : s.1 < L := by
      by_cases hp : s.1 < L
      · exact hp
      · have := hc.2
        simp only [tkC, if_neg hp] at this
        exact absurd hlo (i_nlt.mpr (of_decide_eq_true this).1)
    refine ⟨hc.1, hp, ?_, by rw [if_pos hc]⟩
    have := hc.2
    simpa only [tkC, if_pos hp] using this
  · cases h
theorem tk_bad {f : Nat → Int32} {L : Nat} {s : pS} {lo hi : Int32} (h : s.2 = true) : tk f L s lo hi = s := by
  unfold tk
  rw [if_neg (by simp [h])]
  obtain ⟨p, w⟩ := s
  simp only at h
  rw [h]
theorem nx_ok {f : Nat → Int32} {L : Nat} {s : pS} {lo hi : Int32} (h : nx f L s lo hi = true) : s.2 = false ∧ s.1 < L ∧ inB (f s.1) lo hi = true := by
  simp only [nx, Bool.and_eq_true, Bool.not_eq_true', decide_eq_true_eq] at h
  exact ⟨h.1.1, h.1.2, h.2⟩
theorem nx_bad {f : Nat → Int32} {L : Nat} {s : pS} {lo hi : Int32} (h : s.2 = true) : nx f L s lo hi = false := by simp [nx, h]
theorem tk_of {f : Nat → Int32} {L : Nat} {s : pS} {lo hi : Int32} (h : s.2 = false) (hp : s.1 < L) (hb : inB (f s.1) lo hi = true) : tk f L s lo hi = (s.1 + 1, false) := by
  unfold tk tkC
  rw [if_pos hp, if_pos ⟨h, hb⟩]
theorem tlL_keep {f : Nat → Int32} {L : Nat} : ∀ {n : Nat} {s : pS} {c : Int32}, (tlL f L n s c).1.2 = s.2
  | 0, s, c => rfl
  | n + 1, s, c => by
    simp only [tlL]
    split
    · next h =>
      have h := nx_ok h
      rw [tlL_keep, tk_of h.1 h.2.1 h.2.2, h.1]
    · rfl
theorem tl_ok {f : Nat → Int32} {L : Nat} {s : pS} (h : (tl f L s).1.2 = false) : (tk f L s 97 122).2 = false := by rw [tl, tlL_keep] at h; exact h
theorem tw_ok {f : Nat → Int32} {L : Nat} {s : pS} (h : (tw f L s).1.2 = false) : (tk f L s 48 57).2 = false := by
  unfold tw at h
  split at h
  · next hc => exact (tk_ok (by decide) h).1
  · exact h
theorem ts_ok {f : Nat → Int32} {L : Nat} {s : pS} (h : (ts f L s).1.2 = false) : (tk f L s 49 57).2 = false := by
  unfold ts at h
  split at h
  · next hc => exact (tk_ok (by decide) h).1
  · exact h
theorem rd_chain {f : Nat → Int32} {L : Nat} (h : (rdE f L).2 = false) : (rd11 f L).1.2 = false ∧ (rd10 f L).2 = false ∧ (rd9 f L).1.2 = false ∧ (rd8 f L).2 = false ∧ (rd7 f L).1.2 = false ∧ (rd6 f L).2 = false ∧ (rd5 f L).1.2 = false ∧ (rd4 f L).2 = false ∧ (rd3 f L).1.2 = false ∧ (rd2 f L).2 = false ∧ (rd1 f L).2 = false ∧ ¬ (rd11 f L).1.1 < L := by
  have h0 : (rd11 f L).1.2 = false ∧ ¬ (rd11 f L).1.1 < L := by
    simp only [rdE, Bool.or_eq_false_iff, decide_eq_false_iff_not] at h
    exact h
  have h10 : (rd10 f L).2 = false := (tk_ok (lo := 49) (by decide) (ts_ok h0.1)).1
  have h9 : (rd9 f L).1.2 = false := (tk_ok (lo := 64) (by decide) h10).1
  have h8 : (rd8 f L).2 = false := (tk_ok (lo := 97) (by decide) (tl_ok h9)).1
  have h7 : (rd7 f L).1.2 = false := (tk_ok (lo := 61) (by decide) h8).1
  have h6 : (rd6 f L).2 = false := (tk_ok (lo := 48) (by decide) (tw_ok h7)).1
  have h5 : (rd5 f L).1.2 = false := (tk_ok (lo := 43) (by decide) h6).1
  have h4 : (rd4 f L).2 = false := (tk_ok (lo := 97) (by decide) (tl_ok h5)).1
  have h3 : (rd3 f L).1.2 = false := (tk_ok (lo := 61) (by decide) h4).1
  have h2 : (rd2 f L).2 = false := (tk_ok (lo := 48) (by decide) (tw_ok h3)).1
  exact ⟨h0.1, h10, h9, h8, h7, h6, h5, h4, h3, h2, (tk_ok (lo := 58) (by decide) h2).1, h0.2⟩
theorem inB_d {x a : Int32} {n c : Nat} (ha : a = nI n) (hn : n + c < 2 ^ 31) (h : inB x a (nI (n + c)) = true) : ∃ k, k ≤ c ∧ x - a = nI k ∧ x = nI (n + k) := by
  have h := of_decide_eq_true h
  have h0 : ¬ x < 0 := fun q => i_nlt.mpr h.1 (Int32.lt_of_lt_of_le q (by rw [ha]; exact nI_pos' (by omega)))
  obtain ⟨k, hk, rfl⟩ := nI_of h0
  have h1 := h.1
  rw [ha] at h1
  have h1 := (nI_leI (by omega) hk).mp h1
  have h2 := (nI_leI hk hn).mp h.2
  exact ⟨k - n, by omega, by rw [ha]; exact pk_sub h1, by congr 1; omega⟩
theorem rd_sol {f : Nat → Int32} {L : Nat} (h : (rdE f L).2 = false) : isIx (tkC f L (0, false) - 48) 6 := by
  have h1 := tk_ok (f := f) (L := L) (s := (0, false)) (lo := 48) (hi := 53) (by decide) (rd_chain h).2.2.2.2.2.2.2.2.2.2.1
  obtain ⟨k, hk, e, -⟩ := inB_d (n := 48) (c := 5) rfl (by decide) h1.2.2.1
  have h2 : (0 : Nat) < L := h1.2.1
  have e2 : tkC f L (0, false) = f 0 := by simp [tkC, h2]
  rw [e2, show f 0 - 48 = nI k from e]
  exact of_eq_true (isIx_t (by omega) (by decide))
def aM2 (M : wMem) : wMem := wSetI (recM (rdM M)) 252 6 0
def aTo (M : wMem) : Nat → Int32 := rdT (wI M 257) (lenM M) (wI M 258)
def aOk (v t : Nat → Int32) : Bool := decide ((v (36 + 6 * (t 1).toNatClampNeg) = 0 ∨ v (36 + 6 * (t 1).toNatClampNeg) = 2) ∧ v (36 + 6 * (t 3).toNatClampNeg) = 1)
def qAnswer (M : wMem) : Int32 :=
  if (rdE (wI M 257) (lenM M)).2 = true then -3
  else if isW (wI M 253) (aTo M 1) = true ∧ isW (wI M 253) (aTo M 3) = true then
    (if aOk (wI M 253) (aTo M) = true then anM (aM2 M) (36 + 6 * (wI (aM2 M) 258 3).toNatClampNeg) else -5)
  else -1
def aDo (M : wMem) : Bool := decide ((rdE (wI M 257) (lenM M)).2 = false ∧ isW (wI M 253) (aTo M 1) = true ∧ isW (wI M 253) (aTo M 3) = true ∧ aOk (wI M 253) (aTo M) = true)
theorem rdM_S (M : wMem) : wS (rdM M) = wS M := rfl
theorem rdM_P (M : wMem) : wP (rdM M) = wP M := rfl
theorem rdM_8 (M : wMem) : wI (rdM M) 252 8 = b2i ((rdE (wI M 257) (lenM M)).2 = true) := m2_i8 _ _ _
theorem rdM_2 (M : wMem) : wI (rdM M) 252 2 = wI M 252 2 := by
  unfold rdM mem2 setP
  rw [wF_I, if_neg (by decide), wF_I, if_pos rfl, up1_ne _ _ _ (by decide), up1_ne _ _ _ (by decide)]
theorem rdM_t (M : wMem) : wI (rdM M) 258 = aTo M := m2_t _ _ _
theorem rdM_s (M : wMem) : wI (rdM M) 253 = wI M 253 := m2_o _ _ _ (by decide) (by decide)
theorem rec_S (M : wMem) : wS (recM M) = wS M := rfl
theorem rec_P (M : wMem) : wP (recM M) = wP M := rfl
theorem rec_o (M : wMem) {q : Nat} (h1 : q ≠ 252) (h2 : q ≠ 254) : wI (recM M) q = wI M q := by unfold recM; rw [wF_I, if_neg h2, wF_I, if_neg h1]
theorem aM2_e (M : wMem) : wSetI (recM (rdM M)) 252 6 0 = aM2 M := rfl
theorem aM2_S (M : wMem) : wS (aM2 M) = wS M := rfl
theorem aM2_P (M : wMem) : wP (aM2 M) = wP M := rfl
theorem aM2_s (M : wMem) : wI (aM2 M) 253 = wI M 253 := by unfold aM2; rw [wSetI_F, wF_I, if_neg (by decide), rec_o _ (by decide) (by decide), rdM_s]
theorem aM2_t (M : wMem) : wI (aM2 M) 258 = aTo M := by unfold aM2; rw [wSetI_F, wF_I, if_neg (by decide), rec_o _ (by decide) (by decide), rdM_t]