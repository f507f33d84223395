def mem2 (M : wMem) (s : pS) (t : Nat → Int32) : wMem := wSetF (setP M s) 258 t
theorem m2_S (M : wMem) (s : pS) (t : Nat → Int32) : wS (mem2 M s t) = wS M := rfl
theorem m2_P (M : wMem) (s : pS) (t : Nat → Int32) : wP (mem2 M s t) = wP M := rfl
theorem m2_told (M : wMem) (s : pS) (t : Nat → Int32) (i : Nat) (x : Int32) : wSetI (mem2 M s t) 258 i x = mem2 M s (up1 t i x) := by
  unfold mem2
  rw [wSetI_F, wF_I, if_pos rfl, wF_F]
theorem m2_set (M : wMem) (s s' : pS) (t : Nat → Int32) : setP (mem2 M s t) s' = mem2 M s' t := by
  have e : wI (mem2 M s t) 252 = wI (setP M s) 252 := by unfold mem2; rw [wF_I, if_neg (by decide)]
  rw [setP, e]
  unfold mem2
  rw [wF_C _ 258 252 _ _ (by decide)]
  congr 1
  exact set_set (M := M) (s := s) (s' := s')
theorem m2_pad (M : wMem) (s : pS) (t : Nat → Int32) : wI (mem2 M s t) 257 = wI M 257 := by
  unfold mem2
  rw [wF_I, if_neg (by decide), pad_set]
theorem m2_len (M : wMem) (s : pS) (t : Nat → Int32) : lenM (mem2 M s t) = lenM M := by
  have e : wI (mem2 M s t) 252 = wI (setP M s) 252 := by unfold mem2; rw [wF_I, if_neg (by decide)]
  unfold lenM
  rw [e]
  exact lenM_set
theorem m2_st (M : wMem) (s : pS) (t : Nat → Int32) (h : s.1 ≤ 60) : stOf (mem2 M s t) = s := by
  have e : wI (mem2 M s t) 252 = wI (setP M s) 252 := by unfold mem2; rw [wF_I, if_neg (by decide)]
  have := stOf_set (M := M) h
  unfold stOf at *
  rw [e]
  exact this
theorem m2_0 (M : wMem) : wSetI (wSetI M 252 7 0) 252 8 0 = mem2 M (0, false) (wI M 258) := by
  have e : wI (setP M (0, false)) 258 = wI M 258 := by unfold setP; rw [wF_I, if_neg (by decide)]
  rw [mem2, ← e, wF_id, wSetI_F, wSetI_F, wF_I, if_pos rfl, wF_F, setP]
  congr 1
  funext j
  simp only [up1, Bool.false_eq_true, b2i_F]
  repeat' split
  all_goals first | rfl | omega
theorem m2_i7 (M : wMem) (s : pS) (t : Nat → Int32) : wI (mem2 M s t) 252 7 = nI s.1 := by
  unfold mem2 setP
  rw [wF_I, if_neg (by decide), wF_I, if_pos rfl, up1_eq]
theorem m2_i8 (M : wMem) (s : pS) (t : Nat → Int32) : wI (mem2 M s t) 252 8 = b2i (s.2 = true) := by
  unfold mem2 setP
  rw [wF_I, if_neg (by decide), wF_I, if_pos rfl, up1_ne _ _ _ (by decide), up1_eq]
theorem m2_i6 (M : wMem) (s : pS) (t : Nat → Int32) : wI (mem2 M s t) 252 6 = wI M 252 6 := by
  unfold mem2 setP
  rw [wF_I, if_neg (by decide), wF_I, if_pos rfl, up1_ne _ _ _ (by decide), up1_ne _ _ _ (by decide)]
theorem m2_w (M : wMem) (s : pS) (t : Nat → Int32) (b : Bool) (x : Int32) (hx : x = b2i (b = true)) : wSetI (mem2 M s t) 252 8 x = mem2 M (s.1, b) t := by
  have e : mem2 M (s.1, b) t = setP (mem2 M s t) (s.1, b) := (m2_set M s (s.1, b) t).symm
  rw [e, setP, wSetI_F]
  congr 1
  funext j
  simp only [up1, hx]
  by_cases h7 : j = 7
  · subst h7
    simp [m2_i7]
  · simp [h7]
theorem m2_w1 (M : wMem) (s : pS) (t : Nat → Int32) : wSetI (mem2 M s t) 252 8 1 = mem2 M (s.1, true) t := m2_w M s t true 1 rfl
theorem m2_w0 (M : wMem) (s : pS) (t : Nat → Int32) : wSetI (mem2 M s t) 252 8 0 = mem2 M (s.1, false) t := m2_w M s t false 0 rfl
theorem m2_TG (M : wMem) (s : pS) (t : Nat → Int32) (hL : MLay M) (h6 : wI M 252 6 = nI (lenM M)) (h6b : lenM M ≤ 60) (h : s.1 ≤ 60) : TG (mem2 M s t) := by
  refine ⟨hL, ?_, ?_, ?_, ?_, ?_⟩
  · rw [m2_st _ _ _ h, m2_i7]
  · rw [m2_st _ _ _ h]; exact h
  · rw [m2_st _ _ _ h, m2_i8]
  · rw [m2_len, m2_i6]; exact h6
  · rw [m2_len]; exact h6b
def rd1 (f : Nat → Int32) (L : Nat) : pS := tk f L (0, false) 48 53
def rd2 (f : Nat → Int32) (L : Nat) : pS := tk f L (rd1 f L) 58 58
def rd3 (f : Nat → Int32) (L : Nat) : pS × Int32 := tw f L (rd2 f L)
def rd4 (f : Nat → Int32) (L : Nat) : pS := tk f L (rd3 f L).1 61 61
def rd5 (f : Nat → Int32) (L : Nat) : pS × Int32 := tl f L (rd4 f L)
def rd6 (f : Nat → Int32) (L : Nat) : pS := tk f L (rd5 f L).1 43 43
def rd7 (f : Nat → Int32) (L : Nat) : pS × Int32 := tw f L (rd6 f L)
def rd8 (f : Nat → Int32) (L : Nat) : pS := tk f L (rd7 f L).1 61 61
def rd9 (f : Nat → Int32) (L : Nat) : pS × Int32 := tl f L (rd8 f L)
def rd10 (f : Nat → Int32) (L : Nat) : pS := tk f L (rd9 f L).1 64 64
def rd11 (f : Nat → Int32) (L : Nat) : pS × Int32 := ts f L (rd10 f L)
def rdE (f : Nat → Int32) (L : Nat) : pS := ((rd11 f L).1.1, (rd11 f L).1.2 || decide ((rd11 f L).1.1 < L))
def rdT (f : Nat → Int32) (L : Nat) (t : Nat → Int32) : Nat → Int32 :=
  up1 (up1 (up1 (up1 (up1 (up1 t 0 (tkC f L (0, false) - 48)) 1 (rd3 f L).2) 2 (rd5 f L).2) 3 (rd7 f L).2) 4 (rd9 f L).2) 5 (rd11 f L).2
theorem rd1_e (f : Nat → Int32) (L : Nat) : tk f L (0, false) 48 53 = rd1 f L := rfl
theorem rd2_e (f : Nat → Int32) (L : Nat) : tk f L (rd1 f L) 58 58 = rd2 f L := rfl
theorem rd3_e (f : Nat → Int32) (L : Nat) : tw f L (rd2 f L) = rd3 f L := rfl
theorem rd4_e (f : Nat → Int32) (L : Nat) : tk f L (rd3 f L).1 61 61 = rd4 f L := rfl
theorem rd5_e (f : Nat → Int32) (L : Nat) : tl f L (rd4 f L) = rd5 f L := rfl
theorem rd6_e (f : Nat → Int32) (L : Nat) : tk f L (rd5 f L).1 43 43 = rd6 f L := rfl
theorem rd7_e (f : Nat → Int32) (L : Nat) : tw f L (rd6 f L) = rd7 f L := rfl
theorem rd8_e (f : Nat → Int32) (L : Nat) : tk f L (rd7 f L).1 61 61 = rd8 f L := rfl
theorem rd9_e (f : Nat → Int32) (L : Nat) : tl f L (rd8 f L) = rd9 f L := rfl
theorem rd10_e (f : Nat → Int32) (L : Nat) : tk f L (rd9 f L).1 64 64 = rd10 f L := rfl
theorem rd11_e (f : Nat → Int32) (L : Nat) : ts f L (rd10 f L) = rd11 f L := rfl
def rdM (M : wMem) : wMem := mem2 M (rdE (wI M 257) (lenM M)) (rdT (wI M 257) (lenM M) (wI M 258))
def PG (M : wMem) : Prop := MLay M ∧ wI M 252 6 = nI (lenM M) ∧ lenM M ≤ 60