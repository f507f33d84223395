/-! an answer that can be read has eleven characters at least -/
theorem tk_ge (f : Nat → Int32) (L : Nat) (s : pS) (lo hi : Int32) : s.1 ≤ (tk f L s lo hi).1 := by
  unfold tk
  split
  · exact Nat.le_succ _
  · exact Nat.le_refl _
theorem tlL_ge (f : Nat → Int32) (L : Nat) : ∀ (n : Nat) (s : pS) (c : Int32), s.1 ≤ (tlL f L n s c).1.1
  | 0, s, c => Nat.le_refl _
  | n + 1, s, c => by
    simp only [tlL]
    split
    · exact Nat.le_trans (tk_ge _ _ _ _ _) (tlL_ge f L n _ _)
    · exact Nat.le_refl _
theorem tl_ge {f : Nat → Int32} {L : Nat} {s : pS} (h : (tl f L s).1.2 = false) : s.1 + 1 ≤ (tl f L s).1.1 := by
  have h1 := (tk_ok (lo := 97) (by decide) (tl_ok h)).2.2.2
  have h2 := tlL_ge f L 5 (tk f L s 97 122) (1 + (tkC f L s - 97))
  rw [h1] at h2
  unfold tl
  rw [h1]
  exact h2
theorem tw_ge {f : Nat → Int32} {L : Nat} {s : pS} (h : (tw f L s).1.2 = false) : s.1 + 1 ≤ (tw f L s).1.1 := by
  have h1 := (tk_ok (lo := 48) (by decide) (tw_ok h)).2.2.2
  unfold tw
  rw [h1]
  split
  · exact tk_ge f L (s.1 + 1, false) 48 49
  · exact Nat.le_refl _
theorem rd_len {f : Nat → Int32} {L : Nat} (h : (rdE f L).2 = false) : 11 ≤ L := by
  obtain ⟨e11, e10, e9, e8, e7, e6, e5, e4, e3, e2, e1, -⟩ := rd_chain h
  have a1 : (rd1 f L).1 = 0 + 1 := congrArg Prod.fst (tk_ok (lo := 48) (by decide) e1).2.2.2
  have a2 : (rd2 f L).1 = (rd1 f L).1 + 1 := congrArg Prod.fst (tk_ok (lo := 58) (by decide) e2).2.2.2
  have a3 : (rd2 f L).1 + 1 ≤ (rd3 f L).1.1 := tw_ge e3
  have a4 : (rd4 f L).1 = (rd3 f L).1.1 + 1 := congrArg Prod.fst (tk_ok (lo := 61) (by decide) e4).2.2.2
  have a5 : (rd4 f L).1 + 1 ≤ (rd5 f L).1.1 := tl_ge e5
  have a6 : (rd6 f L).1 = (rd5 f L).1.1 + 1 := congrArg Prod.fst (tk_ok (lo := 43) (by decide) e6).2.2.2
  have a7 : (rd6 f L).1 + 1 ≤ (rd7 f L).1.1 := tw_ge e7
  have a8 : (rd8 f L).1 = (rd7 f L).1.1 + 1 := congrArg Prod.fst (tk_ok (lo := 61) (by decide) e8).2.2.2
  have a9 : (rd8 f L).1 + 1 ≤ (rd9 f L).1.1 := tl_ge e9
  have a10 : (rd10 f L).1 = (rd9 f L).1.1 + 1 := congrArg Prod.fst (tk_ok (lo := 64) (by decide) e10).2.2.2
  have a11 : (rd10 f L).1 < L := (tk_ok (lo := 49) (by decide) (ts_ok e11)).2.1
  omega
theorem IV_ans {T : Nat} {v t : Nat → Int32} (h : IV T v) (hc : cntOk v) (h0 : isIx (t 0) 6) (h1 : isW v (t 1) = true) (h3 : isW v (t 3) = true) (h4 : ¬ t 4 = 0) (hT : 3 * sN v + 2 ≤ T) (hT2 : T ≤ 511) : IV (T + 1) (aRow v t) := by
  have h12 := hc.2.1
  obtain ⟨a, ha, ta⟩ := isW_k hc.1 h12 h1
  obtain ⟨b, hb, tb⟩ := isW_k hc.1 h12 h3
  obtain ⟨s, hs, ts'⟩ := isIx_k h0
  unfold aRow
  rw [ta, tb, ts', nI_clamp (show a < 2 ^ 31 by omega), nI_clamp (show b < 2 ^ 31 by omega), nI_clamp (show s < 2 ^ 31 by omega)]
  unfold anV
  split
  · exact (IV_anR h hc hs hb h4 hT hT2).1
  · exact IV_mono (IV_anW h hc hs (by omega)) (by omega)
