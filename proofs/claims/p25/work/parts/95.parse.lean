/-! ===== what is typed is read ===== -/
def dig (n : Nat) : List Nat := if 9 < n then [48 + n / 10, 48 + n % 10] else [48 + n]
theorem dig_1 {n : Nat} (h : n ≤ 9) : dig n = [48 + n] := by unfold dig; rw [if_neg (by omega)]
theorem dig_2 {n : Nat} (h : 9 < n) (h2 : n ≤ 19) : dig n = [49, 48 + (n - 10)] := by
  unfold dig
  rw [if_pos h, show n / 10 = 1 by omega, show n % 10 = n - 10 by omega]
/-- from p on the text is ys, to its end -/
def VW (f : Nat → Int32) (L p : Nat) (ys : List Nat) : Prop := p + ys.length = L ∧ ∀ i c, ys[i]? = some c → f (p + i) = nI c ∧ c < 200
theorem VW_h {f : Nat → Int32} {L p c : Nat} {ys : List Nat} (h : VW f L p (c :: ys)) : p < L ∧ f p = nI c ∧ c < 200 ∧ VW f L (p + 1) ys := by
  obtain ⟨h1, h2⟩ := h
  simp only [List.length_cons] at h1
  obtain ⟨g1, g2⟩ := h2 0 c rfl
  refine ⟨by omega, g1, g2, by omega, fun i d hd => ?_⟩
  have := h2 (i + 1) d hd
  rw [show p + 1 + i = p + (i + 1) by omega]
  exact this
theorem VW_n {f : Nat → Int32} {L p : Nat} (h : VW f L p []) : p = L := h.1
theorem inB_n {c a b : Nat} (hc : c < 200) (ha : a < 200) (hb : b < 200) : inB (nI c) (nI a) (nI b) = decide (a ≤ c ∧ c ≤ b) := by
  unfold inB
  rw [decide_eq_decide, nI_leI (by omega) (by omega), nI_leI (by omega) (by omega)]
theorem tkC_V {f : Nat → Int32} {L p c : Nat} {ys : List Nat} (h : VW f L p (c :: ys)) : tkC f L (p, false) = nI c := by
  obtain ⟨h1, h2, -⟩ := VW_h h
  unfold tkC
  rw [if_pos (show (p, false).1 < L from h1)]
  exact h2
theorem tk_V {f : Nat → Int32} {L p c a b : Nat} {ys : List Nat} (h : VW f L p (c :: ys)) (h1 : a ≤ c) (h2 : c ≤ b) (hb : b < 200) : tk f L (p, false) (nI a) (nI b) = (p + 1, false) := by
  obtain ⟨g1, g2, g3, -⟩ := VW_h h
  refine tk_of rfl g1 ?_
  show inB (f p) (nI a) (nI b) = true
  rw [g2, inB_n g3 (by omega) hb]
  exact decide_eq_true ⟨h1, h2⟩
theorem nx_V {f : Nat → Int32} {L p c a b : Nat} {ys : List Nat} (h : VW f L p (c :: ys)) (ha : a < 200) (hb : b < 200) : nx f L (p, false) (nI a) (nI b) = decide (a ≤ c ∧ c ≤ b) := by
  obtain ⟨g1, g2, g3, -⟩ := VW_h h
  simp only [nx, g1, g2, inB_n g3 ha hb, decide_true, Bool.not_false, Bool.true_and]
theorem nx_E {f : Nat → Int32} {L p : Nat} {lo hi : Int32} (h : VW f L p []) : nx f L (p, false) lo hi = false := by
  have : ¬ p < L := by have := VW_n h; omega
  simp only [nx, this, decide_false, Bool.and_false, Bool.false_and]
theorem tw_V {f : Nat → Int32} {L p n : Nat} {ys : List Nat} (hn : n ≤ 11) (h : VW f L p (dig n ++ 61 :: ys)) : tw f L (p, false) = ((p + (dig n).length, false), nI n) ∧ VW f L (p + (dig n).length) (61 :: ys) := by
  by_cases h9 : 9 < n
  · rw [dig_2 h9 (by omega)] at h ⊢
    have h : VW f L p (49 :: (48 + (n - 10)) :: 61 :: ys) := h
    have c1 := tkC_V h
    have t1 := tk_V h (a := 48) (b := 57) (by omega) (by omega) (by omega)
    obtain ⟨-, -, -, h'⟩ := VW_h h
    have c2 := tkC_V h'
    have t2 := tk_V h' (a := 48) (b := 49) (by omega) (by omega) (by omega)
    have n2 := nx_V h' (a := 48) (b := 49) (by omega) (by omega)
    obtain ⟨-, -, -, h''⟩ := VW_h h'
    refine ⟨?_, h''⟩
    unfold tw
    rw [c1, show (48 : Int32) = nI 48 from rfl, show (57 : Int32) = nI 57 from rfl, show (49 : Int32) = nI 49 from rfl, t1, n2, t2, c2, if_pos ⟨by decide, decide_eq_true (by omega)⟩, pk_sub (by omega), show (10 : Int32) = nI 10 from rfl, nI_add, show 10 + (48 + (n - 10) - 48) = n by omega]
    rfl
  · rw [dig_1 (by omega)] at h ⊢
    have h : VW f L p ((48 + n) :: 61 :: ys) := h
    have c1 := tkC_V h
    have t1 := tk_V h (a := 48) (b := 57) (by omega) (by omega) (by omega)
    obtain ⟨-, -, -, h'⟩ := VW_h h
    have n2 := nx_V h' (a := 48) (b := 49) (by omega) (by omega)
    refine ⟨?_, h'⟩
    unfold tw
    rw [c1, show (48 : Int32) = nI 48 from rfl, show (57 : Int32) = nI 57 from rfl, show (49 : Int32) = nI 49 from rfl, t1, n2, if_neg (fun q => absurd (of_decide_eq_true q.2) (by omega)), pk_sub (by omega), show 48 + n - 48 = n by omega]
    rfl
theorem ts_V {f : Nat → Int32} {L p n : Nat} (h1 : 1 ≤ n) (hn : n ≤ 12) (h : VW f L p (dig n)) : ts f L (p, false) = ((L, false), nI n) := by
  have hL := h.1
  by_cases h9 : 9 < n
  · rw [dig_2 h9 (by omega)] at h hL
    have c1 := tkC_V h
    have t1 := tk_V h (a := 49) (b := 57) (by omega) (by omega) (by omega)
    obtain ⟨-, -, -, h'⟩ := VW_h h
    have c2 := tkC_V h'
    have t2 := tk_V h' (a := 48) (b := 57) (by omega) (by omega) (by omega)
    have n2 := nx_V h' (a := 48) (b := 57) (by omega) (by omega)
    unfold ts tsM
    rw [c1, show (49 : Int32) = nI 49 from rfl, show (57 : Int32) = nI 57 from rfl, show (48 : Int32) = nI 48 from rfl, t1, n2, t2, c2]
    rw [if_pos (decide_eq_true (Or.inl ⟨by decide, decide_eq_true (by omega)⟩)), pk_sub (by omega), pk_sub (by omega), show (10 : Int32) * (1 + nI (49 - 49)) = nI 10 by decide, nI_add]
    simp only [List.length_cons, List.length_nil] at hL
    rw [show 10 + (48 + (n - 10) - 48) = n by omega, show p + 1 + 1 = L by omega]
  · rw [dig_1 (by omega)] at h hL
    have c1 := tkC_V h
    have t1 := tk_V h (a := 49) (b := 57) (by omega) (by omega) (by omega)
    obtain ⟨-, -, -, h'⟩ := VW_h h
    have n1 : ∀ lo hi, nx f L (p + 1, false) lo hi = false := fun lo hi => nx_E h'
    unfold ts tsM
    rw [c1, show (49 : Int32) = nI 49 from rfl, show (57 : Int32) = nI 57 from rfl, t1, n1, n1]
    rw [if_neg (fun q => by have := of_decide_eq_true q; simp at this), pk_sub (by omega), show (1 : Int32) = nI 1 from rfl, nI_add]
    simp only [List.length_cons, List.length_nil] at hL
    rw [show 1 + (48 + n - 49) = n by omega, show p + 1 = L by omega]
/-! letters -/
def lsOf (n : Nat) : List Nat := if n = 1 then [97] else if n = 2 then [98] else if n = 28 then [97, 97] else if n = 29 then [97, 98] else if n = 55 then [98, 97] else if n = 56 then [98, 98] else [122]
def noL (ys : List Nat) : Prop := ys = [] ∨ ∃ d r, ys = d :: r ∧ d < 97
theorem noL_n {f : Nat → Int32} {L p : Nat} {ys : List Nat} (h : VW f L p ys) (hy : noL ys) : nx f L (p, false) 97 122 = false := by
  rcases hy with rfl | ⟨d, r, rfl, hd⟩
  · exact nx_E h
  · rw [show (97 : Int32) = nI 97 from rfl, show (122 : Int32) = nI 122 from rfl, nx_V h (by omega) (by omega)]
    exact decide_eq_false (by omega)
theorem tl_1 {f : Nat → Int32} {L p x : Nat} {ys : List Nat} (h : VW f L p (x :: ys)) (h1 : 97 ≤ x) (h2 : x ≤ 122) (hy : noL ys) : tl f L (p, false) = ((p + 1, false), nI (x - 96)) ∧ VW f L (p + 1) ys := by
  have c1 := tkC_V h
  have t1 := tk_V h (a := 97) (b := 122) h1 h2 (by omega)
  obtain ⟨-, -, -, h'⟩ := VW_h h
  have n1 := noL_n h' hy
  refine ⟨?_, h'⟩
  unfold tl
  rw [c1, show tk f L (p, false) 97 122 = (p + 1, false) from t1]
  simp only [tlL]
  rw [n1, if_neg (by decide), show (97 : Int32) = nI 97 from rfl, pk_sub h1, show (1 : Int32) = nI 1 from rfl, nI_add, show 1 + (x - 97) = x - 96 by omega]
theorem tl_2 {f : Nat → Int32} {L p x y : Nat} {ys : List Nat} (h : VW f L p (x :: y :: ys)) (h1 : 97 ≤ x) (h2 : x ≤ 122) (h3 : 97 ≤ y) (h4 : y ≤ 122) (hy : noL ys) : tl f L (p, false) = ((p + 2, false), nI (27 * (x - 96) + (y - 96))) ∧ VW f L (p + 2) ys := by
  have c1 := tkC_V h
  have t1 := tk_V h (a := 97) (b := 122) h1 h2 (by omega)
  obtain ⟨-, -, -, h'⟩ := VW_h h
  have c2 := tkC_V h'
  have t2 := tk_V h' (a := 97) (b := 122) h3 h4 (by omega)
  have n2 := nx_V h' (a := 97) (b := 122) (by omega) (by omega)
  obtain ⟨-, -, -, h''⟩ := VW_h h'
  have n3 := noL_n h'' hy
  refine ⟨?_, h''⟩
  unfold tl
  rw [c1, show tk f L (p, false) 97 122 = (p + 1, false) from t1]
  simp only [tlL]
  rw [show nx f L (p + 1, false) 97 122 = true from n2.trans (decide_eq_true ⟨h3, h4⟩), if_pos rfl, show tk f L (p + 1, false) 97 122 = (p + 2, false) from t2, n3, if_neg (by decide), c2]
  rw [show (97 : Int32) = nI 97 from rfl, pk_sub h1, pk_sub h3, show (1 : Int32) = nI 1 from rfl, show (27 : Int32) = nI 27 from rfl, nI_add, pk_mul, nI_add, nI_add, show 27 * (1 + (x - 97)) + 1 + (y - 97) = 27 * (x - 96) + (y - 96) by omega]
theorem tl_V {f : Nat → Int32} {L p n : Nat} {ys : List Nat} (hn : n ∈ 26 :: abC) (h : VW f L p (lsOf n ++ ys)) (hy : noL ys) : tl f L (p, false) = ((p + (lsOf n).length, false), nI n) ∧ VW f L (p + (lsOf n).length) ys := by
  simp only [abC, List.mem_cons, List.not_mem_nil, or_false] at hn
  rcases hn with rfl | rfl | rfl | rfl | rfl | rfl | rfl
  · exact tl_1 (x := 122) h (by omega) (by omega) hy
  · exact tl_1 (x := 97) h (by omega) (by omega) hy
  · exact tl_1 (x := 98) h (by omega) (by omega) hy
  · exact tl_2 (x := 97) (y := 97) h (by omega) (by omega) (by omega) (by omega) hy
  · exact tl_2 (x := 97) (y := 98) h (by omega) (by omega) (by omega) (by omega) hy
  · exact tl_2 (x := 98) (y := 97) h (by omega) (by omega) (by omega) (by omega) hy
  · exact tl_2 (x := 98) (y := 98) h (by omega) (by omega) (by omega) (by omega) hy
def ansL_ (s a c1 b c2 q : Nat) : List Nat := (48 + s) :: 58 :: (dig a ++ 61 :: (lsOf c1 ++ 43 :: (dig b ++ 61 :: (lsOf c2 ++ 64 :: dig q))))
theorem rd_V {f : Nat → Int32} {L s a c1 b c2 q : Nat} (hs : s < 6) (ha : a ≤ 11) (hc1 : c1 ∈ 26 :: abC) (hb : b ≤ 11) (hc2 : c2 ∈ 26 :: abC) (hq1 : 1 ≤ q) (hq : q ≤ 12) (h : VW f L 0 (ansL_ s a c1 b c2 q)) :
    (rdE f L).2 = false ∧ tkC f L (0, false) - 48 = nI s ∧ (rd3 f L).2 = nI a ∧ (rd5 f L).2 = nI c1 ∧ (rd7 f L).2 = nI b ∧ (rd9 f L).2 = nI c2 ∧ (rd11 f L).2 = nI q := by
  unfold ansL_ at h
  have k0 := tkC_V h
  have e1 : rd1 f L = (1, false) := tk_V h (a := 48) (b := 53) (by omega) (by omega) (by omega)
  obtain ⟨-, -, -, h⟩ := VW_h h
  have e2 : rd2 f L = (2, false) := by unfold rd2; rw [e1]; exact tk_V h (a := 58) (b := 58) (by omega) (by omega) (by omega)
  obtain ⟨-, -, -, h⟩ := VW_h h
  obtain ⟨g3, h⟩ := tw_V ha h
  have e3 : rd3 f L = ((0 + 1 + 1 + (dig a).length, false), nI a) := by unfold rd3; rw [e2]; exact g3
  generalize 0 + 1 + 1 + (dig a).length = p3 at *
  have e4 : rd4 f L = (p3 + 1, false) := by unfold rd4; rw [e3]; exact tk_V h (a := 61) (b := 61) (by omega) (by omega) (by omega)
  obtain ⟨-, -, -, h⟩ := VW_h h
  obtain ⟨g5, h⟩ := tl_V hc1 h (Or.inr ⟨_, _, rfl, by omega⟩)
  have e5 : rd5 f L = ((p3 + 1 + (lsOf c1).length, false), nI c1) := by unfold rd5; rw [e4]; exact g5
  generalize p3 + 1 + (lsOf c1).length = p5 at *
  have e6 : rd6 f L = (p5 + 1, false) := by unfold rd6; rw [e5]; exact tk_V h (a := 43) (b := 43) (by omega) (by omega) (by omega)
  obtain ⟨-, -, -, h⟩ := VW_h h
  obtain ⟨g7, h⟩ := tw_V hb h
  have e7 : rd7 f L = ((p5 + 1 + (dig b).length, false), nI b) := by unfold rd7; rw [e6]; exact g7
  generalize p5 + 1 + (dig b).length = p7 at *
  have e8 : rd8 f L = (p7 + 1, false) := by unfold rd8; rw [e7]; exact tk_V h (a := 61) (b := 61) (by omega) (by omega) (by omega)
  obtain ⟨-, -, -, h⟩ := VW_h h
  obtain ⟨g9, h⟩ := tl_V hc2 h (Or.inr ⟨_, _, rfl, by omega⟩)
  have e9 : rd9 f L = ((p7 + 1 + (lsOf c2).length, false), nI c2) := by unfold rd9; rw [e8]; exact g9
  generalize p7 + 1 + (lsOf c2).length = p9 at *
  have e10 : rd10 f L = (p9 + 1, false) := by unfold rd10; rw [e9]; exact tk_V h (a := 64) (b := 64) (by omega) (by omega) (by omega)
  obtain ⟨-, -, -, h⟩ := VW_h h
  have e11 : rd11 f L = ((L, false), nI q) := by unfold rd11; rw [e10]; exact ts_V hq1 hq h
  refine ⟨?_, ?_, by rw [e3], by rw [e5], by rw [e7], by rw [e9], by rw [e11]⟩
  · unfold rdE
    rw [e11]
    simp
  · rw [k0, show (48 : Int32) = nI 48 from rfl, pk_sub (by omega), show 48 + s - 48 = s by omega]
theorem J_VW {M : wMem} {v h : Nat → Int32} {K : Nat} {xs : List Nat} (hJ : J v h K xs M) : VW (wI M 3) xs.length 0 xs := by
  refine ⟨by omega, fun i c hi => ?_⟩
  obtain ⟨h1, h2, h3⟩ := hJ.2.2.2.2.2 i c hi
  rw [Nat.zero_add]
  exact ⟨h3, by omega⟩
/-- letters alone, for a word that is told -/
theorem J_kn {M : wMem} {v h : Nat → Int32} {K n : Nat} (hn : n ∈ 26 :: abC) (hJ : J v h K (lsOf n) M) : knW M = false ∧ (knS M).2 = nI n := by
  have hV := J_VW hJ
  have hl := J_len hJ
  rw [← List.append_nil (lsOf n)] at hV
  obtain ⟨g1, g2⟩ := tl_V hn (by rw [List.append_nil] at hV ⊢; exact hV) (Or.inl rfl)
  have e : knS M = ((0 + (lsOf n).length, false), nI n) := by
    unfold knS
    rw [hJ.2.2.1.2.2.2, hl]
    exact g1
  unfold knW
  rw [e, hl]
  simp
/-- an answer that is typed -/
theorem J_rd {M : wMem} {v h : Nat → Int32} {K s a c1 b c2 q : Nat} (hs : s < 6) (ha : a ≤ 11) (hc1 : c1 ∈ 26 :: abC) (hb : b ≤ 11) (hc2 : c2 ∈ 26 :: abC) (hq1 : 1 ≤ q) (hq : q ≤ 12) (hJ : J v h K (ansL_ s a c1 b c2 q) M) :
    (rdE (wI M 257) (lenM M)).2 = false ∧ (rdE (wI M 3) (ansL_ s a c1 b c2 q).length).2 = false ∧ aTo M 0 = nI s ∧ aTo M 1 = nI a ∧ aTo M 2 = nI c1 ∧ aTo M 3 = nI b ∧ aTo M 4 = nI c2 ∧ aTo M 5 = nI q := by
  obtain ⟨t0, t1, t2, t3, t4, t5⟩ := told_0 M
  rw [t0, t1, t2, t3, t4, t5, J_len hJ, hJ.2.2.1.2.2.2]
  obtain ⟨r0, r1, r2, r3, r4, r5, r6⟩ := rd_V hs ha hc1 hb hc2 hq1 hq (J_VW hJ)
  exact ⟨r0, r0, r1, r2, r3, r4, r5, r6⟩
