/-! ===== an answer keeps the small numbers ===== -/
theorem PX_an4 {e s q : Nat} {v : Nat → Int32} {t : Int32} (h : PX e e v) (h0 : cntOk v) (hs : s < 6) (hq : q ≤ 60) : PX (e + 1) e (up1 (an4 v s (nI q)) (12 + 4 * s) t) := by
  have h12 := h0.2.1
  have h17 := h0.2.2.2
  obtain ⟨r7, r8, r13, r14, r15⟩ := an4_r (v := v) (sec := nI q) hs
  obtain ⟨c1, c2, c3⟩ := an4_c (s := s) (sec := nI q) h0
  obtain ⟨d1, d2, d3⟩ := cnt_u (x := t) c1 (show 12 + 4 * s ≠ 6 by omega) (show 12 + 4 * s ≠ 11 by omega)
  obtain ⟨p1, p2, p3⟩ := h
  have eo : eO (up1 (an4 v s (nI q)) (12 + 4 * s) t) = eO v := by rw [eO_u (by omega)]; funext k; exact an4_o (by omega)
  have eh : eH (up1 (an4 v s (nI q)) (12 + 4 * s) t) = eH v := by rw [eH_u (by omega)]; funext k; exact an4_o (by omega)
  have em : eM (up1 (an4 v s (nI q)) (12 + 4 * s) t) = eM v := by rw [eM_u (by omega)]; funext k; exact an4_o (by omega)
  have lo : ∀ j, 36 ≤ j → up1 (an4 v s (nI q)) (12 + 4 * s) t j = v j := fun j hj => by rw [up1_ne _ _ _ (by omega), an4_o (by omega)]
  refine ⟨fun i hi => ?_, fun i hi => ?_, fun k hk => ?_⟩
  · obtain ⟨a, r, s', h1, h2, h3, h4, h5, h6⟩ := p1 i hi
    by_cases his : i = s
    · subst his
      refine ⟨a + 1, r + 1, s' + q, ?_, ?_, ?_, by omega, by omega, by omega⟩
      · rw [up1_ne _ _ _ (by omega), r13, h1, nI_1]
      · rw [up1_ne _ _ _ (by omega), r14, h2, nI_1]
      · rw [up1_ne _ _ _ (by omega), r15, h3, nI_add]
    · refine ⟨a, r, s', ?_, ?_, ?_, by omega, h5, h6⟩
      · rw [up1_ne _ _ _ (by omega), an4_o (by omega)]; exact h1
      · rw [up1_ne _ _ _ (by omega), an4_o (by omega)]; exact h2
      · rw [up1_ne _ _ _ (by omega), an4_o (by omega)]; exact h3
  · rw [d2, c2] at hi
    have := p2 i hi
    unfold PW at *
    rw [lo _ (by omega), lo _ (by omega), lo _ (by omega), lo _ (by omega), d3, c3, voS_c (v := v) (fun k _ => ⟨by rw [eo], by rw [em]⟩)]
    exact this
  · rw [d3, c3] at hk
    have := p3 k hk
    unfold PE at *
    rw [eo, eh, em, d2, c2]
    exact this
theorem voS_inc {v u : Nat → Int32} {j : Nat} {w : Int32} : ∀ {N : Nat}, j < N → (∀ k, k < N → eO u k = eO v k) → (∀ k, k < N → eM u k = if k = j then eM v j + 1 else eM v k) → voS u w N = voS v w N + (if eO v j = w then 1 else 0)
  | 0, h, _, _ => by omega
  | N + 1, h, ho, hm => by
    simp only [voS]
    rw [ho N (by omega), hm N (by omega)]
    by_cases hj : N = j
    · subst hj
      rw [if_pos rfl]
      have e : voS u w N = voS v w N := by
        have key : ∀ n, n ≤ N → voS u w n = voS v w n := by
          intro n
          induction n with
          | zero => intro _; rfl
          | succ n ih =>
            intro hn
            have h9 := hm n (by omega)
            rw [if_neg (show ¬ n = N by omega)] at h9
            simp only [voS]
            rw [ih (by omega), ho n (by omega), h9]
        exact key N (Nat.le_refl _)
      rw [e]
      by_cases hw : eO v N = w
      · rw [if_pos hw, if_pos hw, if_pos hw, Int32.add_assoc]
      · simp only [if_neg hw, Int32.add_zero]
    · rw [if_neg hj, voS_inc (show j < N by omega) (fun k hk => ho k (by omega)) (fun k hk => hm k (by omega))]
      ac_rfl
theorem vo1_em {v : Nat → Int32} {k : Nat} {c wt sec : Int32} (hk : k < 12) : eM (vo1 v k c wt sec) = eM (voB v (nI k) c wt) := by
  rw [vo1_B, eM_u (by omega), eM_u (by omega)]
theorem vo1_40 {v : Nat → Int32} {k : Nat} {c wt sec : Int32} : vo1 v k c wt sec (40 + 6 * k) = v (40 + 6 * k) + 1 := by
  rw [vo1_B, up1_ne _ _ _ (by omega), up1_eq]
theorem PX_vo1 {e1 e b : Nat} {v : Nat → Int32} {c wt sec : Int32} (h : PX e1 e v) (h0 : cntOk v) (hN : sN v < 170) (hb : b < nW v) (hk : v (36 + 6 * b) = 1) (hc : isAB c) :
    PX e1 (e + 1) (vo1 v b c wt sec) ∧ ∃ k, k < sN (vo1 v b c wt sec) ∧ eO (vo1 v b c wt sec) k = nI b := by
  have h12 := h0.2.1
  obtain ⟨c1, c2, c3⟩ := vo1_c (c := c) (wt := wt) (sec := sec) h0 hN (show b < 12 by omega)
  obtain ⟨n1, n2, -⟩ := vo1_en (v := v) (c := c) (wt := wt) (sec := sec) (show b < 11 + 1 by omega)
  have n3 := vo1_em (v := v) (c := c) (wt := wt) (sec := sec) (show b < 12 by omega)
  have lo : ∀ j, j < 108 → j ≠ 11 → j ≠ 40 + 6 * b → j ≠ 41 + 6 * b → vo1 v b c wt sec j = v j := fun j a1 a2 a3 a4 => vo1_lo a1 a2 a3 a4
  have h40 := vo1_40 (v := v) (k := b) (c := c) (wt := wt) (sec := sec)
  obtain ⟨p1, p2, p3⟩ := h
  generalize hu : vo1 v b c wt sec = u at *
  -- how the entries are now
  have key : (∀ w : Int32, voS u w (sN u) = voS v w (sN v) + (if nI b = w then 1 else 0)) ∧ (∀ k, k < sN u → PE (e + 1) u k) ∧ ∃ k, k < sN u ∧ eO u k = nI b := by
    cases hE : voE v (nI b) c with
    | none =>
      obtain ⟨e1', e2, e3, e4, -⟩ := voB_none (wt := wt) hE
      rw [hE] at c3
      have c3 : sN u = sN v + 1 := c3
      have eo : ∀ i, eO u i = if i = sN v then nI b else eO v i := fun i => by rw [n1]; exact e2 i
      have eh : ∀ i, eH u i = if i = sN v then c else eH v i := fun i => by rw [n2]; exact e3 i
      have em : ∀ i, eM u i = if i = sN v then 0 + 1 else eM v i := fun i => by rw [n3]; exact e4 i
      refine ⟨fun w => ?_, fun k hk => ?_, sN v, by omega, by rw [eo, if_pos rfl]⟩
      · rw [c3]
        simp only [voS]
        rw [eo, if_pos rfl, em, if_pos rfl, voS_c (v := v) (fun k hk => ⟨by rw [eo, if_neg (by omega)], by rw [em, if_neg (by omega)]⟩)]
        rfl
      · unfold PE
        rw [eo, eh, em, c2]
        by_cases hkN : k = sN v
        · rw [if_pos hkN, if_pos hkN, if_pos hkN]
          exact ⟨hc, ⟨1, rfl, by omega, by omega⟩, b, hb, rfl⟩
        · rw [if_neg hkN, if_neg hkN, if_neg hkN]
          exact PE_mono (p3 k (by omega)) (by omega)
    | some j =>
      obtain ⟨e1', e2, e3, e4, -⟩ := voB_some (wt := wt) hE
      rw [hE] at c3
      have c3 : sN u = sN v := c3
      obtain ⟨hj, hj2⟩ := lstP_lt hE
      have hj3 := (of_decide_eq_true hj2).1
      have eo : ∀ i, eO u i = eO v i := fun i => by rw [n1]; exact e2 i
      have eh : ∀ i, eH u i = eH v i := fun i => by rw [n2]; exact e3 i
      have em : ∀ i, eM u i = if i = j then eM v j + 1 else eM v i := fun i => by rw [n3]; exact e4 i
      refine ⟨fun w => ?_, fun k hk => ?_, j, by omega, by rw [eo]; exact hj3⟩
      · rw [c3, voS_inc hj (fun k _ => eo k) (fun k _ => em k), hj3]
      · unfold PE
        rw [eo, eh, em, c2]
        have := p3 k (by omega)
        by_cases hkj : k = j
        · subst hkj
          rw [if_pos rfl]
          obtain ⟨q1, ⟨m, q2, q3, q4⟩, q5⟩ := this
          exact ⟨q1, ⟨m + 1, by rw [q2, nI_1], by omega, by omega⟩, q5⟩
        · rw [if_neg hkj]
          exact PE_mono this (by omega)
  obtain ⟨k1, k2, k3⟩ := key
  refine ⟨⟨fun i hi => ?_, fun i hi => ?_, k2⟩, k3⟩
  · have := p1 i hi
    unfold PS at *
    rw [lo _ (by omega) (by omega) (by omega) (by omega), lo _ (by omega) (by omega) (by omega) (by omega), lo _ (by omega) (by omega) (by omega) (by omega)]
    exact this
  · rw [c2] at hi
    obtain ⟨kd, q1, q2, q3, q4, q5, q6, q7, q8⟩ := p2 i hi
    unfold PW
    rw [lo (36 + 6 * i) (by omega) (by omega) (by omega) (by omega), lo (39 + 6 * i) (by omega) (by omega) (by omega) (by omega), lo (38 + 6 * i) (by omega) (by omega) (by omega) (by omega), k1]
    by_cases hib : i = b
    · subst hib
      have hkd : kd = 1 := (nI_eq (by omega) (by omega)).mp (q1.symm.trans hk)
      rw [h40, if_pos rfl, q5]
      refine ⟨kd, q1, q2, nIb_mono q3 (by omega), ?_, rfl, q6, q7, fun q => by omega⟩
      rw [← q5]
      obtain ⟨m, m1, m2⟩ := q4
      exact ⟨m + 1, by omega, by rw [m2, nI_1]⟩
    · rw [lo (40 + 6 * i) (by omega) (by omega) (by omega) (by omega), if_neg (fun q => hib ((nI_eq (by omega) (by omega)).mp q).symm), Int32.add_zero]
      exact ⟨kd, q1, q2, nIb_mono q3 (by omega), nIb_mono q4 (by omega), q5, q6, q7, q8⟩
theorem PX_vo2 {e1 e b : Nat} {v : Nat → Int32} (h : PX e1 e v) (h0 : cntOk v) (hb : b < nW v) (hk : v (36 + 6 * b) = 1) (hex : ∃ k, k < sN v ∧ eO v k = nI b) : PX e1 e (vo2 v b) := by
  have h12 := h0.2.1
  obtain ⟨c1, c2, c3⟩ := vo2_c (k := b) h0
  have eo : eO (vo2 v b) = eO v := funext fun k => vo2_o (by omega)
  have eh : eH (vo2 v b) = eH v := funext fun k => vo2_o (by omega)
  have em : eM (vo2 v b) = eM v := funext fun k => vo2_o (by omega)
  obtain ⟨p1, p2, p3⟩ := h
  refine ⟨fun i hi => ?_, fun i hi => ?_, fun k hk2 => ?_⟩
  · have := p1 i hi
    unfold PS at *
    rw [vo2_o (by omega), vo2_o (by omega), vo2_o (by omega)]
    exact this
  · rw [c2] at hi
    have hp := p2 i hi
    by_cases hib : i = b
    · subst hib
      obtain ⟨kd, q1, q2, q3, q4, q5, q6, q7, q8⟩ := hp
      unfold PW
      rw [vo2_o (j := 39 + 6 * i) (by omega), vo2_o (j := 40 + 6 * i) (by omega), c3, voS_c (v := v) (fun k _ => ⟨by rw [eo], by rw [em]⟩)]
      unfold vo2
      split
      · split
        · rw [up1_ne _ _ _ (by omega), up1_ne _ _ _ (by omega), up1_eq, up1_ne _ _ _ (by omega), up1_eq]
          refine ⟨2, rfl, by omega, q3, q4, q5, fun _ => ?_, fun q => by omega, fun q => by omega⟩
          obtain ⟨k, k1, k2⟩ := hex
          obtain ⟨j, hj⟩ := leadO_ex (g := eW v) k1 k2
          rw [show mLead v (nI i) = some j from hj]
          exact (p3 j (leadO_lt hj).1).1
        · next hne =>
          have h3 : mBec v (v (40 + 6 * i)) (v (41 + 6 * i)) = 3 := (mBec_23 v _ _).resolve_left hne
          rw [up1_ne _ _ _ (by omega), up1_ne _ _ _ (by omega), up1_eq, up1_ne _ _ _ (by omega), up1_eq, h3]
          exact ⟨3, rfl, by omega, q3, q4, q5, fun q => by omega, fun _ => rfl, fun q => by omega⟩
      · exact ⟨kd, q1, q2, q3, q4, q5, q6, q7, q8⟩
    · unfold PW at *
      rw [vo2_o (by omega), vo2_o (by omega), vo2_o (by omega), vo2_o (by omega), c3, voS_c (v := v) (fun k _ => ⟨by rw [eo], by rw [em]⟩)]
      exact hp
  · rw [c3] at hk2
    have := p3 k hk2
    unfold PE at *
    rw [eo, eh, em, c2]
    exact this
theorem PX_anR {e s b q : Nat} {v : Nat → Int32} {c : Int32} (h : PX e e v) (h0 : cntOk v) (hN : sN v < 170) (hs : s < 6) (hb : b < nW v) (hk : v (36 + 6 * b) = 1) (hc : isAB c) (hq : q ≤ 60) : PX (e + 1) (e + 1) (anR v s b c (nI q)) := by
  have h12 := h0.2.1
  rw [anR_e hs (by omega)]
  obtain ⟨c1, c2, c3⟩ := an4_c (s := s) (sec := nI q) h0
  obtain ⟨d1, d2, d3⟩ := cnt_u (x := trUp (v 4) (v (12 + 4 * s))) c1 (show 12 + 4 * s ≠ 6 by omega) (show 12 + 4 * s ≠ 11 by omega)
  have x1 := PX_an4 (t := trUp (v 4) (v (12 + 4 * s))) h h0 hs hq
  have k1 : up1 (an4 v s (nI q)) (12 + 4 * s) (trUp (v 4) (v (12 + 4 * s))) (36 + 6 * b) = 1 := by rw [up1_ne _ _ _ (by omega), an4_o (by omega)]; exact hk
  obtain ⟨x2, x3⟩ := PX_vo1 (c := c) (wt := v (12 + 4 * s)) (sec := nI q) x1 d1 (by rw [d3, c3]; exact hN) (by rw [d2, c2]; exact hb) k1 hc
  obtain ⟨f1, f2, f3⟩ := vo1_c (k := b) (c := c) (wt := v (12 + 4 * s)) (sec := nI q) d1 (by rw [d3, c3]; exact hN) (by omega)
  exact PX_vo2 x2 f1 (by rw [f2, d2, c2]; exact hb) (by rw [vo1_lo (by omega) (by omega) (by omega) (by omega)]; exact k1) x3
theorem PX_anW {e s a q : Nat} {v : Nat → Int32} (h : PX e e v) (h0 : cntOk v) (hs : s < 6) (ha : a < nW v) (hq : q ≤ 60) : PX (e + 1) (e + 1) (anW v s a (nI q)) := by
  have h12 := h0.2.1
  obtain ⟨r7, r13, r15, r39, r12⟩ := anW_r (v := v) (a := a) (sec := nI q) hs
  obtain ⟨c1, c2, c3⟩ := anW_c (s := s) (a := a) (sec := nI q) h0
  have eo : eO (anW v s a (nI q)) = eO v := funext fun k => anW_o (by omega)
  have eh : eH (anW v s a (nI q)) = eH v := funext fun k => anW_o (by omega)
  have em : eM (anW v s a (nI q)) = eM v := funext fun k => anW_o (by omega)
  obtain ⟨p1, p2, p3⟩ := h
  refine ⟨fun i hi => ?_, fun i hi => ?_, fun k hk => ?_⟩
  · obtain ⟨x, r, y, h1, h2, h3, h4, h5, h6⟩ := p1 i hi
    by_cases his : i = s
    · subst his
      refine ⟨x + 1, r, y + q, ?_, ?_, ?_, by omega, by omega, by omega⟩
      · rw [r13, h1, nI_1]
      · rw [anW_o (by omega)]; exact h2
      · rw [r15, h3, nI_add]
    · refine ⟨x, r, y, ?_, ?_, ?_, by omega, h5, h6⟩
      · rw [anW_o (by omega)]; exact h1
      · rw [anW_o (by omega)]; exact h2
      · rw [anW_o (by omega)]; exact h3
  · rw [c2] at hi
    have hp := PW_mono (p2 i hi) (Nat.le_succ e)
    unfold PW at *
    rw [anW_o (j := 36 + 6 * i) (by omega), anW_o (j := 40 + 6 * i) (by omega), anW_o (j := 38 + 6 * i) (by omega), c3, voS_c (v := v) (fun k _ => ⟨by rw [eo], by rw [em]⟩)]
    by_cases hia : i = a
    · subst hia
      rw [r39]
      obtain ⟨kd, q1, q2, -, q4⟩ := hp
      obtain ⟨kd', -, -, ⟨m, m1, m2⟩, -⟩ := p2 i hi
      exact ⟨kd, q1, q2, ⟨m + 1, by omega, by rw [m2, nI_1]⟩, q4⟩
    · rw [anW_o (by omega)]
      exact hp
  · rw [c3] at hk
    have := PE_mono (p3 k hk) (Nat.le_succ e)
    unfold PE at *
    rw [eo, eh, em, c2]
    exact this
/-! together -/
def PV (e : Nat) (v : Nat → Int32) : Prop := IV (3 * e) v ∧ cntOk v ∧ PX e e v
theorem PV_mono {e e' : Nat} {v : Nat → Int32} (h : PV e v) (he : e ≤ e') : PV e' v := ⟨IV_mono h.1 (by omega), h.2.1, PX_mono h.2.2 he he⟩
theorem PV_c {e : Nat} {v v' : Nat → Int32} (h : PV e v) (hv : ∀ j, j < 828 → v' j = v j) : PV e v' := ⟨IV_c h.1 h.2.1 hv, cnt_c h.2.1 hv, PX_c h.2.2 h.2.1 hv⟩
theorem PV_row0 : PV 0 row0 := ⟨IV_row0, ⟨by decide, by decide, by decide, by decide⟩, PX_row0⟩
theorem PV_sN {e : Nat} {v : Nat → Int32} (h : PV e v) : sN v ≤ e := by
  have := h.1.2.2.2.2.2.2.2
  omega
theorem PV_ans {e : Nat} {v t : Nat → Int32} (h : PV e v) (he : e ≤ 100) {s a b q : Nat} (h0 : t 0 = nI s) (hs : s < 6) (h1 : t 1 = nI a) (ha : a < nW v) (h3 : t 3 = nI b) (hb : b < nW v) (hk : v (36 + 6 * b) = 1) (h4 : isAB (t 4)) (h5 : t 5 = nI q) (hq : q ≤ 60) : PV (e + 1) (aRow v t) := by
  have hsN := PV_sN h
  obtain ⟨hI, hc, hx⟩ := h
  have h12 := hc.2.1
  have w1 : isW v (t 1) = true := by rw [h1]; exact isW_nI hc.1 h12 ha
  have w3 : isW v (t 3) = true := by rw [h3]; exact isW_nI hc.1 h12 hb
  have i1 := IV_ans (T := 3 * e + 2) (t := t) (IV_mono hI (by omega)) hc (by rw [h0]; exact of_eq_true (isIx_t hs (by decide))) w1 w3 (isAB_ne h4) (by omega) (by omega)
  refine ⟨i1, ?_⟩
  unfold aRow
  rw [h0, h1, h3, h5, nI_clamp (show s < 2 ^ 31 by omega), nI_clamp (show a < 2 ^ 31 by omega), nI_clamp (show b < 2 ^ 31 by omega)]
  unfold anV
  split
  · exact ⟨(IV_anR (T := 3 * e + 2) (IV_mono hI (by omega)) hc hs hb (isAB_ne h4) (by omega) (by omega)).2.1, PX_anR hx hc (by omega) hs hb hk h4 hq⟩
  · exact ⟨(anW_c hc).1, PX_anW hx hc hs ha hq⟩
