/-! ===== what the rows of this law keep to, beside IV: few letters, small numbers, votes that add up ===== -/
def abC : List Nat := [1, 2, 28, 29, 55, 56]
def isAB (c : Int32) : Prop := ∃ n, n ∈ abC ∧ c = nI n
theorem isAB_ne {c : Int32} (h : isAB c) : ¬ c = 0 := by
  obtain ⟨n, hn, rfl⟩ := h
  simp only [abC, List.mem_cons, List.not_mem_nil, or_false] at hn
  rcases hn with rfl | rfl | rfl | rfl | rfl | rfl <;> decide
def voS (v : Nat → Int32) (w : Int32) : Nat → Int32
  | 0 => 0
  | k + 1 => voS v w k + (if eO v k = w then eM v k else 0)
def nIb (x : Int32) (n : Nat) : Prop := ∃ m, m ≤ n ∧ x = nI m
def PS (e : Nat) (v : Nat → Int32) (i : Nat) : Prop := ∃ a r s, v (13 + 4 * i) = nI a ∧ v (14 + 4 * i) = nI r ∧ v (15 + 4 * i) = nI s ∧ a ≤ e ∧ r ≤ a ∧ s ≤ 60 * a
def PW (e : Nat) (v : Nat → Int32) (i : Nat) : Prop := ∃ kd, v (36 + 6 * i) = nI kd ∧ kd < 4 ∧ nIb (v (39 + 6 * i)) e ∧ nIb (v (40 + 6 * i)) e ∧ v (40 + 6 * i) = voS v (nI i) (sN v)
  ∧ (kd = 0 ∨ kd = 2 → isAB (v (38 + 6 * i))) ∧ (kd = 1 ∨ kd = 3 → v (38 + 6 * i) = 0) ∧ (kd = 0 → v (40 + 6 * i) = 0)
def PE (e : Nat) (v : Nat → Int32) (k : Nat) : Prop := isAB (eH v k) ∧ (∃ c, eM v k = nI c ∧ 1 ≤ c ∧ c ≤ e) ∧ ∃ w, w < nW v ∧ eO v k = nI w
def PX (e1 e2 : Nat) (v : Nat → Int32) : Prop := (∀ i, i < 6 → PS e1 v i) ∧ (∀ i, i < nW v → PW e2 v i) ∧ ∀ k, k < sN v → PE e2 v k
theorem nIb_mono {x : Int32} {a b : Nat} (h : nIb x a) (hab : a ≤ b) : nIb x b := by
  obtain ⟨m, h1, h2⟩ := h
  exact ⟨m, by omega, h2⟩
theorem PS_mono {e e' i : Nat} {v : Nat → Int32} (h : PS e v i) (he : e ≤ e') : PS e' v i := by
  obtain ⟨a, r, s, h1, h2, h3, h4, h5, h6⟩ := h
  exact ⟨a, r, s, h1, h2, h3, by omega, h5, h6⟩
theorem PW_mono {e e' i : Nat} {v : Nat → Int32} (h : PW e v i) (he : e ≤ e') : PW e' v i := by
  obtain ⟨kd, h1, h2, h3, h4, h5⟩ := h
  exact ⟨kd, h1, h2, nIb_mono h3 he, nIb_mono h4 he, h5⟩
theorem PE_mono {e e' k : Nat} {v : Nat → Int32} (h : PE e v k) (he : e ≤ e') : PE e' v k := by
  obtain ⟨h1, ⟨c, h2, h3, h4⟩, h5⟩ := h
  exact ⟨h1, ⟨c, h2, h3, by omega⟩, h5⟩
theorem PX_mono {e1 e2 f1 f2 : Nat} {v : Nat → Int32} (h : PX e1 e2 v) (h1 : e1 ≤ f1) (h2 : e2 ≤ f2) : PX f1 f2 v :=
  ⟨fun i hi => PS_mono (h.1 i hi) h1, fun i hi => PW_mono (h.2.1 i hi) h2, fun k hk => PE_mono (h.2.2 k hk) h2⟩
theorem voS_c {v v' : Nat → Int32} {w : Int32} : ∀ {n : Nat}, (∀ k, k < n → eO v' k = eO v k ∧ eM v' k = eM v k) → voS v' w n = voS v w n
  | 0, _ => rfl
  | n + 1, h => by
    simp only [voS]
    rw [voS_c (fun k hk => h k (by omega)), (h n (by omega)).1, (h n (by omega)).2]
theorem voS_0 {v : Nat → Int32} {w : Int32} : ∀ {n : Nat}, (∀ k, k < n → ¬ eO v k = w) → voS v w n = 0
  | 0, _ => rfl
  | n + 1, h => by
    simp only [voS]
    rw [voS_0 (fun k hk => h k (by omega)), if_neg (h n (by omega)), Int32.add_zero]
theorem PX_o {e1 e2 : Nat} {v v' : Nat → Int32} (h : PX e1 e2 v) (hW : nW v' = nW v) (hN : sN v' = sN v)
    (hs : ∀ i, i < 6 → v' (13 + 4 * i) = v (13 + 4 * i) ∧ v' (14 + 4 * i) = v (14 + 4 * i) ∧ v' (15 + 4 * i) = v (15 + 4 * i))
    (hw : ∀ i, i < nW v → v' (36 + 6 * i) = v (36 + 6 * i) ∧ v' (38 + 6 * i) = v (38 + 6 * i) ∧ v' (39 + 6 * i) = v (39 + 6 * i) ∧ v' (40 + 6 * i) = v (40 + 6 * i))
    (he : ∀ k, k < sN v → eO v' k = eO v k ∧ eH v' k = eH v k ∧ eM v' k = eM v k) : PX e1 e2 v' := by
  obtain ⟨a, b, c⟩ := h
  refine ⟨fun i hi => ?_, fun i hi => ?_, fun k hk => ?_⟩
  · obtain ⟨r1, r2, r3⟩ := hs i hi
    unfold PS
    rw [r1, r2, r3]
    exact a i hi
  · rw [hW] at hi
    obtain ⟨r1, r2, r3, r4⟩ := hw i hi
    have := b i hi
    unfold PW at *
    rw [r1, r2, r3, r4, hN, voS_c (v := v) (v' := v') (fun k hk => ⟨(he k hk).1, (he k hk).2.2⟩)]
    exact this
  · rw [hN] at hk
    obtain ⟨r1, r2, r3⟩ := he k hk
    have := c k hk
    unfold PE at *
    rw [r1, r2, r3, hW]
    exact this
theorem PX_c {e1 e2 : Nat} {v v' : Nat → Int32} (h : PX e1 e2 v) (hc : cntOk v) (e : ∀ j, j < 828 → v' j = v j) : PX e1 e2 v' := by
  have h12 := hc.2.1
  have h17 := hc.2.2.2
  exact PX_o h (nW_c e) (sN_c e) (fun i hi => ⟨e _ (by omega), e _ (by omega), e _ (by omega)⟩) (fun i hi => ⟨e _ (by omega), e _ (by omega), e _ (by omega), e _ (by omega)⟩) (fun k hk => ⟨e _ (by omega), e _ (by omega), e _ (by omega)⟩)
theorem PX_set {e1 e2 j : Nat} {v : Nat → Int32} {x : Int32} (h : PX e1 e2 v) (hc : cntOk v) (hj : j < 6) : PX e1 e2 (up1 v j x) := by
  obtain ⟨-, d2, d3⟩ := cnt_u (x := x) hc (show j ≠ 6 by omega) (show j ≠ 11 by omega)
  exact PX_o h d2 d3 (fun i hi => ⟨up1_ne _ _ _ (by omega), up1_ne _ _ _ (by omega), up1_ne _ _ _ (by omega)⟩) (fun i hi => ⟨up1_ne _ _ _ (by omega), up1_ne _ _ _ (by omega), up1_ne _ _ _ (by omega), up1_ne _ _ _ (by omega)⟩) (fun k hk => ⟨by rw [eO_u (by omega)], by rw [eH_u (by omega)], by rw [eM_u (by omega)]⟩)
theorem PX_trust {e1 e2 j : Nat} {v : Nat → Int32} {x : Int32} (h : PX e1 e2 v) (hc : cntOk v) (hj : j < 6) : PX e1 e2 (up1 v (12 + 4 * j) x) := by
  obtain ⟨-, d2, d3⟩ := cnt_u (x := x) hc (show 12 + 4 * j ≠ 6 by omega) (show 12 + 4 * j ≠ 11 by omega)
  exact PX_o h d2 d3 (fun i hi => ⟨up1_ne _ _ _ (by omega), up1_ne _ _ _ (by omega), up1_ne _ _ _ (by omega)⟩) (fun i hi => ⟨up1_ne _ _ _ (by omega), up1_ne _ _ _ (by omega), up1_ne _ _ _ (by omega), up1_ne _ _ _ (by omega)⟩) (fun k hk => ⟨by rw [eO_u (by omega)], by rw [eH_u (by omega)], by rw [eM_u (by omega)]⟩)
theorem PE_own {e k n : Nat} {v : Nat → Int32} (h : PE e v k) (hn : nW v ≤ n) (hn2 : nW v ≤ 12) (hn3 : n < 2 ^ 31) : ¬ eO v k = nI n := by
  obtain ⟨-, -, w, h1, h2⟩ := h
  rw [h2]
  intro q
  have := (nI_eq (by omega) hn3).mp q
  omega
theorem PX_add {e1 e2 : Nat} {v : Nat → Int32} {kd b c : Int32} (h : PX e1 e2 v) (hc : cntOk v) (hn : nW v < 12) (hk : (kd = 0 ∧ isAB c) ∨ (kd = 1 ∧ c = 0)) : PX e1 e2 (addV v (nW v) kd b c) := by
  obtain ⟨d1, d2⟩ := addV_n (v := v) (kd := kd) (b := b) (c := c) hn
  have ao : ∀ j, j ≠ 6 → ¬ (36 + 6 * nW v ≤ j ∧ j < 42 + 6 * nW v) → addV v (nW v) kd b c j = v j := fun j => addV_o
  have eo : ∀ k, eO (addV v (nW v) kd b c) k = eO v k := fun k => ao _ (by omega) (by omega)
  have eh : ∀ k, eH (addV v (nW v) kd b c) k = eH v k := fun k => ao _ (by omega) (by omega)
  have em : ∀ k, eM (addV v (nW v) kd b c) k = eM v k := fun k => ao _ (by omega) (by omega)
  obtain ⟨p1, p2, p3⟩ := h
  refine ⟨fun i hi => ?_, fun i hi => ?_, fun k hk => ?_⟩
  · have := p1 i hi
    unfold PS at *
    rw [ao _ (by omega) (by omega), ao _ (by omega) (by omega), ao _ (by omega) (by omega)]
    exact this
  · rw [d1] at hi
    by_cases hin : i = nW v
    · subst hin
      unfold PW
      rw [addV_0, addV_2, addV_z (by omega) (by omega), addV_z (by omega) (by omega), d2, voS_c (v := v) (fun k hk => ⟨eo k, em k⟩), voS_0 (fun k hk => PE_own (p3 k hk) (Nat.le_refl _) (by omega) (by omega))]
      rcases hk with ⟨rfl, hk⟩ | ⟨rfl, rfl⟩
      · exact ⟨0, rfl, by omega, ⟨0, by omega, rfl⟩, ⟨0, by omega, rfl⟩, rfl, fun _ => hk, fun q => by omega, fun _ => rfl⟩
      · exact ⟨1, rfl, by omega, ⟨0, by omega, rfl⟩, ⟨0, by omega, rfl⟩, rfl, fun q => by omega, fun _ => rfl, fun q => by omega⟩
    · have := p2 i (by omega)
      unfold PW at *
      rw [ao _ (by omega) (by omega), ao _ (by omega) (by omega), ao _ (by omega) (by omega), ao _ (by omega) (by omega), d2, voS_c (v := v) (fun k hk => ⟨eo k, em k⟩)]
      exact this
  · rw [d2] at hk
    obtain ⟨q1, q2, w, q3, q4⟩ := p3 k hk
    refine ⟨by rw [eh]; exact q1, by rw [em]; exact q2, w, by rw [d1]; omega, by rw [eo]; exact q4⟩
/-! entries that stay -/
theorem cntP_mo {p : Nat → Bool} {a : Nat} : ∀ {b : Nat}, a ≤ b → cntP p a ≤ cntP p b
  | 0, h => by rw [show a = 0 by omega]; exact Nat.le_refl _
  | b + 1, h => by
    by_cases hab : a = b + 1
    · subst hab; exact Nat.le_refl _
    · have := cntP_mo (p := p) (show a ≤ b by omega)
      simp only [cntP]
      split <;> omega
theorem cntP_lt {p : Nat → Bool} {a b : Nat} (h : a < b) (hp : p a = true) : cntP p a < cntP p b := by
  have := cntP_mo (p := p) (show a + 1 ≤ b by omega)
  simp only [cntP] at this
  rw [if_pos hp] at this
  omega
theorem kidx_cnt {p : Nat → Bool} {n : Nat} : ∀ {N : Nat}, n < N → p n = true → kidx p N (cntP p n) = n
  | 0, h, _ => by omega
  | N + 1, h, hp => by
    simp only [kidx]
    by_cases hn : n = N
    · subst hn; rw [if_pos ⟨hp, rfl⟩]
    · have := cntP_lt (p := p) (show n < N by omega) hp
      rw [if_neg (fun q => by omega)]
      exact kidx_cnt (by omega) hp
theorem voS_k {v v' : Nat → Int32} {p : Nat → Bool} {N : Nat} {w w' : Int32} (hl : ∀ l, l < cntP p N → eM v' l = eM v (kidx p N l) ∧ (eO v' l = w' ↔ eO v (kidx p N l) = w)) (hp : ∀ k, k < N → eO v k = w → p k = true) : ∀ n, n ≤ N → voS v' w' (cntP p n) = voS v w n
  | 0, _ => rfl
  | n + 1, hn => by
    have ih := voS_k hl hp n (by omega)
    simp only [cntP, voS]
    by_cases hpn : p n = true
    · rw [if_pos hpn]
      simp only [voS]
      obtain ⟨g1, g2⟩ := hl (cntP p n) (cntP_lt (by omega) hpn)
      rw [kidx_cnt (by omega) hpn] at g1 g2
      rw [ih, g1]
      by_cases ho : eO v n = w
      · rw [if_pos (g2.mpr ho), if_pos ho]
      · rw [if_neg (fun q => ho (g2.mp q)), if_neg ho]
    · rw [if_neg hpn, Nat.add_zero, ih, if_neg (fun q => hpn (hp n (by omega) q)), Int32.add_zero]
theorem PX_bend {e1 e2 k : Nat} {v : Nat → Int32} {b : Int32} (h : PX e1 e2 v) (hc : cntOk v) (hk : k < nW v) : PX e1 e2 (bendV v k b) := by
  have h12 := hc.2.1
  obtain ⟨d1, d2, d3⟩ := bend_c (b := b) (show k < 12 by omega) hc
  have bo : ∀ j, j < 108 → j ≠ 11 → ¬ (36 + 6 * k ≤ j ∧ j < 42 + 6 * k) → bendV v k b j = v j := fun j h1 h2 h3 => by rw [bend_lo h1 h2, bgV_o h3]
  obtain ⟨p1, p2, p3⟩ := h
  have ko : ∀ l, l < fgN v (nI k) → kidx (kpP v (nI k)) (sN v) l < sN v ∧ kpP v (nI k) (kidx (kpP v (nI k)) (sN v) l) = true := fun l hl => (kidx_ok (p := kpP v (nI k)) (g := fun _ => 0) hl).2
  refine ⟨fun i hi => ?_, fun i hi => ?_, fun l hl => ?_⟩
  · have := p1 i hi
    unfold PS at *
    rw [bo _ (by omega) (by omega) (by omega), bo _ (by omega) (by omega) (by omega), bo _ (by omega) (by omega) (by omega)]
    exact this
  · rw [d2] at hi
    by_cases hik : i = k
    · subst hik
      unfold PW
      rw [bend_lo (by omega) (by omega), bend_lo (by omega) (by omega), bend_lo (by omega) (by omega), bend_lo (by omega) (by omega), bgV_0, bgV_z (by omega) (by omega), bgV_z (by omega) (by omega), bgV_z (by omega) (by omega), d3]
      rw [voS_0 (fun l hl => by rw [(bend_e (b := b) (show i < 12 by omega) hl).1]; exact of_decide_eq_true (ko l hl).2)]
      exact ⟨1, rfl, by omega, ⟨0, by omega, rfl⟩, ⟨0, by omega, rfl⟩, rfl, fun q => by omega, fun _ => rfl, fun q => by omega⟩
    · have := p2 i hi
      unfold PW at *
      rw [bo _ (by omega) (by omega) (by omega), bo _ (by omega) (by omega) (by omega), bo _ (by omega) (by omega) (by omega), bo _ (by omega) (by omega) (by omega), d3]
      rw [show voS (bendV v k b) (nI i) (fgN v (nI k)) = voS v (nI i) (sN v) from voS_k (p := kpP v (nI k)) (fun l hl => by
        obtain ⟨s1, s2, s3, s4⟩ := bend_e (b := b) (show k < 12 by omega) hl
        exact ⟨s3, by rw [s1]⟩) (fun l hl ho => decide_eq_true (fun q => by rw [ho] at q; have := (nI_eq (by omega) (by omega)).mp q; omega)) (sN v) (Nat.le_refl _)]
      exact this
  · rw [d3] at hl
    obtain ⟨s1, s2, s3, s4⟩ := bend_e (b := b) (show k < 12 by omega) hl
    have := p3 _ (ko l hl).1
    unfold PE at *
    rw [s1, s2, s3, d2]
    exact this
theorem dcO_n {k a : Nat} (hk : k < 12) (ha : a < 12) : dcO (nI k) 1 (nI a) = nI (if k < a then a - 1 else a) := by
  have one : ¬ (1 : Int32) = 0 := by decide
  unfold dcO
  by_cases h : k < a
  · rw [if_pos ⟨one, nI_lt h (by omega)⟩, if_pos h, nI_pr (by omega)]
  · rw [if_neg (fun q => absurd q.2 (nI_nlt (by omega) (by omega))), if_neg h]
theorem PX_drop {e1 e2 k : Nat} {v : Nat → Int32} (h : PX e1 e2 v) (hc : cntOk v) (hk : k < nW v) : PX e1 e2 (dropV v k (nW v)) := by
  have h12 := hc.2.1
  obtain ⟨d1, d2, d3⟩ := drop_c hk hc
  have bo : ∀ j, j < 36 → j ≠ 6 → j ≠ 11 → dropV v k (nW v) j = v j := fun j h1 h2 h3 => by rw [drop_lo hk (by omega) h3 h12, dr1_o h2 (by omega) hk]
  obtain ⟨p1, p2, p3⟩ := h
  have ko : ∀ l, l < fgN v (nI k) → kidx (kpP v (nI k)) (sN v) l < sN v ∧ kpP v (nI k) (kidx (kpP v (nI k)) (sN v) l) = true := fun l hl => (kidx_ok (p := kpP v (nI k)) (g := fun _ => 0) hl).2
  have own : ∀ l, l < fgN v (nI k) → ∃ a, a < nW v ∧ a ≠ k ∧ eO v (kidx (kpP v (nI k)) (sN v) l) = nI a ∧ eO (dropV v k (nW v)) l = nI (if k < a then a - 1 else a) := fun l hl => by
    obtain ⟨-, -, a, q1, q2⟩ := p3 _ (ko l hl).1
    have q3 := of_decide_eq_true (ko l hl).2
    refine ⟨a, q1, fun q => q3 (by rw [q2, q]), q2, ?_⟩
    rw [(drop_e hk h12 hl).1, q2, dcO_n (by omega) (by omega)]
  refine ⟨fun i hi => ?_, fun i hi => ?_, fun l hl => ?_⟩
  · have := p1 i hi
    unfold PS at *
    rw [bo _ (by omega) (by omega) (by omega), bo _ (by omega) (by omega) (by omega), bo _ (by omega) (by omega) (by omega)]
    exact this
  · rw [d2] at hi
    have sum : ∀ i', (i' = if k ≤ i then i + 1 else i) → voS (dropV v k (nW v)) (nI i) (fgN v (nI k)) = voS v (nI i') (sN v) := fun i' hi' => voS_k (p := kpP v (nI k)) (fun l hl => by
        obtain ⟨s1, s2, s3, s4⟩ := drop_e hk h12 hl
        obtain ⟨a, a1, a2, a3, a4⟩ := own l hl
        refine ⟨s3, ?_⟩
        rw [a3, a4, nI_eq (by split <;> omega) (by omega), nI_eq (by omega) (by split at hi' <;> omega)]
        subst hi'
        split <;> split <;> omega) (fun l hl ho => decide_eq_true (fun q => by rw [ho] at q; have := (nI_eq (by split at hi' <;> omega) (by omega)).mp q; split at hi' <;> omega)) (sN v) (Nat.le_refl _)
    unfold PW
    rw [drop_lo hk (by omega) (by omega) h12, drop_lo hk (by omega) (by omega) h12, drop_lo hk (by omega) (by omega) h12, drop_lo hk (by omega) (by omega) h12, d3]
    by_cases hik : k ≤ i
    · rw [dr1_s (by omega) (by omega), dr1_s (by omega) (by omega), dr1_s (by omega) (by omega), dr1_s (by omega) (by omega), sum (i + 1) (by rw [if_pos hik])]
      exact p2 (i + 1) (by omega)
    · rw [dr1_o (by omega) (by omega) hk, dr1_o (by omega) (by omega) hk, dr1_o (by omega) (by omega) hk, dr1_o (by omega) (by omega) hk, sum i (by rw [if_neg hik])]
      exact p2 i (by omega)
  · rw [d3] at hl
    obtain ⟨s1, s2, s3, s4⟩ := drop_e hk h12 hl
    obtain ⟨a, a1, a2, a3, a4⟩ := own l hl
    obtain ⟨q1, q2, q3⟩ := p3 _ (ko l hl).1
    refine ⟨by rw [s2]; exact q1, by rw [s3]; exact q2, _, ?_, a4⟩
    rw [d2]
    split <;> omega
theorem PX_row0 : PX 0 0 row0 := by
  have n0 : nW row0 = 0 := by decide
  have n1 : sN row0 = 0 := by decide
  refine ⟨fun i hi => ?_, fun i hi => by omega, fun k hk => by omega⟩
  have : i = 0 ∨ i = 1 ∨ i = 2 ∨ i = 3 ∨ i = 4 ∨ i = 5 := by omega
  rcases this with rfl | rfl | rfl | rfl | rfl | rfl <;> exact ⟨0, 0, 0, by decide, by decide, by decide, by omega, by omega, by omega⟩
