/-! both readings, side by side -/
def chOk (f : Nat → Int32) (L : Nat) : Prop := ∀ i, i < L → ∃ n, 33 ≤ n ∧ n ≤ 126 ∧ f i = nI n
theorem inB_sh {n a b : Nat} (hn : n ≤ 126) (ha : a ≤ 9) (hb : b ≤ 9) : inB (nI n - 48) (nI a) (nI b) = inB (nI n) (nI (48 + a)) (nI (48 + b)) := by
  have e1 : (nI n - 48).toInt = (n : Int) - 48 := by
    rw [t_sub (by rw [nI_toInt (by omega), show (48 : Int32).toInt = 48 from rfl]; omega) (by rw [nI_toInt (by omega), show (48 : Int32).toInt = 48 from rfl]; omega), nI_toInt (by omega), show (48 : Int32).toInt = 48 from rfl]
  unfold inB
  have l1 : (nI a ≤ nI n - 48) ↔ (nI (48 + a) ≤ nI n) := by
    rw [Int32.le_iff_toInt_le, Int32.le_iff_toInt_le, e1, nI_toInt (by omega), nI_toInt (by omega), nI_toInt (by omega)]
    omega
  have l2 : (nI n - 48 ≤ nI b) ↔ (nI n ≤ nI (48 + b)) := by
    rw [Int32.le_iff_toInt_le, Int32.le_iff_toInt_le, e1, nI_toInt (by omega), nI_toInt (by omega), nI_toInt (by omega)]
    omega
  simp only [l1, l2]
theorem dgP_f {f : Nat → Int32} {L p : Nat} {lo hi : Int32} (h : dgB f L p lo hi = false) : dgP f L p lo hi = p := by unfold dgP; rw [h]; rfl
theorem dgV_f {f : Nat → Int32} {L p : Nat} {lo hi : Int32} (h : dgB f L p lo hi = false) : dgV f L p lo hi = -1 := by unfold dgV; rw [h]; rfl
theorem dgV_t {f : Nat → Int32} {L p : Nat} {lo hi : Int32} (h : dgB f L p lo hi = true) : dgV f L p lo hi = f p - 48 := by unfold dgV; rw [h]; rfl
theorem dg_tk {f : Nat → Int32} {L : Nat} (h : chOk f L) (p a b : Nat) (ha : a ≤ 9) (hb : b ≤ 9) : tk f L (p, false) (nI (48 + a)) (nI (48 + b)) = (dgP f L p (nI a) (nI b), !dgB f L p (nI a) (nI b)) ∧ (dgB f L p (nI a) (nI b) = true → dgV f L p (nI a) (nI b) = tkC f L (p, false) - 48) := by
  by_cases hp : p < L
  · obtain ⟨n, hn1, hn2, e⟩ := h p hp
    have eb : dgB f L p (nI a) (nI b) = inB (f p) (nI (48 + a)) (nI (48 + b)) := by
      unfold dgB
      rw [e, inB_sh hn2 ha hb]
      simp [hp]
    have ec : tkC f L (p, false) = f p := by simp [tkC, hp]
    constructor
    · unfold tk dgP
      rw [ec, eb]
      cases inB (f p) (nI (48 + a)) (nI (48 + b)) <;> simp
    · intro hd
      unfold dgV
      rw [hd, ec]
      rfl
  · have eb : dgB f L p (nI a) (nI b) = false := by simp [dgB, hp]
    have ec : tkC f L (p, false) = 0 := by simp [tkC, hp]
    have e0 : inB 0 (nI (48 + a)) (nI (48 + b)) = false := by
      refine decide_eq_false (fun q => ?_)
      exact absurd q.1 (i_nle.mpr (nI_lt (a := 0) (by omega) (by omega)))
    constructor
    · unfold tk dgP
      rw [ec, eb, e0]
      simp
    · intro hd
      rw [eb] at hd
      cases hd
theorem sg_tk {f : Nat → Int32} {L p : Nat} {c : Int32} (hc : 0 < c) : tk f L (p, false) c c = (sgP f L p c, !sgB f L p c) := by
  have ei : ∀ x, inB x c c = decide (x = c) := by
    intro x
    unfold inB
    by_cases hx : x = c
    · subst hx; rw [decide_eq_true ⟨Int32.le_refl x, Int32.le_refl x⟩]; simp
    · rw [decide_eq_false (fun q => hx (Int32.le_antisymm q.2 q.1))]; simp [hx]
  by_cases hp : p < L
  · have ec : tkC f L (p, false) = f p := by simp [tkC, hp]
    unfold tk sgP sgB
    rw [ec, ei]
    by_cases hx : f p = c <;> simp [hp, hx]
  · have ec : tkC f L (p, false) = 0 := by simp [tkC, hp]
    have h0 : ¬ (0 : Int32) = c := fun q => by rw [← q] at hc; exact absurd hc (by decide)
    unfold tk sgP sgB
    rw [ec, ei]
    simp [hp, h0]
theorem nx_ff {f : Nat → Int32} {L p : Nat} {lo hi : Int32} : nx f L (p, false) lo hi = (decide (p < L) && inB (f p) lo hi) := by simp [nx]
theorem dg_nx {f : Nat → Int32} {L : Nat} (h : chOk f L) (p a b : Nat) (ha : a ≤ 9) (hb : b ≤ 9) : nx f L (p, false) (nI (48 + a)) (nI (48 + b)) = dgB f L p (nI a) (nI b) := by
  rw [nx_ff]
  unfold dgB
  by_cases hp : p < L
  · obtain ⟨n, hn1, hn2, e⟩ := h p hp
    rw [e, inB_sh hn2 ha hb]
  · simp [hp]
theorem wn_tw {f : Nat → Int32} {L : Nat} (h : chOk f L) (p : Nat) : (wnV f L p < 0 → (tw f L (p, false)).1 = (p, true) ∧ wnP f L p = p) ∧ (¬ wnV f L p < 0 → tw f L (p, false) = ((wnP f L p, false), wnV f L p)) := by
  obtain ⟨t1, t2⟩ := dg_tk h p 0 9 (by decide) (by decide)
  have t1 : tk f L (p, false) 48 57 = (dgP f L p 0 9, !dgB f L p 0 9) := t1
  have t2 : dgB f L p 0 9 = true → dgV f L p 0 9 = tkC f L (p, false) - 48 := t2
  have hn := dgV_neg (f := f) (L := L) (p := p) (lo := 0) (hi := 9) (by decide)
  unfold tw wnV wnP
  rw [t1]
  cases hd : dgB f L p 0 9 with
  | false =>
    have e1 : dgV f L p 0 9 = -1 := dgV_f hd
    have e2 : dgP f L p 0 9 = p := dgP_f hd
    rw [e1, e2]
    simp only [Bool.not_false, nx_bad (f := f) (L := L) (s := (p, true)) (lo := 48) (hi := 49) rfl]
    refine ⟨fun _ => ?_, fun q => absurd (by rw [if_neg (by decide)]; decide) q⟩
    simp
  | true =>
    rw [hd] at hn
    have hn : ¬ dgV f L p 0 9 < 0 := fun q => by rw [hn] at q; cases q
    rw [← t2 hd]
    simp only [Bool.not_true]
    obtain ⟨u1, u2⟩ := dg_tk h (dgP f L p 0 9) 0 1 (by decide) (by decide)
    have u1 : tk f L (dgP f L p 0 9, false) 48 49 = (dgP f L (dgP f L p 0 9) 0 1, !dgB f L (dgP f L p 0 9) 0 1) := u1
    have u2 : dgB f L (dgP f L p 0 9) 0 1 = true → dgV f L (dgP f L p 0 9) 0 1 = tkC f L (dgP f L p 0 9, false) - 48 := u2
    have u3 : nx f L (dgP f L p 0 9, false) 48 49 = dgB f L (dgP f L p 0 9) 0 1 := dg_nx h (dgP f L p 0 9) 0 1 (by decide) (by decide)
    have hm := dgV_neg (f := f) (L := L) (p := dgP f L p 0 9) (lo := 0) (hi := 1) (by decide)
    rw [u1, u3]
    by_cases e1 : dgV f L p 0 9 = 1
    · cases hd2 : dgB f L (dgP f L p 0 9) 0 1 with
      | false =>
        rw [hd2] at hm
        have e3 : dgP f L (dgP f L p 0 9) 0 1 = dgP f L p 0 9 := dgP_f hd2
        simp only [e1, hm, e3, if_true, Bool.false_eq_true, and_false, if_false]
        exact ⟨fun q => absurd q (by decide), fun _ => by trivial⟩
      | true =>
        rw [hd2] at hm
        have hm : ¬ dgV f L (dgP f L p 0 9) 0 1 < 0 := fun q => by rw [hm] at q; cases q
        rw [← u2 hd2]
        simp only [e1, hm, if_true, if_false, and_self, Bool.not_true]
        refine ⟨fun q => ?_, fun _ => by trivial⟩
        exfalso
        have hp2 : dgV f L (dgP f L p 0 9) 0 1 = f (dgP f L p 0 9) - 48 := dgV_t hd2
        unfold dgB at hd2
        rw [Bool.and_eq_true] at hd2
        obtain ⟨m, hm3, hm4⟩ := inB_k (c := 1) (by decide) hd2.2
        rw [hp2, hm4, show (10 : Int32) = nI 10 from rfl, nI_add] at q
        exact nI_pos (by omega) q
    · simp only [e1, if_false, false_and]
      exact ⟨fun q => absurd q hn, fun _ => by trivial⟩
