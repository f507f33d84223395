/-! ===== what is told of a word and of its answers ===== -/
section QW
variable {v : Nat → Int32} {w : Nat}
theorem qw_is (hc : cntOk v) (hw : w < nW v) : isW v (nI w) = true := isW_nI hc.1 hc.2.1 hw
theorem qw_no (hc : cntOk v) {k : Nat} (hk : nW v ≤ k) (hk2 : k < 2 ^ 31) : isW v (nI k) = false := by
  cases e : isW v (nI k) with
  | false => rfl
  | true =>
    obtain ⟨j, hj, e2⟩ := isW_k hc.1 hc.2.1 e
    have h12 := hc.2.1
    have := (nI_eq hk2 (by omega)).mp e2
    omega
theorem qw_0 (hc : cntOk v) (hw : w < nW v) : qWord v (nI w) 0 = v (36 + 6 * w) := by
  have h12 := hc.2.1
  unfold qWord
  rw [if_pos (qw_is hc hw), if_pos rfl, nI_clamp (by omega)]
theorem qw_1 (hc : cntOk v) (hw : w < nW v) : qWord v (nI w) 1 = v (37 + 6 * w) := by
  have h12 := hc.2.1
  unfold qWord
  rw [if_pos (qw_is hc hw), if_neg (by decide), if_pos rfl, nI_clamp (by omega)]
theorem qw_2 (hc : cntOk v) (hw : w < nW v) : qWord v (nI w) 2 = v (40 + 6 * w) := by
  have h12 := hc.2.1
  unfold qWord
  rw [if_pos (qw_is hc hw), if_neg (by decide), if_neg (by decide), if_pos rfl, nI_clamp (by omega)]
theorem qw_3 (hc : cntOk v) (hw : w < nW v) : qWord v (nI w) 3 = nI (nOwn v w) := by
  unfold qWord
  rw [if_pos (qw_is hc hw), if_neg (by decide), if_neg (by decide), if_neg (by decide), if_pos rfl]
  rfl
theorem qw_4 (hc : cntOk v) (hw : w < nW v) : qWord v (nI w) 4 = mWt v (nI w) := by
  unfold qWord
  rw [if_pos (qw_is hc hw), if_neg (by decide), if_neg (by decide), if_neg (by decide), if_neg (by decide), if_pos rfl]
theorem qw_5 (hc : cntOk v) (hw : w < nW v) : qWord v (nI w) 5 = mLo v (nI w) := by
  unfold qWord
  rw [if_pos (qw_is hc hw), if_neg (by decide), if_neg (by decide), if_neg (by decide), if_neg (by decide), if_neg (by decide), if_pos rfl]
theorem qw_6 (hc : cntOk v) (hw : w < nW v) : qWord v (nI w) 6 = meanI (v (41 + 6 * w)) (v (40 + 6 * w)) := by
  have h12 := hc.2.1
  unfold qWord
  rw [if_pos (qw_is hc hw), if_neg (by decide), if_neg (by decide), if_neg (by decide), if_neg (by decide), if_neg (by decide), if_neg (by decide), if_pos rfl, nI_clamp (by omega)]
theorem qw_7 (hc : cntOk v) (hw : w < nW v) : qWord v (nI w) 7 = v (39 + 6 * w) := by
  have h12 := hc.2.1
  unfold qWord
  rw [if_pos (qw_is hc hw), if_neg (by decide), if_neg (by decide), if_neg (by decide), if_neg (by decide), if_neg (by decide), if_neg (by decide), if_neg (by decide), if_pos rfl, nI_clamp (by omega)]
theorem qw_8 (hc : cntOk v) (hw : w < nW v) : qWord v (nI w) 8 = if v (38 + 6 * w) = 0 then -6 else lMany (dlc 27 (v (38 + 6 * w))) := by
  have h12 := hc.2.1
  unfold qWord
  rw [if_pos (qw_is hc hw), if_neg (by decide), if_neg (by decide), if_neg (by decide), if_neg (by decide), if_neg (by decide), if_neg (by decide), if_neg (by decide), if_neg (by decide), if_pos rfl, nI_clamp (by omega)]
theorem qw_n (x : Int32) (h : isW v (nI w) = false) : qWord v (nI w) x = -1 := by
  unfold qWord
  rw [if_neg (by rw [h]; decide)]
theorem qv_b (hc : cntOk v) (hw : w < nW v) {k : Nat} (hk : k < nOwn v w) : isW v (nI w) = true ∧ ¬ nI k < 0 := by
  have := cntP_le (ownB v w) (sN v)
  have := hc.2.2.2
  unfold nOwn at hk
  exact ⟨qw_is hc hw, nI_pos (by omega)⟩
theorem qv_0 (hc : cntOk v) (hw : w < nW v) {k : Nat} (hk : k < nOwn v w) : qVote v (nI w) (nI k) 0 = eM v (kx v w k) := by
  unfold qVote
  rw [if_pos (qv_b hc hw hk), entO_k hc.2.2.2 hk]
  simp only
  rw [if_pos trivial]
theorem qv_1 (hc : cntOk v) (hw : w < nW v) {k : Nat} (hk : k < nOwn v w) : qVote v (nI w) (nI k) 1 = eW v (kx v w k) := by
  unfold qVote
  rw [if_pos (qv_b hc hw hk), entO_k hc.2.2.2 hk]
  simp only
  rw [if_neg (by decide), if_pos trivial]
theorem qv_2 (hc : cntOk v) (hw : w < nW v) {k : Nat} (hk : k < nOwn v w) : qVote v (nI w) (nI k) 2 = nI (cntP (plP (eO v) (eW v) (kx v w k)) (sN v)) := by
  unfold qVote
  rw [if_pos (qv_b hc hw hk), entO_k hc.2.2.2 hk]
  simp only
  rw [if_neg (by decide), if_neg (by decide), if_pos trivial]
theorem qv_3 (hc : cntOk v) (hw : w < nW v) {k : Nat} (hk : k < nOwn v w) : qVote v (nI w) (nI k) 3 = lMany (dlc 27 (eH v (kx v w k))) := by
  unfold qVote
  rw [if_pos (qv_b hc hw hk), entO_k hc.2.2.2 hk]
  simp only
  rw [if_neg (by decide), if_neg (by decide), if_neg (by decide), if_pos trivial]
theorem qv_e (hc : cntOk v) (hw : w < nW v) : qVote v (nI w) (nI (nOwn v w)) 0 = -1 := by
  have := cntP_le (ownB v w) (sN v)
  have h17 := hc.2.2.2
  have hn : nOwn v w < 2 ^ 31 := by unfold nOwn; omega
  unfold qVote
  rw [if_pos ⟨qw_is hc hw, nI_pos hn⟩, entO_end h17 (Nat.le_refl _) hn]
end QW
/-! few letters: few answers -/
theorem ab_len : abC.all (fun n => decide (lMany (dlc 27 (nI n)) = nI (lsOf n).length) && decide ((lsOf n).length = 1 ∨ (lsOf n).length = 2)) = true := by decide +kernel
theorem isAB_len {c : Int32} (h : isAB c) : ∃ n, n ∈ abC ∧ c = nI n ∧ lMany (dlc 27 c) = nI (lsOf n).length ∧ ((lsOf n).length = 1 ∨ (lsOf n).length = 2) := by
  obtain ⟨n, hn, rfl⟩ := h
  have h1 := List.all_eq_true.mp ab_len n hn
  simp only [Bool.and_eq_true, decide_eq_true_eq] at h1
  exact ⟨n, hn, rfl, h1.1, h1.2⟩
def ixAB (c : Int32) : Nat := if c = 1 then 0 else if c = 2 then 1 else if c = 28 then 2 else if c = 29 then 3 else if c = 55 then 4 else 5
theorem ix_inj : abC.all (fun a => abC.all (fun b => decide (ixAB (nI a) = ixAB (nI b) → a = b))) = true := by decide +kernel
theorem ixAB_inj {a b : Int32} (ha : isAB a) (hb : isAB b) (h : ixAB a = ixAB b) : a = b := by
  obtain ⟨n, hn, rfl⟩ := ha
  obtain ⟨m, hm, rfl⟩ := hb
  have h1 := List.all_eq_true.mp (List.all_eq_true.mp ix_inj n hn) m hm
  rw [of_decide_eq_true h1 h]
theorem ixAB_lt (c : Int32) : ixAB c < 6 := by
  unfold ixAB
  repeat' split
  all_goals omega
theorem own_6 {e : Nat} {v : Nat → Int32} {w : Nat} (h : PV e v) : nOwn v w ≤ 6 := by
  by_cases h6 : nOwn v w ≤ 6
  · exact h6
  · exfalso
    refine no_inj 6 (fun i => ixAB (eH v (kx v w i))) (fun i _ => ixAB_lt _) (fun i j hi hj he => ?_)
    obtain ⟨a1, a2⟩ := kx_ok (v := v) (w := w) (k := i) (by omega)
    obtain ⟨b1, b2⟩ := kx_ok (v := v) (w := w) (k := j) (by omega)
    have e1 := ixAB_inj (h.2.2.2.2 _ a1).1 (h.2.2.2.2 _ b1).1 he
    exact kx_inj (by omega) (by omega) (h.1.2.2.2.2.1 _ _ a1 b1 (a2.trans b2.symm) e1)
/-! votes, the most weight, the next -/
def gV (v : Nat → Int32) (s : Int32 × Int32 × Int32) (j : Nat) : Int32 × Int32 × Int32 :=
  (s.1 + eM v j, if s.2.1 < eW v j then eW v j else s.2.1, if s.2.1 < eW v j then s.2.1 else if s.2.2 < eW v j then eW v j else s.2.2)
theorem othM_all {f g : Nat → Int32} {w : Int32} {l : Option Nat} : ∀ {n : Nat}, (∀ j, l = some j → n ≤ j) → (∀ k, k < n → 0 ≤ g k) → othM f g w l n = oV (leadO f g w n) g
  | 0, _, _ => rfl
  | n + 1, hl, hg => by
    have ih := othM_all (f := f) (w := w) (l := l) (n := n) (fun j hj => by have := hl j hj; omega) (fun k hk => hg k (by omega))
    have hne : l ≠ some n := fun q => by have := hl n q; omega
    have h0 := hg n (by omega)
    simp only [othM, leadO]
    by_cases hf : f n = w
    · rw [if_pos ⟨hf, hne⟩, ih]
      cases leadO f g w n with
      | none =>
        simp only [oV]
        rw [if_pos hf]
        unfold iMax
        by_cases hp : 0 < g n
        · rw [if_pos hp]
        · rw [if_neg hp]; exact Int32.le_antisymm h0 (i_nlt.mp hp)
      | some j =>
        simp only [oV]
        unfold iMax
        by_cases hp : g j < g n
        · rw [if_pos hp, if_pos ⟨hf, hp⟩]
        · rw [if_neg hp, if_neg (fun q => hp q.2)]
    · rw [if_neg (fun q => hf q.1), ih]
      cases leadO f g w n with
      | none => simp only; rw [if_neg hf]
      | some j => simp only; rw [if_neg (fun q => hf q.1)]
theorem gV_hi {v : Nat → Int32} {a m n : Int32} {j : Nat} (h : m < eW v j) : gV v (a, m, n) j = (a + eM v j, eW v j, m) := by
  show (a + eM v j, (if m < eW v j then eW v j else m), (if m < eW v j then m else if n < eW v j then eW v j else n)) = _
  rw [if_pos h, if_pos h]
theorem gV_mid {v : Nat → Int32} {a m n : Int32} {j : Nat} (h : ¬ m < eW v j) : gV v (a, m, n) j = (a + eM v j, m, iMax n (eW v j)) := by
  show (a + eM v j, (if m < eW v j then eW v j else m), (if m < eW v j then m else if n < eW v j then eW v j else n)) = _
  rw [if_neg h, if_neg h]
  rfl
theorem fV_e {v : Nat → Int32} {w : Nat} : ∀ n, (∀ k, k < n → 0 ≤ eW v k) → fAll (gV v) (0, 0, 0) (ownB v w) n = (voS v (nI w) n, oV (leadO (eO v) (eW v) (nI w) n) (eW v), othM (eO v) (eW v) (nI w) (leadO (eO v) (eW v) (nI w) n) n)
  | 0, _ => rfl
  | n + 1, hg => by
    have ih := fV_e (v := v) (w := w) n (fun k hk => hg k (by omega))
    have h0 := hg n (by omega)
    by_cases hf : eO v n = nI w
    · have a0 : fAll (gV v) (0, 0, 0) (ownB v w) (n + 1) = gV v (fAll (gV v) (0, 0, 0) (ownB v w) n) n := if_pos (show ownB v w n = true from decide_eq_true hf)
      have a1 : voS v (nI w) (n + 1) = voS v (nI w) n + eM v n := by simp only [voS]; rw [if_pos hf]
      have a2 : othM (eO v) (eW v) (nI w) (some n) (n + 1) = oV (leadO (eO v) (eW v) (nI w) n) (eW v) := by
        have : othM (eO v) (eW v) (nI w) (some n) (n + 1) = othM (eO v) (eW v) (nI w) (some n) n := if_neg (fun q => q.2 rfl)
        rw [this]
        exact othM_all (fun j hj => by cases hj; exact Nat.le_refl _) (fun k hk => hg k (by omega))
      rw [a0, ih, a1]
      cases e : leadO (eO v) (eW v) (nI w) n with
      | none =>
        have l1 : leadO (eO v) (eW v) (nI w) (n + 1) = some n := by simp only [leadO, e]; rw [if_pos hf]
        have o1 : oV none (eW v) = 0 := rfl
        rw [e] at a2
        rw [l1, a2, o1, (othM_0 e).1, show oV (some n) (eW v) = eW v n from rfl]
        by_cases hp : 0 < eW v n
        · rw [gV_hi hp]
        · have x0 : eW v n = 0 := Int32.le_antisymm (i_nlt.mp hp) h0
          rw [gV_mid hp, x0]
          rfl
      | some j =>
        have hj := (leadO_lt e).1
        have o1 : oV (some j) (eW v) = eW v j := rfl
        rw [e] at a2
        by_cases hp : eW v j < eW v n
        · have l1 : leadO (eO v) (eW v) (nI w) (n + 1) = some n := by simp only [leadO, e]; rw [if_pos ⟨hf, hp⟩]
          rw [l1, a2, o1, gV_hi hp]
          rfl
        · have l1 : leadO (eO v) (eW v) (nI w) (n + 1) = some j := by simp only [leadO, e]; rw [if_neg (fun q => hp q.2)]
          have l2 : othM (eO v) (eW v) (nI w) (some j) (n + 1) = iMax (othM (eO v) (eW v) (nI w) (some j) n) (eW v n) := if_pos ⟨hf, fun q => by have := Option.some.inj q; omega⟩
          rw [l1, l2, o1, gV_mid hp]
    · have a0 : fAll (gV v) (0, 0, 0) (ownB v w) (n + 1) = fAll (gV v) (0, 0, 0) (ownB v w) n := if_neg (show ¬ ownB v w n = true from fun q => hf (of_decide_eq_true q))
      have a1 : voS v (nI w) (n + 1) = voS v (nI w) n := by simp only [voS]; rw [if_neg hf, Int32.add_zero]
      have l1 : leadO (eO v) (eW v) (nI w) (n + 1) = leadO (eO v) (eW v) (nI w) n := by
        simp only [leadO]
        cases leadO (eO v) (eW v) (nI w) n with
        | none => simp only; rw [if_neg hf]
        | some j => simp only; rw [if_neg (fun q => hf q.1)]
      have l2 : ∀ l, othM (eO v) (eW v) (nI w) l (n + 1) = othM (eO v) (eW v) (nI w) l n := fun l => if_neg (fun q => hf q.1)
      rw [a0, ih, a1, l1, l2]
def FV (v : Nat → Int32) (w k : Nat) : Int32 × Int32 × Int32 := fOwn (gV v) (0, 0, 0) (kx v w) k
def PLv (v : Nat → Int32) (w k : Nat) : Int32 := orI (fun k => nI (cntP (plP (eO v) (eW v) (kx v w k)) (sN v))) k
theorem IV_w0 {T k : Nat} {v : Nat → Int32} (h : IV T v) (hT : T ≤ 512) (hk : k < sN v) : 0 ≤ eW v k := by
  obtain ⟨j, hj, e⟩ := isIx_k (h.2.2.2.1 k hk).1
  rw [e]
  exact nI_pos' (by omega)
theorem FV_end {e : Nat} {v : Nat → Int32} {w : Nat} (h : PV e v) (he : e ≤ 100) (hw : w < nW v) : (FV v w (nOwn v w)).1 = v (40 + 6 * w) ∧ (FV v w (nOwn v w)).2.1 = mWt v (nI w) ∧ (FV v w (nOwn v w)).2.1 - (FV v w (nOwn v w)).2.2 = mLo v (nI w) := by
  have h1 : FV v w (nOwn v w) = fAll (gV v) (0, 0, 0) (ownB v w) (sN v) := fOwn_e (gV v) (0, 0, 0) (sN v) (Nat.le_refl _)
  rw [h1, fV_e (sN v) (fun k hk => IV_w0 h.1 (by omega) hk)]
  obtain ⟨kd, -, -, -, -, q5, -⟩ := h.2.2.2.1 w hw
  exact ⟨q5.symm, rfl, rfl⟩
theorem PL_end {e : Nat} {v : Nat → Int32} {w : Nat} (h : PV e v) : PLv v w (nOwn v w) = (1 : Int32) <<< (nI (nOwn v w) &&& 31) - 1 := by
  have h6 := own_6 (w := w) h
  refine orI_full (r := fun k => cntP (plP (eO v) (eW v) (kx v w k)) (sN v)) (by omega) (fun i _ => rfl) (fun i hi => ?_) (fun i j hi hj he => ?_)
  · obtain ⟨a1, a2⟩ := kx_ok hi
    have := pl_own (f := eO v) (g := eW v) a1
    rw [a2] at this
    exact this
  · obtain ⟨a1, a2⟩ := kx_ok hi
    obtain ⟨b1, b2⟩ := kx_ok hj
    exact kx_inj hi hj (pl_inj a1 b1 (a2.trans b2.symm) he)
theorem cntP_zero {p : Nat → Bool} : ∀ {N : Nat}, cntP p N = 0 → ∀ k, k < N → p k = false
  | 0, _, k, hk => by omega
  | N + 1, h, k, hk => by
    simp only [cntP] at h
    by_cases hp : p N = true
    · rw [if_pos hp] at h; omega
    · by_cases hkN : k = N
      · subst hkN; simpa using hp
      · rw [if_neg hp] at h
        exact cntP_zero (N := N) h k (by omega)
theorem leadO_max {f g : Nat → Int32} {w : Int32} : ∀ {n j : Nat}, leadO f g w n = some j → ∀ i, i < n → f i = w → ¬ g j < g i
  | 0, j, h, _, _, _ => by cases h
  | n + 1, j, h, i, hi, hf => by
    simp only [leadO] at h
    cases e : leadO f g w n with
    | none =>
      rw [e] at h
      simp only at h
      by_cases hin : i = n
      · subst hin
        rw [if_pos hf] at h
        cases h
        exact Int32.lt_irrefl
      · obtain ⟨x, hx⟩ := leadO_ex (g := g) (show i < n by omega) hf
        rw [e] at hx
        cases hx
    | some x =>
      rw [e] at h
      simp only at h
      have ih := leadO_max e
      split at h
      · next hc =>
        cases h
        by_cases hin : i = n
        · subst hin; exact Int32.lt_irrefl
        · intro q
          exact ih i (by omega) hf (Int32.lt_trans hc.2 q)
      · next hc =>
        cases h
        by_cases hin : i = n
        · subst hin; exact fun q => hc ⟨hf, q⟩
        · exact ih i (by omega) hf
theorem first_w {v : Nat → Int32} {w k : Nat} (hk : k < nOwn v w) (h0 : cntP (plP (eO v) (eW v) (kx v w k)) (sN v) = 0) : eW v (kx v w k) = mWt v (nI w) := by
  obtain ⟨a1, a2⟩ := kx_ok hk
  obtain ⟨j, hj⟩ := leadO_ex (g := eW v) a1 a2
  obtain ⟨j1, j2⟩ := leadO_lt hj
  have h1 := leadO_max hj _ a1 a2
  have h2 := of_decide_eq_false (cntP_zero h0 j j1)
  have h3 : ¬ eW v (kx v w k) < eW v j := fun q => h2 ⟨j2.trans a2.symm, Or.inl q⟩
  unfold mWt mLead
  rw [hj]
  exact Int32.le_antisymm (i_nlt.mp h1) (i_nlt.mp h3)
