/-! ===== the class: the ballot changes ===== -/
def cmpF (p : Nat → Bool) (g : Nat → Int32) : Nat → (Nat → Int32)
  | 0 => g
  | k + 1 => if p k = true then up1 (cmpF p g k) (cntP p k) (g k) else cmpF p g k
theorem cmpF_hi (p : Nat → Bool) (g : Nat → Int32) : ∀ k j, cntP p k ≤ j → cmpF p g k j = g j
  | 0, j, _ => rfl
  | k + 1, j, h => by
    simp only [cntP] at h
    simp only [cmpF]
    split
    · next hp =>
      rw [if_pos hp] at h
      rw [up1_ne _ _ _ (by omega)]
      exact cmpF_hi p g k j (by omega)
    · next hp =>
      rw [if_neg hp] at h
      exact cmpF_hi p g k j (by omega)
theorem cmpF_R {p : Nat → Bool} {g g' : Nat → Int32} {R : Int32 → Int32 → Prop} : ∀ {n : Nat}, (∀ k, k < n → R (g k) (g' k)) → ∀ i, i < cntP p n → R (cmpF p g n i) (cmpF p g' n i)
  | 0, _, i, hi => by simp only [cntP] at hi; omega
  | n + 1, h, i, hi => by
    have ih := cmpF_R (p := p) (fun k hk => h k (Nat.lt_succ_of_lt hk))
    simp only [cntP] at hi
    simp only [cmpF]
    split
    · next hp =>
      rw [if_pos hp] at hi
      simp only [up1]
      by_cases hin : i = cntP p n
      · rw [if_pos hin, if_pos hin]; exact h n (by omega)
      · rw [if_neg hin, if_neg hin]; exact ih i (by omega)
    · next hp =>
      rw [if_neg hp] at hi
      exact ih i (by omega)
theorem cmpF_map (p : Nat → Bool) (g : Nat → Int32) (d : Int32 → Int32) : ∀ n i, cmpF p (fun k => d (g k)) n i = d (cmpF p g n i)
  | 0, i => rfl
  | n + 1, i => by
    simp only [cmpF]
    split
    · simp only [up1]
      split
      · rfl
      · exact cmpF_map p g d n i
    · exact cmpF_map p g d n i
/-- where an entry that is kept was -/
def kidx (p : Nat → Bool) : Nat → Nat → Nat
  | 0, i => i
  | k + 1, i => if p k = true ∧ i = cntP p k then k else kidx p k i
theorem kidx_ok {p : Nat → Bool} {g : Nat → Int32} : ∀ {n i : Nat}, i < cntP p n → cmpF p g n i = g (kidx p n i) ∧ kidx p n i < n ∧ p (kidx p n i) = true
  | 0, i, hi => by simp only [cntP] at hi; omega
  | n + 1, i, hi => by
    simp only [cntP] at hi
    simp only [cmpF, kidx]
    by_cases hp : p n = true
    · rw [if_pos hp] at hi
      rw [if_pos hp]
      simp only [up1]
      by_cases hin : i = cntP p n
      · rw [if_pos hin, if_pos ⟨hp, hin⟩]; exact ⟨rfl, by omega, hp⟩
      · rw [if_neg hin, if_neg (fun q => hin q.2)]
        obtain ⟨h1, h2, h3⟩ := kidx_ok (g := g) (show i < cntP p n by omega)
        exact ⟨h1, by omega, h3⟩
    · rw [if_neg hp] at hi
      rw [if_neg hp, if_neg (fun q => hp q.1)]
      obtain ⟨h1, h2, h3⟩ := kidx_ok (g := g) (show i < cntP p n by omega)
      exact ⟨h1, by omega, h3⟩
theorem kidx_inj {p : Nat → Bool} : ∀ {n i j : Nat}, i < cntP p n → j < cntP p n → kidx p n i = kidx p n j → i = j
  | 0, i, j, hi, _, _ => by simp only [cntP] at hi; omega
  | n + 1, i, j, hi, hj, h => by
    simp only [cntP] at hi hj
    simp only [kidx] at h
    by_cases hp : p n = true
    · rw [if_pos hp] at hi hj
      by_cases h1 : i = cntP p n
      · by_cases h2 : j = cntP p n
        · omega
        · rw [if_pos ⟨hp, h1⟩, if_neg (fun q => h2 q.2)] at h
          have := (kidx_ok (g := fun _ => 0) (show j < cntP p n by omega)).2.1
          omega
      · by_cases h2 : j = cntP p n
        · rw [if_neg (fun q => h1 q.2), if_pos ⟨hp, h2⟩] at h
          have := (kidx_ok (g := fun _ => 0) (show i < cntP p n by omega)).2.1
          omega
        · rw [if_neg (fun q => h1 q.2), if_neg (fun q => h2 q.2)] at h
          exact kidx_inj (by omega) (by omega) h
    · rw [if_neg hp] at hi hj
      rw [if_neg (fun q => hp q.1), if_neg (fun q => hp q.1)] at h
      exact kidx_inj (by omega) (by omega) h
/-! what the reference's forgetting leaves, entry by entry -/
theorem eO_e (u : Nat → Int32) (n : Nat) (o h m x : Int32) (i : Nat) : eO (entW u n o h m x) i = if i = n then o else eO u i := by
  unfold eO entW
  by_cases hi : i = n
  · subst hi
    rw [if_pos rfl, up1_ne _ _ _ (by omega), up1_ne _ _ _ (by omega), up1_ne _ _ _ (by omega), up1_eq]
  · rw [if_neg hi, up1_ne _ _ _ (by omega), up1_ne _ _ _ (by omega), up1_ne _ _ _ (by omega), up1_ne _ _ _ (by omega)]
theorem eH_e (u : Nat → Int32) (n : Nat) (o h m x : Int32) (i : Nat) : eH (entW u n o h m x) i = if i = n then h else eH u i := by
  unfold eH entW
  by_cases hi : i = n
  · subst hi
    rw [if_pos rfl, up1_ne _ _ _ (by omega), up1_ne _ _ _ (by omega), up1_eq]
  · rw [if_neg hi, up1_ne _ _ _ (by omega), up1_ne _ _ _ (by omega), up1_ne _ _ _ (by omega), up1_ne _ _ _ (by omega)]
theorem eM_e (u : Nat → Int32) (n : Nat) (o h m x : Int32) (i : Nat) : eM (entW u n o h m x) i = if i = n then m else eM u i := by
  unfold eM entW
  by_cases hi : i = n
  · subst hi
    rw [if_pos rfl, up1_ne _ _ _ (by omega), up1_eq]
  · rw [if_neg hi, up1_ne _ _ _ (by omega), up1_ne _ _ _ (by omega), up1_ne _ _ _ (by omega), up1_ne _ _ _ (by omega)]
theorem eW_e (u : Nat → Int32) (n : Nat) (o h m x : Int32) (i : Nat) : eW (entW u n o h m x) i = if i = n then x else eW u i := by
  unfold eW entW
  by_cases hi : i = n
  · subst hi
    rw [if_pos rfl, up1_eq]
  · rw [if_neg hi, up1_ne _ _ _ (by omega), up1_ne _ _ _ (by omega), up1_ne _ _ _ (by omega), up1_ne _ _ _ (by omega)]
theorem fgV_e (v : Nat → Int32) (w d : Int32) : ∀ k i, i < cntP (kpP v w) k → eO (fgV v w d k) i = cmpF (kpP v w) (fun j => dcO w d (eO v j)) k i ∧ eH (fgV v w d k) i = cmpF (kpP v w) (eH v) k i ∧ eM (fgV v w d k) i = cmpF (kpP v w) (eM v) k i ∧ eW (fgV v w d k) i = cmpF (kpP v w) (eW v) k i
  | 0, i, hi => by simp only [cntP] at hi; omega
  | k + 1, i, hi => by
    simp only [cntP] at hi
    simp only [fgV, cmpF]
    by_cases hk : eO v k = w
    · have hp : ¬ kpP v w k = true := by simp [kpP, hk]
      rw [if_neg hp] at hi
      simp only [if_pos hk, if_neg hp]
      exact fgV_e v w d k i (by omega)
    · have hp : kpP v w k = true := by simp [kpP, hk]
      rw [if_pos hp] at hi
      simp only [if_neg hk, if_pos hp, eO_e, eH_e, eM_e, eW_e, up1]
      by_cases hin : i = cntP (kpP v w) k
      · simp only [if_pos hin]; simp
      · simp only [if_neg hin]
        exact fgV_e v w d k i (by omega)
def fgN (v : Nat → Int32) (w : Int32) : Nat := cntP (kpP v w) (sN v)
theorem fgA_n (v : Nat → Int32) (w d : Int32) (h : sN v ≤ 170) : fgA v w d 11 = nI (fgN v w) ∧ sN (fgA v w d) = fgN v w ∧ fgN v w ≤ sN v := by
  have hle := cntP_le (kpP v w) (sN v)
  have e : fgA v w d 11 = nI (fgN v w) := by unfold fgA fgN; rw [up1_eq]
  refine ⟨e, ?_, hle⟩
  unfold sN at *
  rw [e, nI_clamp (by unfold fgN sN; omega)]
theorem fgA_e (v : Nat → Int32) (w d : Int32) {i : Nat} (hi : i < fgN v w) : eO (fgA v w d) i = dcO w d (eO v (kidx (kpP v w) (sN v) i)) ∧ eH (fgA v w d) i = eH v (kidx (kpP v w) (sN v) i) ∧ eM (fgA v w d) i = eM v (kidx (kpP v w) (sN v) i) ∧ eW (fgA v w d) i = eW v (kidx (kpP v w) (sN v) i) := by
  have hg := fgV_e v w d (sN v) i hi
  have e : ∀ j, 108 ≤ j → j < 108 + 4 * fgN v w → fgA v w d j = fgV v w d (sN v) j := by
    intro j h1 h2
    unfold fgA
    rw [up1_ne _ _ _ (by omega)]
    simp only [zroN]
    rw [if_neg (by unfold fgN at h2; omega)]
  unfold eO eH eM eW at *
  rw [e _ (by omega) (by omega), e _ (by omega) (by omega), e _ (by omega) (by omega), e _ (by omega) (by omega), hg.1, hg.2.1, hg.2.2.1, hg.2.2.2]
  exact ⟨by rw [(kidx_ok (p := kpP v w) (g := fun j => dcO w d (v (108 + 4 * j))) hi).1], (kidx_ok (p := kpP v w) hi).1, (kidx_ok (p := kpP v w) hi).1, (kidx_ok (p := kpP v w) hi).1⟩
