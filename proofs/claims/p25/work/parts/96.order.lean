/-! ===== places: each once; numbers put together bit by bit ===== -/
theorem cntP_sub {p q : Nat → Bool} : ∀ {N : Nat}, (∀ k, k < N → p k = true → q k = true) → cntP p N ≤ cntP q N
  | 0, _ => Nat.le_refl _
  | N + 1, h => by
    have ih := cntP_sub (p := p) (q := q) (N := N) (fun k hk => h k (by omega))
    simp only [cntP]
    by_cases hp : p N = true
    · rw [if_pos hp, if_pos (h N (by omega) hp)]; omega
    · rw [if_neg hp]; split <;> omega
theorem cntP_ssub {p q : Nat → Bool} {j : Nat} : ∀ {N : Nat}, (∀ k, k < N → p k = true → q k = true) → j < N → p j = false → q j = true → cntP p N < cntP q N
  | 0, _, h, _, _ => by omega
  | N + 1, h, hj, h1, h2 => by
    have ih := cntP_sub (p := p) (q := q) (N := N) (fun k hk => h k (by omega))
    simp only [cntP]
    by_cases hjN : j = N
    · subst hjN
      rw [if_neg (by rw [h1]; decide), if_pos h2]; omega
    · have ih2 := cntP_ssub (fun k hk => h k (by omega)) (show j < N by omega) h1 h2
      by_cases hp : p N = true
      · rw [if_pos hp, if_pos (h N (by omega) hp)]; omega
      · rw [if_neg hp]; split <;> omega
theorem no_inj : ∀ (n : Nat) (r : Nat → Nat), (∀ i, i < n + 1 → r i < n) → (∀ i j, i < n + 1 → j < n + 1 → r i = r j → i = j) → False
  | 0, r, h, _ => by have := h 0 (by omega); omega
  | n + 1, r, h, hi => by
    have x1 := h (n + 1) (by omega)
    refine no_inj n (fun i => if r i = n then r (n + 1) else r i) (fun i hin => ?_) (fun i j h1 h2 he => ?_)
    · have := h i (by omega)
      have d : r i ≠ r (n + 1) := fun q => by have := hi i (n + 1) (by omega) (by omega) q; omega
      show (if r i = n then r (n + 1) else r i) < n
      split <;> omega
    · have d1 : r i ≠ r (n + 1) := fun q => by have := hi i (n + 1) (by omega) (by omega) q; omega
      have d2 : r j ≠ r (n + 1) := fun q => by have := hi j (n + 1) (by omega) (by omega) q; omega
      have he : (if r i = n then r (n + 1) else r i) = (if r j = n then r (n + 1) else r j) := he
      apply hi i j (by omega) (by omega)
      split at he <;> split at he <;> omega
theorem inj_sur {n : Nat} {r : Nat → Nat} (h : ∀ i, i < n → r i < n) (hi : ∀ i j, i < n → j < n → r i = r j → i = j) {b : Nat} (hb : b < n) : ∃ i, i < n ∧ r i = b := by
  by_cases hex : ∃ i, i < n ∧ r i = b
  · exact hex
  · exfalso
    have hne : ∀ i, i < n → r i ≠ b := fun i h1 h2 => hex ⟨i, h1, h2⟩
    obtain ⟨m, rfl⟩ : ∃ m, n = m + 1 := ⟨n - 1, by omega⟩
    refine no_inj m (fun i => if b < r i then r i - 1 else r i) (fun i hin => ?_) (fun i j h1 h2 he => ?_)
    · have := h i hin
      have := hne i hin
      show (if b < r i then r i - 1 else r i) < m
      split <;> omega
    · have a1 := hne i h1
      have a2 := hne j h2
      have he : (if b < r i then r i - 1 else r i) = (if b < r j then r j - 1 else r j) := he
      apply hi i j h1 h2
      split at he <;> split at he <;> omega
def orN (r : Nat → Nat) : Nat → Nat
  | 0 => 0
  | k + 1 => orN r k ||| 2 ^ r k
theorem orN_bit (r : Nat → Nat) (b : Nat) : ∀ n, (orN r n).testBit b = true ↔ ∃ i, i < n ∧ r i = b
  | 0 => by simp [orN]
  | n + 1 => by
    simp only [orN, Nat.testBit_or, Bool.or_eq_true, orN_bit r b n, Nat.testBit_two_pow, decide_eq_true_eq]
    constructor
    · rintro (⟨i, h1, h2⟩ | h)
      · exact ⟨i, by omega, h2⟩
      · exact ⟨n, by omega, h⟩
    · rintro ⟨i, h1, h2⟩
      by_cases hin : i = n
      · subst hin; exact Or.inr h2
      · exact Or.inl ⟨i, by omega, h2⟩
theorem orN_full {n : Nat} {r : Nat → Nat} (h : ∀ i, i < n → r i < n) (hi : ∀ i j, i < n → j < n → r i = r j → i = j) : orN r n = 2 ^ n - 1 := by
  apply Nat.eq_of_testBit_eq
  intro b
  rw [Nat.testBit_two_pow_sub_one]
  by_cases hb : b < n
  · rw [decide_eq_true hb]
    exact (orN_bit r b n).mpr (inj_sur h hi hb)
  · rw [decide_eq_false hb]
    cases e : (orN r n).testBit b with
    | false => rfl
    | true =>
      obtain ⟨i, h1, h2⟩ := (orN_bit r b n).mp e
      have := h i h1
      omega
def orI (r : Nat → Int32) : Nat → Int32
  | 0 => 0
  | k + 1 => orI r k ||| (1 : Int32) <<< (r k &&& 31)
theorem shl_1 : (List.range 31).all (fun r => decide ((1 : Int32) <<< (nI r &&& 31) = nI (2 ^ r))) = true := by decide +kernel
theorem shl_n {r : Nat} (h : r < 31) : (1 : Int32) <<< (nI r &&& 31) = nI (2 ^ r) := of_decide_eq_true (List.all_eq_true.mp shl_1 r (List.mem_range.mpr h))
theorem orI_N {r : Nat → Nat} {g : Nat → Int32} : ∀ {n : Nat}, (∀ i, i < n → g i = nI (r i) ∧ r i < 31) → orI g n = nI (orN r n)
  | 0, _ => rfl
  | n + 1, h => by
    simp only [orI, orN]
    rw [orI_N (fun i hi => h i (by omega)), (h n (by omega)).1, shl_n (h n (by omega)).2, fa_or]
theorem pow_sub : (List.range 31).all (fun n => decide (nI (2 ^ n - 1) = (1 : Int32) <<< (nI n &&& 31) - 1)) = true := by decide +kernel
theorem orI_full {n : Nat} {r : Nat → Nat} {g : Nat → Int32} (hn : n ≤ 30) (hg : ∀ i, i < n → g i = nI (r i)) (h : ∀ i, i < n → r i < n) (hi : ∀ i j, i < n → j < n → r i = r j → i = j) : orI g n = (1 : Int32) <<< (nI n &&& 31) - 1 := by
  rw [orI_N (r := r) (fun i hin => ⟨hg i hin, by have := h i hin; omega⟩), orN_full h hi]
  exact of_decide_eq_true (List.all_eq_true.mp pow_sub n (List.mem_range.mpr (by omega)))
/-! the places of a word's answers, and of the solvers -/
theorem pl_irr (f g : Nat → Int32) (j : Nat) : plP f g j j = false := by
  unfold plP
  refine decide_eq_false (fun q => ?_)
  rcases q.2 with q | q
  · exact absurd q Int32.lt_irrefl
  · omega
theorem pl_tr {f g : Nat → Int32} {i j k : Nat} (h1 : plP f g j i = true) (h2 : plP f g i k = true) : plP f g j k = true := by
  have h1 := of_decide_eq_true h1
  have h2 := of_decide_eq_true h2
  refine decide_eq_true ⟨h2.1.trans h1.1, ?_⟩
  rcases h1.2 with a | a
  · rcases h2.2 with b | b
    · exact Or.inl (Int32.lt_trans a b)
    · exact Or.inl (by rw [b.1]; exact a)
  · rcases h2.2 with b | b
    · exact Or.inl (by rw [← a.1]; exact b)
    · exact Or.inr ⟨b.1.trans a.1, by omega⟩
theorem pl_tot {f g : Nat → Int32} {i j : Nat} (hf : f i = f j) (hij : i ≠ j) : plP f g j i = true ∨ plP f g i j = true := by
  by_cases h1 : g j < g i
  · exact Or.inl (decide_eq_true ⟨hf, Or.inl h1⟩)
  · by_cases h2 : g i < g j
    · exact Or.inr (decide_eq_true ⟨hf.symm, Or.inl h2⟩)
    · have e : g i = g j := Int32.le_antisymm (i_nlt.mp h1) (i_nlt.mp h2)
      by_cases h3 : i < j
      · exact Or.inl (decide_eq_true ⟨hf, Or.inr ⟨e, h3⟩⟩)
      · exact Or.inr (decide_eq_true ⟨hf.symm, Or.inr ⟨e.symm, by omega⟩⟩)
theorem pl_lt {f g : Nat → Int32} {N i j : Nat} (hi : i < N) (h : plP f g j i = true) : cntP (plP f g i) N < cntP (plP f g j) N :=
  cntP_ssub (fun k _ hk => pl_tr h hk) hi (pl_irr f g i) h
theorem pl_own {f g : Nat → Int32} {N j : Nat} (hj : j < N) : cntP (plP f g j) N < cntP (fun k => decide (f k = f j)) N :=
  cntP_ssub (fun k _ hk => decide_eq_true (of_decide_eq_true hk).1) hj (pl_irr f g j) (decide_eq_true rfl)
theorem pl_inj {f g : Nat → Int32} {N i j : Nat} (hi : i < N) (hj : j < N) (hf : f i = f j) (h : cntP (plP f g i) N = cntP (plP f g j) N) : i = j := by
  by_cases hij : i = j
  · exact hij
  · rcases pl_tot (g := g) hf hij with q | q
    · have := pl_lt hi q; omega
    · have := pl_lt hj q; omega
theorem plS_e (g : Nat → Int32) (j : Nat) : plS g j = plP (fun _ => 0) g j := by
  funext k
  unfold plS plP
  simp
theorem orI_c {g g' : Nat → Int32} : ∀ {n : Nat}, (∀ i, i < n → g i = g' i) → orI g n = orI g' n
  | 0, _ => rfl
  | n + 1, h => by
    simp only [orI]
    rw [orI_c (fun i hi => h i (by omega)), h n (by omega)]
theorem or63 (g : Nat → Int32) : orI (fun s => nI (cntP (plS g s) 6)) 6 = 63 := by
  have h := orI_full (n := 6) (r := fun s => cntP (plS g s) 6) (g := fun s => nI (cntP (plS g s) 6)) (by omega) (fun i _ => rfl) (fun i hi => ?_) (fun i j hi hj he => ?_)
  · rw [h]; decide
  · show cntP (plS g i) 6 < 6
    rw [plS_e]
    exact Nat.lt_of_lt_of_le (pl_own (f := fun _ => 0) (g := g) hi) (cntP_le _ 6)
  · have he : cntP (plS g i) 6 = cntP (plS g j) 6 := he
    rw [plS_e, plS_e] at he
    exact pl_inj hi hj rfl he
/-! the answers of one word, one by one -/
def ownB (v : Nat → Int32) (w : Nat) (k : Nat) : Bool := decide (eO v k = nI w)
def nOwn (v : Nat → Int32) (w : Nat) : Nat := cntP (ownB v w) (sN v)
def kx (v : Nat → Int32) (w k : Nat) : Nat := kidx (ownB v w) (sN v) k
theorem kidx_val {p : Nat → Bool} : ∀ {N i : Nat}, i < cntP p N → cntP p (kidx p N i) = i
  | 0, i, h => by simp only [cntP] at h; omega
  | N + 1, i, h => by
    simp only [kidx]
    by_cases hc : p N = true ∧ i = cntP p N
    · rw [if_pos hc]; exact hc.2.symm
    · rw [if_neg hc]
      simp only [cntP] at h
      refine kidx_val ?_
      by_cases hp : p N = true
      · rw [if_pos hp] at h
        have : i ≠ cntP p N := fun q => hc ⟨hp, q⟩
        omega
      · rw [if_neg hp] at h; omega
theorem fstP_eq {p : Nat → Bool} {N j : Nat} (hj : j < N) (h : p j = true) (h0 : ∀ i, i < j → p i = false) : fstP p N = some j :=
  fstP_hit (fstP_none.mpr h0) h hj
theorem kx_ok {v : Nat → Int32} {w k : Nat} (hk : k < nOwn v w) : kx v w k < sN v ∧ eO v (kx v w k) = nI w := by
  have h := (kidx_ok (p := ownB v w) (g := fun _ => 0) hk).2
  exact ⟨h.1, of_decide_eq_true h.2⟩
theorem kx_inj {v : Nat → Int32} {w i j : Nat} (hi : i < nOwn v w) (hj : j < nOwn v w) (h : kx v w i = kx v w j) : i = j := kidx_inj hi hj h
theorem entO_k {v : Nat → Int32} {w k : Nat} (hs : sN v ≤ 170) (hk : k < nOwn v w) : entO v (nI w) (nI k) = some (kx v w k) := by
  obtain ⟨h1, h2⟩ := kx_ok hk
  have h3 : cntP (ownB v w) (kx v w k) = k := kidx_val hk
  have hk' : k < cntP (ownB v w) (sN v) := hk
  have hk2 := cntP_le (ownB v w) (sN v)
  refine fstP_eq h1 (decide_eq_true ⟨h2, by rw [show cntP (fun k => decide (eO v k = nI w)) (kx v w k) = k from h3]⟩) (fun i hi => decide_eq_false (fun q => ?_))
  have h4 := cntP_lt (p := ownB v w) hi (decide_eq_true q.1)
  have h5 := cntP_le (ownB v w) i
  have h6 : cntP (ownB v w) i = k := (nI_eq (by omega) (by omega)).mp q.2
  omega
theorem entO_end {v : Nat → Int32} {w k : Nat} (hs : sN v ≤ 170) (hk : nOwn v w ≤ k) (hk2 : k < 2 ^ 31) : entO v (nI w) (nI k) = none := by
  refine fstP_none.mpr (fun i hi => decide_eq_false (fun q => ?_))
  have h4 := cntP_lt (p := ownB v w) hi (decide_eq_true q.1)
  have h5 := cntP_le (ownB v w) i
  have h6 : cntP (ownB v w) i = k := (nI_eq (by omega) (by omega)).mp q.2
  unfold nOwn at hk
  omega
/-- going over all entries and taking the word's own, or over its own at once -/
def fAll {S : Type} (g : S → Nat → S) (s0 : S) (p : Nat → Bool) : Nat → S
  | 0 => s0
  | k + 1 => if p k = true then g (fAll g s0 p k) k else fAll g s0 p k
def fOwn {S : Type} (g : S → Nat → S) (s0 : S) (x : Nat → Nat) : Nat → S
  | 0 => s0
  | k + 1 => g (fOwn g s0 x k) (x k)
theorem fOwn_e {S : Type} (g : S → Nat → S) (s0 : S) {p : Nat → Bool} {N : Nat} : ∀ n, n ≤ N → fOwn g s0 (kidx p N) (cntP p n) = fAll g s0 p n
  | 0, _ => rfl
  | n + 1, hn => by
    have ih := fOwn_e g s0 (p := p) n (show n ≤ N by omega)
    simp only [cntP, fAll]
    by_cases hp : p n = true
    · rw [if_pos hp, if_pos hp]
      simp only [fOwn]
      rw [ih, kidx_cnt (by omega) hp]
    · rw [if_neg hp, if_neg hp, Nat.add_zero, ih]
