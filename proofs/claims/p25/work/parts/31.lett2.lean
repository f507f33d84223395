/-- the digits of a code -/
def dl (b : Nat) : Nat → Nat → List Nat
  | 0, _ => []
  | f + 1, n => if n = 0 then [] else n % b :: dl b f (n / b)
theorem dl_enc {b : Nat} (hb : 27 ≤ b) : ∀ (f : Nat) (ds : List Nat), okd ds → ds.length ≤ f → dl b f (enc b ds) = ds
  | 0, [], _, _ => rfl
  | 0, d :: r, _, h => by simp at h
  | f + 1, [], _, _ => by simp [dl, enc]
  | f + 1, d :: r, h, hl => by
    have := enc_pos (b := b) h
    simp only [dl]
    rw [if_neg (by omega), enc_mod hb h, enc_div hb h, dl_enc hb f r (okd_t h) (by simpa using hl)]
def isC (b : Nat) (c : Int32) : Prop := ∃ ds : List Nat, ds.length ≤ 6 ∧ okd ds ∧ c = nI (enc b ds)
def dlc (b : Nat) (c : Int32) : List Nat := dl b 6 c.toNatClampNeg
theorem dlc_enc {b : Nat} (hb : 27 ≤ b) (hb2 : b ≤ 32) {ds : List Nat} (h : okd ds) (hl : ds.length ≤ 6) : dlc b (nI (enc b ds)) = ds := by
  unfold dlc
  rw [nI_clamp (enc_lt31 hb hb2 h hl), dl_enc hb 6 ds h hl]
theorem LR_dlc {a b : Int32} (h : LR a b) : dlc 32 a = dlc 27 b ∧ isC 32 a ∧ isC 27 b := by
  obtain ⟨ds, h1, h2, rfl, rfl⟩ := h
  exact ⟨by rw [dlc_enc (by decide) (by decide) h2 h1, dlc_enc (by decide) (by decide) h2 h1], ⟨ds, h1, h2, rfl⟩, ⟨ds, h1, h2, rfl⟩⟩
theorem enc_dropS {b : Nat} (hb : 27 ≤ b) {ds : List Nat} (h : okd ds) {j : Nat} (hj : j < ds.length) : enc b (ds.drop j) / b = enc b (ds.drop (j + 1)) ∧ enc b (ds.drop j) % b = ds.getD j 0 ∧ 0 < enc b (ds.drop j) := by
  have e : ds.drop j = ds[j] :: ds.drop (j + 1) := List.drop_eq_getElem_cons hj
  have ho : okd (ds[j] :: ds.drop (j + 1)) := e ▸ okd_drop h j
  rw [e]
  exact ⟨enc_div hb ho, by rw [enc_mod hb ho]; simp [hj], enc_pos ho⟩
theorem enc_dropL {b : Nat} (hb : 27 ≤ b) (hb2 : b ≤ 32) {ds : List Nat} (h : okd ds) (hl : ds.length ≤ 6) (j : Nat) : enc b (ds.drop j) < 2 ^ 31 := enc_lt31 hb hb2 (okd_drop h j) (by simp; omega)
theorem enc_dropE {b : Nat} {ds : List Nat} {j : Nat} (h : ds.length ≤ j) : enc b (ds.drop j) = 0 := by rw [List.drop_eq_nil_of_le h]; rfl
theorem enc_dropP {b : Nat} (hb : 27 ≤ b) {ds : List Nat} (h : okd ds) : ∀ j, enc b ds / b ^ j = enc b (ds.drop j)
  | 0 => by simp
  | j + 1 => by
    rw [Nat.pow_succ, ← Nat.div_div_eq_div_mul, enc_dropP hb h j]
    by_cases hj : j < ds.length
    · exact (enc_dropS hb h hj).1
    · rw [enc_dropE (by omega), enc_dropE (by omega)]; simp
theorem pk_rem27 {n : Nat} (h : n < 2 ^ 31) : nI n - nI n / 27 * 27 = nI (n % 27) := pk_rem (d := 27) h (by decide) (by decide)
theorem nI_pr {m : Nat} (h : 0 < m) : nI m - 1 = nI (m - 1) := by
  obtain ⟨k, rfl⟩ : ∃ k, m = k + 1 := ⟨m - 1, by omega⟩
  exact nI_pred k
theorem nI_pr2 (m : Nat) : nI m - 1 + -1 = nI m - 2 := by
  rw [Int32.sub_eq_add_neg, Int32.sub_eq_add_neg, Int32.add_assoc]
  rfl