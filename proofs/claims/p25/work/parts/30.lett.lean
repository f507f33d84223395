/-! ===== letters: digits, the last one first, of a base ===== -/
def enc (b : Nat) : List Nat → Nat
  | [] => 0
  | d :: r => enc b r * b + d
def okd (ds : List Nat) : Prop := ∀ d ∈ ds, 1 ≤ d ∧ d ≤ 26
theorem okd_t {d : Nat} {r : List Nat} (h : okd (d :: r)) : okd r := fun x hx => h x (List.mem_cons_of_mem _ hx)
theorem okd_h {d : Nat} {r : List Nat} (h : okd (d :: r)) : 1 ≤ d ∧ d ≤ 26 := h d List.mem_cons_self
theorem okd_drop {ds : List Nat} (h : okd ds) (j : Nat) : okd (ds.drop j) := fun x hx => h x (List.mem_of_mem_drop hx)
theorem enc_lt {b : Nat} (hb : 27 ≤ b) : ∀ {ds : List Nat}, okd ds → enc b ds < b ^ ds.length
  | [], _ => by simp [enc]
  | d :: r, h => by
    have ih := enc_lt hb (okd_t h)
    have hd := okd_h h
    simp only [enc, List.length_cons, Nat.pow_succ]
    calc enc b r * b + d < enc b r * b + b := by omega
      _ = (enc b r + 1) * b := by rw [Nat.add_mul, Nat.one_mul]
      _ ≤ b ^ r.length * b := Nat.mul_le_mul_right _ ih
theorem enc_pos {b : Nat} {d : Nat} {r : List Nat} (h : okd (d :: r)) : 0 < enc b (d :: r) := by
  have := okd_h h
  simp only [enc]
  omega
theorem enc_div {b : Nat} (hb : 27 ≤ b) {d : Nat} {r : List Nat} (h : okd (d :: r)) : enc b (d :: r) / b = enc b r := by
  have := okd_h h
  simp only [enc]
  rw [Nat.mul_comm, Nat.mul_add_div (by omega), Nat.div_eq_of_lt (by omega), Nat.add_zero]
theorem enc_mod {b : Nat} (hb : 27 ≤ b) {d : Nat} {r : List Nat} (h : okd (d :: r)) : enc b (d :: r) % b = d := by
  have := okd_h h
  simp only [enc]
  rw [Nat.mul_comm, Nat.mul_add_mod, Nat.mod_eq_of_lt (by omega)]
theorem enc_inj {b c : Nat} (hb : 27 ≤ b) : ∀ {x y : List Nat}, okd x → okd y → enc b x = enc b y → x = y
  | [], [], _, _, _ => rfl
  | [], d :: r, _, h, e => by have := enc_pos (b := b) h; rw [← e] at this; simp [enc] at this
  | d :: r, [], h, _, e => by have := enc_pos (b := b) h; rw [e] at this; simp [enc] at this
  | d :: r, d' :: r', h, h', e => by
    have e1 := enc_div hb h
    have e2 := enc_div hb h'
    have e3 := enc_mod hb h
    have e4 := enc_mod hb h'
    rw [e] at e1 e3
    rw [enc_inj (c := c) hb (okd_t h) (okd_t h') (e1.symm.trans e2), e3.symm.trans e4]
theorem enc_lt31 {b : Nat} (hb : 27 ≤ b) (hb2 : b ≤ 32) {ds : List Nat} (h : okd ds) (hl : ds.length ≤ 6) : enc b ds < 2 ^ 31 := by
  have h1 := enc_lt hb h
  have h2 : b ^ ds.length ≤ b ^ 6 := Nat.pow_le_pow_right (by omega) hl
  have h3 : b ^ 6 ≤ 32 ^ 6 := Nat.pow_le_pow_left hb2 6
  have h4 : (32 : Nat) ^ 6 < 2 ^ 31 := by decide
  omega
/-- the code of one class and that of the other, of the same letters -/
def LR (a b : Int32) : Prop := ∃ ds : List Nat, ds.length ≤ 6 ∧ okd ds ∧ a = nI (enc 32 ds) ∧ b = nI (enc 27 ds)
theorem LR_eq {a b a' b' : Int32} (h : LR a b) (h' : LR a' b') : a = a' ↔ b = b' := by
  obtain ⟨ds, h1, h2, rfl, rfl⟩ := h
  obtain ⟨ds', h1', h2', rfl, rfl⟩ := h'
  rw [nI_eq (enc_lt31 (by decide) (by decide) h2 h1) (enc_lt31 (by decide) (by decide) h2' h1'), nI_eq (enc_lt31 (by decide) (by decide) h2 h1) (enc_lt31 (by decide) (by decide) h2' h1')]
  exact ⟨fun e => by rw [enc_inj (c := 0) (by decide) h2 h2' e], fun e => by rw [enc_inj (c := 0) (by decide) h2 h2' e]⟩
theorem LR_0 : LR 0 0 := ⟨[], by simp, by simp [okd], rfl, rfl⟩
theorem LR_z {a b : Int32} (h : LR a b) : a = 0 ↔ b = 0 := LR_eq h LR_0
/-- how many letters, and a letter -/
def lMany (ds : List Nat) : Int32 := nI ds.length
def lAt (ds : List Nat) (p : Nat) : Int32 := if p < ds.length then nI (96 + ds.getD (ds.length - 1 - p) 0) else -6
theorem pk_div27 {n : Nat} (h : n < 2 ^ 31) : nI n / 27 = nI (n / 27) := pk_div (d := 27) h (by decide) (by decide)