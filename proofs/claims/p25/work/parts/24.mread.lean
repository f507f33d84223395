/-! ===== the reference: its cells, its reads ===== -/
def MLay (M : wMem) : Prop := wS M 252 = some (8, 0) ∧ wP M 252 0 = some 253 ∧ wP M 252 1 = some 254 ∧ wP M 252 3 = some 255 ∧ wP M 252 4 = some 256 ∧ wP M 252 5 = some 257 ∧ wP M 252 9 = some 258
  ∧ wS M 253 = some (10, 828) ∧ wS M 254 = some (10, 4968) ∧ wS M 255 = some (10, 1656) ∧ wS M 256 = some (11, 2) ∧ wS M 257 = some (10, 60) ∧ wS M 258 = some (10, 6)
def sN (v : Nat → Int32) : Nat := (v 11).toNatClampNeg
def MG (M : wMem) : Prop := MLay M ∧ wI M 253 11 = nI (sN (wI M 253)) ∧ sN (wI M 253) ≤ 180
def eO (v : Nat → Int32) (k : Nat) : Int32 := v (108 + 4 * k)
def eH (v : Nat → Int32) (k : Nat) : Int32 := v (109 + 4 * k)
def eM (v : Nat → Int32) (k : Nat) : Int32 := v (110 + 4 * k)
def eW (v : Nat → Int32) (k : Nat) : Int32 := v (111 + 4 * k)
theorem at_0 (k : Nat) : (108 : Int32) + 4 * nI k + 0 = nI (108 + 4 * k) := by
  rw [show (108 : Int32) = nI 108 from rfl, show (4 : Int32) = nI 4 from rfl, show (0 : Int32) = nI 0 from rfl, pk_mul, nI_add, nI_add]; congr 1
theorem at_1 (k : Nat) : (108 : Int32) + 4 * nI k + 1 = nI (109 + 4 * k) := by
  rw [show (108 : Int32) = nI 108 from rfl, show (4 : Int32) = nI 4 from rfl, show (1 : Int32) = nI 1 from rfl, pk_mul, nI_add, nI_add]; congr 1; omega
theorem at_2 (k : Nat) : (108 : Int32) + 4 * nI k + 2 = nI (110 + 4 * k) := by
  rw [show (108 : Int32) = nI 108 from rfl, show (4 : Int32) = nI 4 from rfl, show (2 : Int32) = nI 2 from rfl, pk_mul, nI_add, nI_add]; congr 1; omega
theorem at_3 (k : Nat) : (108 : Int32) + 4 * nI k + 3 = nI (111 + 4 * k) := by
  rw [show (108 : Int32) = nI 108 from rfl, show (4 : Int32) = nI 4 from rfl, show (3 : Int32) = nI 3 from rfl, pk_mul, nI_add, nI_add]; congr 1; omega
theorem ac_0 {k : Nat} (h : k ≤ 180) : (nI (108 + 4 * k)).toNatClampNeg = 108 + 4 * k := nI_clamp (by omega)
theorem ac_1 {k : Nat} (h : k ≤ 180) : (nI (109 + 4 * k)).toNatClampNeg = 109 + 4 * k := nI_clamp (by omega)
theorem ac_2 {k : Nat} (h : k ≤ 180) : (nI (110 + 4 * k)).toNatClampNeg = 110 + 4 * k := nI_clamp (by omega)
theorem ac_3 {k : Nat} (h : k ≤ 180) : (nI (111 + 4 * k)).toNatClampNeg = 111 + 4 * k := nI_clamp (by omega)
theorem av_0 {k : Nat} (h : k < 180) : vp_in (nI (108 + 4 * k)) 828 := vp_in_nI (by omega) (by omega)
theorem av_1 {k : Nat} (h : k < 180) : vp_in (nI (109 + 4 * k)) 828 := vp_in_nI (by omega) (by omega)
theorem av_2 {k : Nat} (h : k < 180) : vp_in (nI (110 + 4 * k)) 828 := vp_in_nI (by omega) (by omega)
theorem av_3 {k : Nat} (h : k < 180) : vp_in (nI (111 + 4 * k)) 828 := vp_in_nI (by omega) (by omega)
theorem of_0 (k : Nat) : (36 : Int32) + 6 * nI k + 0 = nI (36 + 6 * k) := by
  rw [show (36 : Int32) = nI 36 from rfl, show (6 : Int32) = nI 6 from rfl, show (0 : Int32) = nI 0 from rfl, pk_mul, nI_add, nI_add]; congr 1
theorem of_1 (k : Nat) : (36 : Int32) + 6 * nI k + 1 = nI (37 + 6 * k) := by
  rw [show (36 : Int32) = nI 36 from rfl, show (6 : Int32) = nI 6 from rfl, show (1 : Int32) = nI 1 from rfl, pk_mul, nI_add, nI_add]; congr 1; omega
theorem of_2 (k : Nat) : (36 : Int32) + 6 * nI k + 2 = nI (38 + 6 * k) := by
  rw [show (36 : Int32) = nI 36 from rfl, show (6 : Int32) = nI 6 from rfl, show (2 : Int32) = nI 2 from rfl, pk_mul, nI_add, nI_add]; congr 1; omega
theorem of_3 (k : Nat) : (36 : Int32) + 6 * nI k + 3 = nI (39 + 6 * k) := by
  rw [show (36 : Int32) = nI 36 from rfl, show (6 : Int32) = nI 6 from rfl, show (3 : Int32) = nI 3 from rfl, pk_mul, nI_add, nI_add]; congr 1; omega
theorem of_4 (k : Nat) : (36 : Int32) + 6 * nI k + 4 = nI (40 + 6 * k) := by
  rw [show (36 : Int32) = nI 36 from rfl, show (6 : Int32) = nI 6 from rfl, show (4 : Int32) = nI 4 from rfl, pk_mul, nI_add, nI_add]; congr 1; omega
theorem of_5 (k : Nat) : (36 : Int32) + 6 * nI k + 5 = nI (41 + 6 * k) := by
  rw [show (36 : Int32) = nI 36 from rfl, show (6 : Int32) = nI 6 from rfl, show (5 : Int32) = nI 5 from rfl, pk_mul, nI_add, nI_add]; congr 1; omega
theorem os_0 (k : Nat) : (12 : Int32) + 4 * nI k + 0 = nI (12 + 4 * k) := by
  rw [show (12 : Int32) = nI 12 from rfl, show (4 : Int32) = nI 4 from rfl, show (0 : Int32) = nI 0 from rfl, pk_mul, nI_add, nI_add]; congr 1
theorem os_1 (k : Nat) : (12 : Int32) + 4 * nI k + 1 = nI (13 + 4 * k) := by
  rw [show (12 : Int32) = nI 12 from rfl, show (4 : Int32) = nI 4 from rfl, show (1 : Int32) = nI 1 from rfl, pk_mul, nI_add, nI_add]; congr 1; omega
theorem os_2 (k : Nat) : (12 : Int32) + 4 * nI k + 2 = nI (14 + 4 * k) := by
  rw [show (12 : Int32) = nI 12 from rfl, show (4 : Int32) = nI 4 from rfl, show (2 : Int32) = nI 2 from rfl, pk_mul, nI_add, nI_add]; congr 1; omega
theorem os_3 (k : Nat) : (12 : Int32) + 4 * nI k + 3 = nI (15 + 4 * k) := by
  rw [show (12 : Int32) = nI 12 from rfl, show (4 : Int32) = nI 4 from rfl, show (3 : Int32) = nI 3 from rfl, pk_mul, nI_add, nI_add]; congr 1; omega
theorem vi_0 : vp_in 0 828 := vp_in_nI (n := 0) (by decide) (by decide)
theorem vi_1 : vp_in 1 828 := vp_in_nI (n := 1) (by decide) (by decide)
theorem vi_2 : vp_in 2 828 := vp_in_nI (n := 2) (by decide) (by decide)
theorem vi_3 : vp_in 3 828 := vp_in_nI (n := 3) (by decide) (by decide)
theorem vi_4 : vp_in 4 828 := vp_in_nI (n := 4) (by decide) (by decide)
theorem vi_5 : vp_in 5 828 := vp_in_nI (n := 5) (by decide) (by decide)
theorem vi_6 : vp_in 6 828 := vp_in_nI (n := 6) (by decide) (by decide)
theorem vi_7 : vp_in 7 828 := vp_in_nI (n := 7) (by decide) (by decide)
theorem vi_8 : vp_in 8 828 := vp_in_nI (n := 8) (by decide) (by decide)
theorem vi_9 : vp_in 9 828 := vp_in_nI (n := 9) (by decide) (by decide)
theorem vi_10 : vp_in 10 828 := vp_in_nI (n := 10) (by decide) (by decide)
theorem vi_11 : vp_in 11 828 := vp_in_nI (n := 11) (by decide) (by decide)
theorem vc_0 : (0 : Int32).toNatClampNeg = 0 := rfl
theorem vc_1 : (1 : Int32).toNatClampNeg = 1 := rfl
theorem vc_2 : (2 : Int32).toNatClampNeg = 2 := rfl
theorem vc_3 : (3 : Int32).toNatClampNeg = 3 := rfl
theorem vc_4 : (4 : Int32).toNatClampNeg = 4 := rfl
theorem vc_5 : (5 : Int32).toNatClampNeg = 5 := rfl
theorem vc_6 : (6 : Int32).toNatClampNeg = 6 := rfl
theorem vc_7 : (7 : Int32).toNatClampNeg = 7 := rfl
theorem vc_8 : (8 : Int32).toNatClampNeg = 8 := rfl
theorem vc_9 : (9 : Int32).toNatClampNeg = 9 := rfl
theorem vc_10 : (10 : Int32).toNatClampNeg = 10 := rfl
theorem vc_11 : (11 : Int32).toNatClampNeg = 11 := rfl
theorem oc_0 {k : Nat} (h : k ≤ 12) : (nI (36 + 6 * k)).toNatClampNeg = 36 + 6 * k := nI_clamp (by omega)
theorem ov_0 {k : Nat} (h : k ≤ 12) : vp_in (nI (36 + 6 * k)) 828 := vp_in_nI (by omega) (by omega)
theorem oc_1 {k : Nat} (h : k ≤ 12) : (nI (37 + 6 * k)).toNatClampNeg = 37 + 6 * k := nI_clamp (by omega)
theorem ov_1 {k : Nat} (h : k ≤ 12) : vp_in (nI (37 + 6 * k)) 828 := vp_in_nI (by omega) (by omega)
theorem oc_2 {k : Nat} (h : k ≤ 12) : (nI (38 + 6 * k)).toNatClampNeg = 38 + 6 * k := nI_clamp (by omega)
theorem ov_2 {k : Nat} (h : k ≤ 12) : vp_in (nI (38 + 6 * k)) 828 := vp_in_nI (by omega) (by omega)
theorem oc_3 {k : Nat} (h : k ≤ 12) : (nI (39 + 6 * k)).toNatClampNeg = 39 + 6 * k := nI_clamp (by omega)
theorem ov_3 {k : Nat} (h : k ≤ 12) : vp_in (nI (39 + 6 * k)) 828 := vp_in_nI (by omega) (by omega)
theorem oc_4 {k : Nat} (h : k ≤ 12) : (nI (40 + 6 * k)).toNatClampNeg = 40 + 6 * k := nI_clamp (by omega)
theorem ov_4 {k : Nat} (h : k ≤ 12) : vp_in (nI (40 + 6 * k)) 828 := vp_in_nI (by omega) (by omega)
theorem oc_5 {k : Nat} (h : k ≤ 12) : (nI (41 + 6 * k)).toNatClampNeg = 41 + 6 * k := nI_clamp (by omega)
theorem ov_5 {k : Nat} (h : k ≤ 12) : vp_in (nI (41 + 6 * k)) 828 := vp_in_nI (by omega) (by omega)
theorem sc_0 {k : Nat} (h : k ≤ 6) : (nI (12 + 4 * k)).toNatClampNeg = 12 + 4 * k := nI_clamp (by omega)
theorem sv_0 {k : Nat} (h : k ≤ 6) : vp_in (nI (12 + 4 * k)) 828 := vp_in_nI (by omega) (by omega)
theorem sc_1 {k : Nat} (h : k ≤ 6) : (nI (13 + 4 * k)).toNatClampNeg = 13 + 4 * k := nI_clamp (by omega)
theorem sv_1 {k : Nat} (h : k ≤ 6) : vp_in (nI (13 + 4 * k)) 828 := vp_in_nI (by omega) (by omega)
theorem sc_2 {k : Nat} (h : k ≤ 6) : (nI (14 + 4 * k)).toNatClampNeg = 14 + 4 * k := nI_clamp (by omega)
theorem sv_2 {k : Nat} (h : k ≤ 6) : vp_in (nI (14 + 4 * k)) 828 := vp_in_nI (by omega) (by omega)
theorem sc_3 {k : Nat} (h : k ≤ 6) : (nI (15 + 4 * k)).toNatClampNeg = 15 + 4 * k := nI_clamp (by omega)
theorem sv_3 {k : Nat} (h : k ≤ 6) : vp_in (nI (15 + 4 * k)) 828 := vp_in_nI (by omega) (by omega)
theorem oN_n (d : Int32) : oN none d = d := rfl
theorem oN_s (j : Nat) (d : Int32) : oN (some j) d = nI j := rfl
theorem i_a0 (x : Int32) : x + 0 = x := Int32.add_zero x
theorem at_00 (k : Nat) : (108 : Int32) + 4 * nI k = nI (108 + 4 * k) := by rw [← at_0, i_a0]
theorem of_00 (k : Nat) : (36 : Int32) + 6 * nI k = nI (36 + 6 * k) := by rw [← of_0, i_a0]
theorem os_00 (k : Nat) : (12 : Int32) + 4 * nI k = nI (12 + 4 * k) := by rw [← os_0, i_a0]
theorem atx_1 (k : Nat) : nI (108 + 4 * k + 1) = nI (109 + 4 * k) := by congr 1; omega
theorem aty_1 (k : Nat) : nI (108 + 4 * k) + 1 = nI (109 + 4 * k) := by rw [show (1 : Int32) = nI 1 from rfl, nI_add]; congr 1; omega
theorem aty_2 (k : Nat) : nI (108 + 4 * k) + 2 = nI (110 + 4 * k) := by rw [show (2 : Int32) = nI 2 from rfl, nI_add]; congr 1; omega
theorem aty_3 (k : Nat) : nI (108 + 4 * k) + 3 = nI (111 + 4 * k) := by rw [show (3 : Int32) = nI 3 from rfl, nI_add]; congr 1; omega
theorem ofx_1 (k : Nat) : nI (36 + 6 * k + 1) = nI (37 + 6 * k) := by congr 1; omega
theorem ofy_1 (k : Nat) : nI (36 + 6 * k) + 1 = nI (37 + 6 * k) := by rw [show (1 : Int32) = nI 1 from rfl, nI_add]; congr 1; omega
theorem ofy_2 (k : Nat) : nI (36 + 6 * k) + 2 = nI (38 + 6 * k) := by rw [show (2 : Int32) = nI 2 from rfl, nI_add]; congr 1; omega
theorem ofy_3 (k : Nat) : nI (36 + 6 * k) + 3 = nI (39 + 6 * k) := by rw [show (3 : Int32) = nI 3 from rfl, nI_add]; congr 1; omega
theorem ofy_4 (k : Nat) : nI (36 + 6 * k) + 4 = nI (40 + 6 * k) := by rw [show (4 : Int32) = nI 4 from rfl, nI_add]; congr 1; omega
theorem ofy_5 (k : Nat) : nI (36 + 6 * k) + 5 = nI (41 + 6 * k) := by rw [show (5 : Int32) = nI 5 from rfl, nI_add]; congr 1; omega
theorem osx_1 (k : Nat) : nI (12 + 4 * k + 1) = nI (13 + 4 * k) := by congr 1; omega
theorem osy_1 (k : Nat) : nI (12 + 4 * k) + 1 = nI (13 + 4 * k) := by rw [show (1 : Int32) = nI 1 from rfl, nI_add]; congr 1; omega
theorem osy_2 (k : Nat) : nI (12 + 4 * k) + 2 = nI (14 + 4 * k) := by rw [show (2 : Int32) = nI 2 from rfl, nI_add]; congr 1; omega
theorem osy_3 (k : Nat) : nI (12 + 4 * k) + 3 = nI (15 + 4 * k) := by rw [show (3 : Int32) = nI 3 from rfl, nI_add]; congr 1; omega
theorem i_s0 (x : Int32) : x - 0 = x := Int32.sub_zero x
theorem i_sa (x : Int32) (c : Nat) : x - nI c + -1 = x - nI (c + 1) := by
  rw [nI_succ, Int32.sub_eq_add_neg, Int32.sub_eq_add_neg, Int32.neg_add, Int32.add_assoc, Int32.sub_eq_add_neg]
theorem i_s00 (x y : Int32) : x - y = 0 ↔ y = x := ⟨fun h => by rw [Int32.sub_eq_iff_eq_add] at h; rw [h]; simp, fun h => by rw [h]; simp⟩