/-! ===== the reference: a vote ===== -/
def voE (v : Nat → Int32) (w c : Int32) : Option Nat := lstP (fun k => decide (eO v k = w ∧ eH v k = c)) (sN v)
def vo0 (v : Nat → Int32) (w c : Int32) : Nat → Int32 := match voE v w c with
  | none => up1 (up1 (up1 (up1 (up1 v 11 (nI (sN v + 1))) (108 + 4 * sN v) w) (109 + 4 * sN v) c) (110 + 4 * sN v) 0) (111 + 4 * sN v) 0
  | some _ => v
def voJ (v : Nat → Int32) (w c : Int32) : Nat := (voE v w c).getD (sN v)
def vo1 (v : Nat → Int32) (k : Nat) (c wt sec : Int32) : Nat → Int32 :=
  up1 (up1 (up1 (up1 (vo0 v (nI k) c) (110 + 4 * voJ v (nI k) c) (vo0 v (nI k) c (110 + 4 * voJ v (nI k) c) + 1)) (111 + 4 * voJ v (nI k) c) (vo0 v (nI k) c (111 + 4 * voJ v (nI k) c) + wt)) (40 + 6 * k) (v (40 + 6 * k) + 1)) (41 + 6 * k) (v (41 + 6 * k) + sec)
def vo2 (v : Nat → Int32) (k : Nat) : Nat → Int32 :=
  if mAgr v k (mWt v (nI k)) (mLo v (nI k)) = true then
    (if mBec v (v (40 + 6 * k)) (v (41 + 6 * k)) = 2 then up1 (up1 (up1 v (36 + 6 * k) 2) (38 + 6 * k) (oV (mLead v (nI k)) (eH v))) 10 (v 10 + 1)
    else up1 (up1 (up1 v (36 + 6 * k) (mBec v (v (40 + 6 * k)) (v (41 + 6 * k)))) (38 + 6 * k) 0) 9 (v 9 + 1))
  else v
theorem lstP_lt {p : Nat → Bool} : ∀ {n j : Nat}, lstP p n = some j → j < n ∧ p j = true
  | 0, j, h => by cases h
  | n + 1, j, h => by
    simp only [lstP] at h
    split at h
    · next hp => cases h; exact ⟨by omega, hp⟩
    · have := lstP_lt h
      exact ⟨by omega, this.2⟩
theorem leadO_ex {f g : Nat → Int32} {w : Int32} : ∀ {n k : Nat}, k < n → f k = w → ∃ j, leadO f g w n = some j
  | n + 1, k, hk, h => by
    simp only [leadO]
    by_cases e : k = n
    · subst e
      cases leadO f g w k with
      | none => exact ⟨k, by simp [h]⟩
      | some j => simp only [h, true_and]; split <;> exact ⟨_, rfl⟩
    · obtain ⟨j, hj⟩ := leadO_ex (g := g) (show k < n by omega) h
      rw [hj]
      simp only
      split <;> exact ⟨_, rfl⟩
theorem sN_u {v : Nat → Int32} {i : Nat} {x : Int32} (h : i ≠ 11) : sN (up1 v i x) = sN v := by unfold sN; rw [up1_ne _ _ _ (Ne.symm h)]
theorem eO_u {v : Nat → Int32} {i : Nat} {x : Int32} (h : i < 108) : eO (up1 v i x) = eO v := by funext k; unfold eO; rw [up1_ne _ _ _ (by omega)]
theorem eH_u {v : Nat → Int32} {i : Nat} {x : Int32} (h : i < 108) : eH (up1 v i x) = eH v := by funext k; unfold eH; rw [up1_ne _ _ _ (by omega)]
theorem eM_u {v : Nat → Int32} {i : Nat} {x : Int32} (h : i < 108) : eM (up1 v i x) = eM v := by funext k; unfold eM; rw [up1_ne _ _ _ (by omega)]
theorem eW_u {v : Nat → Int32} {i : Nat} {x : Int32} (h : i < 108) : eW (up1 v i x) = eW v := by funext k; unfold eW; rw [up1_ne _ _ _ (by omega)]
theorem mLead_u {v : Nat → Int32} {i : Nat} {x w : Int32} (h : i < 108) (h2 : i ≠ 11) : mLead (up1 v i x) w = mLead v w := by unfold mLead; rw [sN_u h2, eO_u h, eW_u h]
theorem MLay_F {M : wMem} {a : Nat} {f : Nat → Int32} : MLay (wSetF M a f) = MLay M := rfl
theorem MG_F {M : wMem} {v : Nat → Int32} (hL : MLay M) (h1 : v 11 = nI (sN v)) (h2 : sN v ≤ 180) : MG (wSetF M 253 v) := by
  refine ⟨hL, ?_, ?_⟩
  · rw [wF_I, if_pos rfl]; exact h1
  · rw [wF_I, if_pos rfl]; exact h2
def VG (M : wMem) : Prop := MG M ∧ sN (wI M 253) < 180