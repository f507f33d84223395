theorem sumF_c {f g : Nat → Int32} : ∀ {n : Nat}, (∀ i, i < n → f i = g i) → sumF f n = sumF g n
  | 0, _ => rfl
  | n + 1, h => by
    simp only [sumF]
    rw [sumF_c (fun i hi => h i (by omega)), h n (by omega)]
theorem sum_up {v : Nat → Int32} {b s : Nat} (hs : s < 6) : sumF (fun i => up1 v (b + 4 * s) (v (b + 4 * s) + 1) (b + 4 * i)) 6 = sumF (fun i => v (b + 4 * i)) 6 + 1 := by
  have e : ∀ i, up1 v (b + 4 * s) (v (b + 4 * s) + 1) (b + 4 * i) = if i = s then v (b + 4 * i) + 1 else v (b + 4 * i) := by
    intro i
    by_cases h : i = s
    · subst h; rw [up1_eq, if_pos rfl]
    · rw [up1_ne _ _ _ (by omega), if_neg h]
  simp only [sumF, e]
  have : s = 0 ∨ s = 1 ∨ s = 2 ∨ s = 3 ∨ s = 4 ∨ s = 5 := by omega
  rcases this with rfl | rfl | rfl | rfl | rfl | rfl <;> simp only [Nat.reduceEqDiff, if_true, if_false] <;> ac_rfl
theorem trUp_b {u t : Int32} (hu : isIx u 21) (ht : isIx t 101) : isIx (trUp u t) 101 := by
  obtain ⟨a, ha, rfl⟩ := isIx_k hu
  obtain ⟨b, hb, rfl⟩ := isIx_k ht
  unfold trUp
  rw [nI_add]
  split
  · exact ⟨rfl, by decide⟩
  · next h =>
    have : ¬ 100 < b + a := fun q => h (nI_lt (a := 100) q (by omega))
    exact of_eq_true (isIx_t (by omega) (by decide))
def trDn (d t : Int32) : Int32 := if t < d then 0 else t - d
theorem trDn_b {d t : Int32} (hd : isIx d 51) (ht : isIx t 101) : isIx (trDn d t) 101 ∧ iMax 0 (t - d) = trDn d t := by
  obtain ⟨a, ha, rfl⟩ := isIx_k hd
  obtain ⟨b, hb, rfl⟩ := isIx_k ht
  unfold trDn iMax
  by_cases h : b < a
  · have h1 : nI b < nI a := nI_lt h (by omega)
    have h2 : ¬ 0 < nI b - nI a := by
      intro q
      have := pk_sneg (a := b) (b := a) (by omega) h
      exact Int32.lt_irrefl (Int32.lt_trans q this)
    rw [if_pos h1, if_neg h2]
    exact ⟨⟨rfl, by decide⟩, rfl⟩
  · have h1 : ¬ nI b < nI a := nI_nlt (by omega) (by omega)
    rw [if_neg h1, pk_sub (by omega)]
    refine ⟨of_eq_true (isIx_t (by omega) (by decide)), ?_⟩
    by_cases h0 : b - a = 0
    · rw [h0]; rfl
    · rw [if_pos (show (0 : Int32) < nI (b - a) from nI_lt (a := 0) (by omega) (by omega))]
/-- rows of a row that are as they were: entries, words but .. -/
theorem IV_o {T : Nat} {v v' : Nat → Int32} (hI : IV T v) (h05 : ∀ j, j < 6 → v' j = v j) (hW : nW v' = nW v) (hN : sN v' = sN v) (ht : ∀ i, i < 6 → isIx (v' (12 + 4 * i)) 101) (hw : ∀ i, i < nW v → v' (37 + 6 * i) = v (37 + 6 * i) ∧ (v' (36 + 6 * i) = 1 → v (36 + 6 * i) = 1 ∧ v' (38 + 6 * i) = v (38 + 6 * i)))
    (he : ∀ j, 108 ≤ j → v' j = v j) (s7 : sumF (fun i => v' (13 + 4 * i)) 6 = v' 7) (s8 : sumF (fun i => v' (14 + 4 * i)) 6 = v' 8) : IV T v' := by
  obtain ⟨a1, a2, a3, a4, a5, a6, a7, a8⟩ := hI
  have eo : ∀ k, eO v' k = eO v k := fun k => he _ (by omega)
  have eh : ∀ k, eH v' k = eH v k := fun k => he _ (by omega)
  have ew : ∀ k, eW v' k = eW v k := fun k => he _ (by omega)
  refine ⟨?_, ht, fun i hi => ?_, fun k hk => ?_, fun i j hi hj => ?_, s7, s8, by rw [hN]; exact a8⟩
  · rw [h05 0 (by decide), h05 1 (by decide), h05 2 (by decide), h05 3 (by decide), h05 4 (by decide), h05 5 (by decide)]; exact a1
  · rw [hW] at hi
    obtain ⟨b1, b2⟩ := hw i hi
    rw [b1]
    exact ⟨(a3 i hi).1, fun q => by rw [(b2 q).2]; exact (a3 i hi).2 (b2 q).1⟩
  · rw [hN] at hk
    rw [ew, eh]; exact a4 k hk
  · rw [hN] at hi hj
    rw [eo, eo, eh, eh]; exact a5 i j hi hj
theorem an4_o {v : Nat → Int32} {s j : Nat} {sec : Int32} (h : j ≠ 7 ∧ j ≠ 8 ∧ j ≠ 13 + 4 * s ∧ j ≠ 15 + 4 * s ∧ j ≠ 14 + 4 * s) : an4 v s sec j = v j := by
  unfold an4
  rw [up1_ne _ _ _ h.2.2.2.2, up1_ne _ _ _ h.2.1, up1_ne _ _ _ h.2.2.2.1, up1_ne _ _ _ h.2.2.1, up1_ne _ _ _ h.1]
theorem an4_r {v : Nat → Int32} {s : Nat} {sec : Int32} (hs : s < 6) : an4 v s sec 7 = v 7 + 1 ∧ an4 v s sec 8 = v 8 + 1 ∧ an4 v s sec (13 + 4 * s) = v (13 + 4 * s) + 1 ∧ an4 v s sec (14 + 4 * s) = v (14 + 4 * s) + 1 ∧ an4 v s sec (15 + 4 * s) = v (15 + 4 * s) + sec := by
  unfold an4
  refine ⟨?_, ?_, ?_, ?_, ?_⟩ <;> simp (disch := omega) only [up1_ne, up1_eq]
theorem an4_c {v : Nat → Int32} {s : Nat} {sec : Int32} (h0 : cntOk v) : cntOk (an4 v s sec) ∧ nW (an4 v s sec) = nW v ∧ sN (an4 v s sec) = sN v :=
  cntOk_o h0 (an4_o (by omega)) (an4_o (by omega))
theorem IV_an4 {T : Nat} {v : Nat → Int32} {s : Nat} {sec t : Int32} (hI : IV T v) (h0 : cntOk v) (hs : s < 6) (ht : isIx t 101) : IV T (up1 (an4 v s sec) (12 + 4 * s) t) := by
  obtain ⟨r7, r8, r13, r14, r15⟩ := an4_r (v := v) (sec := sec) hs
  obtain ⟨c1, c2, c3⟩ := an4_c (s := s) (sec := sec) h0
  obtain ⟨d1, d2, d3⟩ := cnt_u (x := t) c1 (show 12 + 4 * s ≠ 6 by omega) (show 12 + 4 * s ≠ 11 by omega)
  have h12 := h0.2.1
  refine IV_o hI (fun j hj => ?_) (d2.trans c2) (d3.trans c3) (fun i hi => ?_) (fun i hi => ?_) (fun j hj => ?_) ?_ ?_
  · rw [up1_ne _ _ _ (by omega), an4_o (by omega)]
  · by_cases his : i = s
    · subst his; rw [up1_eq]; exact ht
    · rw [up1_ne _ _ _ (by omega), an4_o (by omega)]; exact hI.2.1 i hi
  · rw [up1_ne _ _ _ (by omega), up1_ne _ _ _ (by omega), up1_ne _ _ _ (by omega), an4_o (by omega), an4_o (by omega), an4_o (by omega)]
    exact ⟨rfl, fun q => ⟨q, rfl⟩⟩
  · rw [up1_ne _ _ _ (by omega), an4_o (by omega)]
  · rw [up1_ne _ _ _ (by omega), r7, ← hI.2.2.2.2.2.1, ← sum_up hs]
    congr 1
    funext i
    by_cases his : i = s
    · subst his; rw [up1_ne _ _ _ (by omega), r13, up1_eq]
    · rw [up1_ne _ _ _ (by omega), an4_o (by omega), up1_ne _ _ _ (by omega)]
  · rw [up1_ne _ _ _ (by omega), r8, ← hI.2.2.2.2.2.2.1, ← sum_up hs]
    congr 1
    funext i
    by_cases his : i = s
    · subst his; rw [up1_ne _ _ _ (by omega), r14, up1_eq]
    · rw [up1_ne _ _ _ (by omega), an4_o (by omega), up1_ne _ _ _ (by omega)]
theorem vo2_o {v : Nat → Int32} {k j : Nat} (h : j ≠ 36 + 6 * k ∧ j ≠ 38 + 6 * k ∧ j ≠ 9 ∧ j ≠ 10) : vo2 v k j = v j := by
  unfold vo2
  split
  · split
    · rw [up1_ne _ _ _ h.2.2.2, up1_ne _ _ _ h.2.1, up1_ne _ _ _ h.1]
    · rw [up1_ne _ _ _ h.2.2.1, up1_ne _ _ _ h.2.1, up1_ne _ _ _ h.1]
  · rfl
theorem vo2_kd {v : Nat → Int32} {k : Nat} (h : vo2 v k (36 + 6 * k) = 1) : vo2 v k = v := by
  unfold vo2 at h ⊢
  split at h
  · split at h
    · rw [up1_ne _ _ _ (by omega), up1_ne _ _ _ (by omega), up1_eq] at h
      exact absurd h (by decide)
    · rw [up1_ne _ _ _ (by omega), up1_ne _ _ _ (by omega), up1_eq] at h
      rcases mBec_23 v (v (40 + 6 * k)) (v (41 + 6 * k)) with e | e <;> rw [e] at h <;> exact absurd h (by decide)
  · next hn => rw [if_neg hn]
theorem vo2_c {v : Nat → Int32} {k : Nat} (h0 : cntOk v) : cntOk (vo2 v k) ∧ nW (vo2 v k) = nW v ∧ sN (vo2 v k) = sN v := cntOk_o h0 (vo2_o (by omega)) (vo2_o (by omega))
theorem IV_vo2 {T : Nat} {v : Nat → Int32} {k : Nat} (hI : IV T v) (h0 : cntOk v) (hk : k < nW v) : IV T (vo2 v k) := by
  obtain ⟨c1, c2, c3⟩ := vo2_c (k := k) h0
  have h12 := h0.2.1
  refine IV_o hI (fun j hj => vo2_o (by omega)) c2 c3 (fun i hi => by rw [vo2_o (by omega)]; exact hI.2.1 i hi) (fun i hi => ?_) (fun j hj => vo2_o (by omega)) ?_ ?_
  · refine ⟨vo2_o (by omega), fun q => ?_⟩
    by_cases hik : i = k
    · subst hik
      have e := vo2_kd q
      rw [e] at q ⊢
      exact ⟨q, rfl⟩
    · rw [vo2_o (by omega)] at q
      exact ⟨q, vo2_o (by omega)⟩
  · rw [vo2_o (by omega), ← hI.2.2.2.2.2.1]
    exact sumF_c (fun i hi => vo2_o (by omega))
  · rw [vo2_o (by omega), ← hI.2.2.2.2.2.2.1]
    exact sumF_c (fun i hi => vo2_o (by omega))
/-- a row that votes neither read nor write -/
theorem voB_i {u : Nat → Int32} {w c wt x : Int32} {i : Nat} (h1 : 12 ≤ i) (h2 : i < 36) : voB (up1 u i x) w c wt = up1 (voB u w c wt) i x := by
  have hE : voE (up1 u i x) w c = voE u w c := by unfold voE; rw [eO_u (by omega), eH_u (by omega), sN_u (by omega)]
  unfold voB vo0 voJ
  rw [hE, sN_u (by omega)]
  cases voE u w c with
  | none =>
    simp only [Option.getD_none]
    simp (disch := omega) only [up1_ne, up1_eq]
    rw [up1_comm (a := i) (b := 11) (by omega), up1_comm (a := i) (b := 108 + 4 * sN u) (by omega), up1_comm (a := i) (b := 109 + 4 * sN u) (by omega), up1_comm (a := i) (b := 110 + 4 * sN u) (by omega), up1_comm (a := i) (b := 111 + 4 * sN u) (by omega), up1_comm (a := i) (b := 110 + 4 * sN u) (by omega), up1_comm (a := i) (b := 111 + 4 * sN u) (by omega)]
  | some j =>
    simp only [Option.getD_some]
    simp (disch := omega) only [up1_ne]
    rw [up1_comm (a := i) (b := 110 + 4 * j) (by omega), up1_comm (a := i) (b := 111 + 4 * j) (by omega)]
theorem vo1_i {u : Nat → Int32} {k : Nat} {c wt sec x : Int32} {i : Nat} (h1 : 12 ≤ i) (h2 : i < 36) : vo1 (up1 u i x) k c wt sec = up1 (vo1 u k c wt sec) i x := by
  rw [vo1_B, vo1_B, voB_i h1 h2, up1_ne _ _ _ (show 40 + 6 * k ≠ i by omega), up1_ne _ _ _ (show 41 + 6 * k ≠ i by omega), up1_comm (a := i) (b := 40 + 6 * k) (by omega), up1_comm (a := i) (b := 41 + 6 * k) (by omega)]
theorem vo2_i {u : Nat → Int32} {k : Nat} {x : Int32} {i : Nat} (h1 : 12 ≤ i) (h2 : i < 36) : vo2 (up1 u i x) k = up1 (vo2 u k) i x := by
  have e1 : mLead (up1 u i x) (nI k) = mLead u (nI k) := mLead_u (by omega) (by omega)
  have e2 : mWt (up1 u i x) (nI k) = mWt u (nI k) := by unfold mWt; rw [e1, eW_u (by omega)]
  have e3 : mLo (up1 u i x) (nI k) = mLo u (nI k) := by unfold mLo; rw [e1, e2, eW_u (by omega), eO_u (by omega), sN_u (by omega)]
  have e4 : ∀ a b, mAgr (up1 u i x) k a b = mAgr u k a b := by
    intro a b
    unfold mAgr mDue
    rw [up1_ne _ _ _ (show 0 ≠ i by omega), up1_ne _ _ _ (show 37 + 6 * k ≠ i by omega), up1_ne _ _ _ (show 1 ≠ i by omega)]
  have e5 : ∀ a b, mBec (up1 u i x) a b = mBec u a b := by
    intro a b
    unfold mBec
    rw [up1_ne _ _ _ (show 2 ≠ i by omega), up1_ne _ _ _ (show 3 ≠ i by omega)]
  unfold vo2
  rw [e1, e2, e3, e4, e5, eH_u (by omega), up1_ne _ _ _ (show 40 + 6 * k ≠ i by omega), up1_ne _ _ _ (show 41 + 6 * k ≠ i by omega), up1_ne _ _ _ (show 10 ≠ i by omega), up1_ne _ _ _ (show 9 ≠ i by omega)]
  split
  · split
    · rw [up1_comm (a := i) (b := 36 + 6 * k) (by omega), up1_comm (a := i) (b := 38 + 6 * k) (by omega), up1_comm (a := i) (b := 10) (by omega)]
    · rw [up1_comm (a := i) (b := 36 + 6 * k) (by omega), up1_comm (a := i) (b := 38 + 6 * k) (by omega), up1_comm (a := i) (b := 9) (by omega)]
  · rfl
/-- the reference's row behind a right answer, in the order of the class -/
theorem anR_e {v : Nat → Int32} {s b : Nat} {c sec : Int32} (hs : s < 6) (hb : b < 12) : anR v s b c sec = vo2 (vo1 (up1 (an4 v s sec) (12 + 4 * s) (trUp (v 4) (v (12 + 4 * s)))) b c (v (12 + 4 * s)) sec) b := by
  have e4 : vo2 (vo1 (an4 v s sec) b c (v (12 + 4 * s)) sec) b 4 = v 4 := by
    rw [vo2_o (by omega), vo1_lo (by omega) (by omega) (by omega) (by omega), an4_o (by omega)]
  unfold anR
  rw [e4, vo1_i (by omega) (by omega), vo2_i (by omega) (by omega)]
theorem IV_anR {T : Nat} {v : Nat → Int32} {s b : Nat} {c sec : Int32} (hI : IV T v) (h0 : cntOk v) (hs : s < 6) (hb : b < nW v) (hc : ¬ c = 0) (hT : 3 * sN v + 2 ≤ T) (hT2 : T ≤ 511) : IV (T + 1) (anR v s b c sec) ∧ cntOk (anR v s b c sec) ∧ nW (anR v s b c sec) = nW v ∧ sN (anR v s b c sec) ≤ sN v + 1 := by
  have h12 := h0.2.1
  have ht := hI.2.1 s hs
  have hu := hI.1.2.2.2.2.1
  obtain ⟨c1, c2, c3⟩ := an4_c (s := s) (sec := sec) h0
  obtain ⟨d1, d2, d3⟩ := cnt_u (x := trUp (v 4) (v (12 + 4 * s))) c1 (show 12 + 4 * s ≠ 6 by omega) (show 12 + 4 * s ≠ 11 by omega)
  rw [anR_e hs (by omega)]
  have i1 := IV_an4 (s := s) (sec := sec) hI h0 hs (trUp_b hu ht)
  obtain ⟨f1, f2, f3⟩ := vo1_c (k := b) (c := c) (wt := v (12 + 4 * s)) (sec := sec) d1 (by rw [d3, c3]; omega) (by omega)
  have i2 := IV_vo1 (k := b) (c := c) (wt := v (12 + 4 * s)) (sec := sec) i1 d1 (by rw [d2, c2]; exact hb) ht hc (by rw [d3, c3]; exact hT) hT2
  obtain ⟨g1, g2, g3⟩ := vo2_c (k := b) f1
  refine ⟨IV_vo2 i2 f1 (by rw [f2, d2, c2]; exact hb), g1, by rw [g2, f2, d2, c2], ?_⟩
  have e : sN (up1 (an4 v s sec) (12 + 4 * s) (trUp (v 4) (v (12 + 4 * s)))) = sN v := d3.trans c3
  rw [g3]
  rw [e] at f3
  generalize voE (up1 (an4 v s sec) (12 + 4 * s) (trUp (v 4) (v (12 + 4 * s)))) (nI b) c = o at f3
  cases o with
  | none =>
    have f4 : sN (vo1 (up1 (an4 v s sec) (12 + 4 * s) (trUp (v 4) (v (12 + 4 * s)))) b c (v (12 + 4 * s)) sec) = sN v + 1 := f3
    omega
  | some j =>
    have f4 : sN (vo1 (up1 (an4 v s sec) (12 + 4 * s) (trUp (v 4) (v (12 + 4 * s)))) b c (v (12 + 4 * s)) sec) = sN v := f3
    omega
theorem anW_o {v : Nat → Int32} {s a j : Nat} {sec : Int32} (h : j ≠ 7 ∧ j ≠ 13 + 4 * s ∧ j ≠ 15 + 4 * s ∧ j ≠ 39 + 6 * a ∧ j ≠ 12 + 4 * s) : anW v s a sec j = v j := by
  unfold anW
  rw [up1_ne _ _ _ h.2.2.2.2, up1_ne _ _ _ h.2.2.2.1, up1_ne _ _ _ h.2.2.1, up1_ne _ _ _ h.2.1, up1_ne _ _ _ h.1]
theorem anW_r {v : Nat → Int32} {s a : Nat} {sec : Int32} (hs : s < 6) : anW v s a sec 7 = v 7 + 1 ∧ anW v s a sec (13 + 4 * s) = v (13 + 4 * s) + 1 ∧ anW v s a sec (15 + 4 * s) = v (15 + 4 * s) + sec ∧ anW v s a sec (39 + 6 * a) = v (39 + 6 * a) + 1 ∧ anW v s a sec (12 + 4 * s) = trDn (v 5) (v (12 + 4 * s)) := by
  unfold anW trDn
  refine ⟨?_, ?_, ?_, ?_, ?_⟩ <;> simp (disch := omega) only [up1_ne, up1_eq]
theorem anW_c {v : Nat → Int32} {s a : Nat} {sec : Int32} (h0 : cntOk v) : cntOk (anW v s a sec) ∧ nW (anW v s a sec) = nW v ∧ sN (anW v s a sec) = sN v :=
  cntOk_o h0 (anW_o (by omega)) (anW_o (by omega))
theorem IV_anW {T : Nat} {v : Nat → Int32} {s a : Nat} {sec : Int32} (hI : IV T v) (h0 : cntOk v) (hs : s < 6) (ha : a < 12) : IV T (anW v s a sec) := by
  obtain ⟨r7, r13, r15, r39, r12⟩ := anW_r (v := v) (a := a) (sec := sec) hs
  obtain ⟨c1, c2, c3⟩ := anW_c (s := s) (a := a) (sec := sec) h0
  have h12 := h0.2.1
  refine IV_o hI (fun j hj => anW_o (by omega)) c2 c3 (fun i hi => ?_) (fun i hi => ?_) (fun j hj => anW_o (by omega)) ?_ ?_
  · by_cases his : i = s
    · subst his; rw [r12]; exact (trDn_b hI.1.2.2.2.2.2 (hI.2.1 i hi)).1
    · rw [anW_o (by omega)]; exact hI.2.1 i hi
  · rw [anW_o (by omega), anW_o (by omega), anW_o (by omega)]
    exact ⟨rfl, fun q => ⟨q, rfl⟩⟩
  · rw [r7, ← hI.2.2.2.2.2.1, ← sum_up hs]
    refine sumF_c (fun i hi => ?_)
    by_cases his : i = s
    · subst his; rw [r13, up1_eq]
    · rw [anW_o (by omega), up1_ne _ _ _ (by omega)]
  · rw [anW_o (by omega), ← hI.2.2.2.2.2.2.1]
    exact sumF_c (fun i hi => anW_o (by omega))
