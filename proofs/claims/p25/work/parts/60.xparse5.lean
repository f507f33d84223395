theorem sc_ts {f : Nat → Int32} {L : Nat} (h : chOk f L) (p : Nat) : (¬ 0 < scV f L p → (ts f L (p, false)).1 = (p, true) ∧ scP f L p = p) ∧ (0 < scV f L p → ts f L (p, false) = ((scP f L p, false), scV f L p)) := by
  obtain ⟨t1, t2⟩ := dg_tk h p 1 9 (by decide) (by decide)
  have t1 : tk f L (p, false) 49 57 = (dgP f L p 1 9, !dgB f L p 1 9) := t1
  have t2 : dgB f L p 1 9 = true → dgV f L p 1 9 = tkC f L (p, false) - 48 := t2
  have e49 : 1 + (tkC f L (p, false) - 49) = tkC f L (p, false) - 48 := by
    rw [Int32.sub_eq_add_neg, Int32.sub_eq_add_neg, Int32.add_comm 1, Int32.add_assoc]
    rfl
  unfold ts
  rw [t1, e49]
  cases hd : dgB f L p 1 9 with
  | false =>
    have e1 : dgV f L p 1 9 = -1 := dgV_f hd
    have e2 : dgP f L p 1 9 = p := dgP_f hd
    have e3 : scM f L p = false := by unfold scM; rw [e1]; decide
    have e4 : scV f L p = -1 := by unfold scV; rw [e3, if_neg (by simp), e1]
    have e5 : scP f L p = p := by unfold scP; rw [e3, if_neg (by simp), e2]
    rw [e4, e5, e2]
    simp only [Bool.not_false]
    have e6 : ∀ x, tsM f L (p, true) x = false := by
      intro x
      unfold tsM
      rw [nx_bad rfl, nx_bad rfl]
      simp
    rw [e6, if_neg (by simp)]
    exact ⟨fun _ => ⟨rfl, by trivial⟩, fun q => absurd q (by decide)⟩
  | true =>
    rw [← t2 hd]
    simp only [Bool.not_true]
    have hv := dgV_t hd
    have hin : inB (f p - 48) 1 9 = true := by unfold dgB at hd; rw [Bool.and_eq_true] at hd; exact hd.2
    obtain ⟨m, hm9, -, hm⟩ := inB_d (n := 1) (c := 8) (a := 1) rfl (by decide) hin
    have hm1 : dgV f L p 1 9 = nI (1 + m) := by rw [hv, hm]
    generalize hq : dgP f L p 1 9 = p1
    have hlo : ¬ dgV f L p 1 9 < 1 := by rw [hm1]; exact nI_nlt (b := 1) (by omega) (by omega)
    have hpos : 0 < dgV f L p 1 9 := by rw [hm1]; exact nI_lt (a := 0) (by omega) (by omega)
    have big : ∀ d, inB d 0 9 = true → 0 < 10 * dgV f L p 1 9 + d := by
      intro d hd9
      obtain ⟨j, hj, rfl⟩ := inB_k (c := 9) (by decide) hd9
      rw [hm1, show (10 : Int32) = nI 10 from rfl, pk_mul, nI_add]
      exact nI_lt (a := 0) (by omega) (by omega)
    have main : ∀ hi : Nat, hi ≤ 9 → scH (dgV f L p 1 9) = nI hi → scM f L p = true →
        tsM f L (p1, false) (dgV f L p 1 9) = nx f L (p1, false) (nI (48 + 0)) (nI (48 + hi)) → (nx f L (p1, false) (nI (48 + 0)) (nI (48 + hi)) = true → tk f L (p1, false) 48 57 = tk f L (p1, false) (nI (48 + 0)) (nI (48 + hi))) →
        (¬ 0 < scV f L p → (if tsM f L (p1, false) (dgV f L p 1 9) = true then (tk f L (p1, false) 48 57, 10 * dgV f L p 1 9 + (tkC f L (p1, false) - 48)) else ((p1, false), dgV f L p 1 9)).1 = (p, true) ∧ scP f L p = p)
        ∧ (0 < scV f L p → (if tsM f L (p1, false) (dgV f L p 1 9) = true then (tk f L (p1, false) 48 57, 10 * dgV f L p 1 9 + (tkC f L (p1, false) - 48)) else ((p1, false), dgV f L p 1 9)) = ((scP f L p, false), scV f L p)) := by
      intro hi hhi eh em et e57
      obtain ⟨u1, u2⟩ := dg_tk h p1 0 hi (by decide) hhi
      have u3 := dg_nx h p1 0 hi (by decide) hhi
      have hn0 := dgV_neg (f := f) (L := L) (p := p1) (lo := 0) (hi := nI hi) (by decide)
      have z0 : nI 0 = (0 : Int32) := rfl
      rw [et, u3]
      cases hd2 : dgB f L p1 (nI 0) (nI hi) with
      | false =>
        have hd2' : dgB f L p1 0 (nI hi) = false := hd2
        rw [hd2'] at hn0
        have hn0 : dgV f L p1 0 (nI hi) < 0 := by rw [hn0]
        have ev : scV f L p = dgV f L p 1 9 := by unfold scV; rw [em, hq, eh, if_neg (fun t => t.2 hn0)]
        have ep : scP f L p = p1 := by unfold scP; rw [em, if_pos rfl, hq, eh, dgP_f hd2']
        rw [ev, ep, if_neg (by simp)]
        exact ⟨fun q => absurd hpos q, fun _ => rfl⟩
      | true =>
        have hd2' : dgB f L p1 0 (nI hi) = true := hd2
        rw [hd2'] at hn0
        have hn0 : ¬ dgV f L p1 0 (nI hi) < 0 := fun t => by rw [hn0] at t; cases t
        have ev : scV f L p = 10 * dgV f L p 1 9 + dgV f L p1 0 (nI hi) := by unfold scV; rw [em, hq, eh, if_pos ⟨rfl, hn0⟩]
        have ep : scP f L p = dgP f L p1 0 (nI hi) := by unfold scP; rw [em, if_pos rfl, hq, eh]
        have e10 := e57 (by rw [u3]; exact hd2)
        have u2' : dgV f L p1 0 (nI hi) = tkC f L (p1, false) - 48 := u2 hd2
        have hb9 : 0 < 10 * dgV f L p 1 9 + dgV f L p1 0 (nI hi) := by
          refine big _ ?_
          rw [dgV_t hd2']
          unfold dgB at hd2'
          rw [Bool.and_eq_true] at hd2'
          obtain ⟨j, hj, e⟩ := inB_k (by omega) hd2'.2
          rw [e]
          exact decide_eq_true ⟨nI_pos' (by omega), nI_le (b := 9) (by omega) (by omega)⟩
        rw [ev, ep, if_pos rfl, e10, u1, hd2, ← u2']
        exact ⟨fun q => absurd hb9 q, fun _ => rfl⟩
    by_cases h6 : dgV f L p 1 9 = 6
    · refine main 0 (by decide) (by rw [h6]; rfl) (by unfold scM; rw [h6]; decide) ?_ ?_
      · unfold tsM
        rw [h6]
        have : ¬ ((6 : Int32) < 6) := by decide
        simp only [this, false_and, false_or, true_and]
        show decide (nx f L (p1, false) 48 48 = true) = nx f L (p1, false) 48 48
        simp
      · intro hx
        have := nx_ok hx
        rw [tk_of rfl this.2.1 this.2.2, tk_of rfl this.2.1 ?_]
        have := of_decide_eq_true this.2.2
        exact decide_eq_true ⟨this.1, Int32.le_trans this.2 (by decide)⟩
    · by_cases h7 : 6 < dgV f L p 1 9
      · have em : scM f L p = false := by unfold scM; simp [h7]
        have ev : scV f L p = dgV f L p 1 9 := by unfold scV; rw [em, if_neg (by simp)]
        have ep : scP f L p = p1 := by unfold scP; rw [em, if_neg (by simp), hq]
        have et : tsM f L (p1, false) (dgV f L p 1 9) = false := by
          unfold tsM
          have : ¬ dgV f L p 1 9 < 6 := fun q => Int32.lt_irrefl (Int32.lt_trans q h7)
          simp [this, h6]
        rw [ev, ep, et, if_neg (by simp)]
        exact ⟨fun q => absurd hpos q, fun _ => rfl⟩
      · have h5 : dgV f L p 1 9 < 6 := by
          rcases Int32.lt_or_eq_of_le (i_nlt.mp h7) with q | q
          · exact q
          · exact absurd q h6
        refine main 9 (by decide) (by unfold scH; rw [if_neg h6]; rfl) (by unfold scM; exact decide_eq_true ⟨hlo, h7⟩) ?_ (fun _ => rfl)
        unfold tsM
        simp only [h5, h6, true_and, false_and, or_false]
        show decide (nx f L (p1, false) 48 57 = true) = nx f L (p1, false) 48 57
        simp
/-! letters -/
theorem nI_orD {e d : Nat} (hd : d < 32) (he : e * 32 < 2 ^ 32) : nI e <<< (5 &&& 31) ||| nI d = nI (e * 32 + d) := by
  rw [show ((5 : Int32) &&& 31) = 5 from rfl, pk_shlN (5 : Int32) 5 (by decide) he, show e * 2 ^ 5 = 2 ^ 5 * e by omega, fa_or_sum e (k := 5) hd, show 2 ^ 5 * e + d = e * 32 + d by omega]
theorem chL {f : Nat → Int32} {L p : Nat} (h : chOk f L) (hp : p < L) : (¬ f p < 97 ∧ ¬ 122 < f p) ↔ inB (f p) 97 122 = true := by
  unfold inB
  rw [decide_eq_true_eq]
  exact ⟨fun q => ⟨i_nlt.mp q.1, i_nlt.mp q.2⟩, fun q => ⟨i_nlt.mpr q.1, i_nlt.mpr q.2⟩⟩
theorem chD {x : Int32} (h : inB x 97 122 = true) : ∃ d, 1 ≤ d ∧ d ≤ 26 ∧ x - 96 = nI d ∧ x - 97 = nI (d - 1) := by
  obtain ⟨k, hk, e1, e2⟩ := inB_d (n := 97) (c := 25) (a := 97) rfl (by decide) h
  refine ⟨k + 1, by omega, by omega, ?_, by rw [e1]; rfl⟩
  rw [e2, show (96 : Int32) = nI 96 from rfl, pk_sub (by omega)]
  congr 1
  omega
theorem rl_tlL {f : Nat → Int32} {L : Nat} (h : chOk f L) : ∀ (n p : Nat) (ds : List Nat), okd ds → ds.length + n ≤ 6 →
    ∃ es : List Nat, okd es ∧ es.length ≤ 6 ∧ ds.length ≤ es.length ∧ rl f L n p (nI (enc 32 ds)) = ((tlL f L n (p, false) (nI (enc 27 ds))).1.1, nI (enc 32 es)) ∧ tlL f L n (p, false) (nI (enc 27 ds)) = (((tlL f L n (p, false) (nI (enc 27 ds))).1.1, false), nI (enc 27 es))
  | 0, p, ds, ho, hl => ⟨ds, ho, by omega, Nat.le_refl _, rfl, rfl⟩
  | n + 1, p, ds, ho, hl => by
    have e0 : nx f L (p, false) 97 122 = (decide (p < L) && inB (f p) 97 122) := nx_ff
    by_cases hp : p < L
    · cases hb : inB (f p) 97 122 with
      | true =>
        obtain ⟨d, hd1, hd2, e1, e2⟩ := chD hb
        have ho2 : okd (d :: ds) := fun x hx => by
          rcases List.mem_cons.mp hx with rfl | hx
          · exact ⟨hd1, hd2⟩
          · exact ho x hx
        have hb32 := enc_lt (b := 32) (by decide) ho
        have hpow : 32 ^ ds.length ≤ 32 ^ 5 := Nat.pow_le_pow_right (by decide) (by omega)
        have h32 : enc 32 ds * 32 < 2 ^ 32 := by
          have e5 : (32 : Nat) ^ 5 = 33554432 := by decide
          omega
        have ec : tkC f L (p, false) = f p := by simp [tkC, hp]
        have s1 : rl f L (n + 1) p (nI (enc 32 ds)) = rl f L n (p + 1) (nI (enc 32 (d :: ds))) := by
          simp only [rl]
          rw [if_pos ⟨hp, (chL h hp).mpr hb⟩, e1, nI_orD (by omega) h32]
          rfl
        have s2 : tlL f L (n + 1) (p, false) (nI (enc 27 ds)) = tlL f L n (p + 1, false) (nI (enc 27 (d :: ds))) := by
          simp only [tlL]
          rw [e0, hb, if_pos (by simp [hp]), tk_of rfl hp hb, ec, e2]
          congr 1
          rw [show (27 : Int32) = nI 27 from rfl, pk_mul, show (1 : Int32) = nI 1 from rfl, nI_add, nI_add]
          simp only [enc]
          congr 1
          omega
        obtain ⟨es, g1, g2, g3, g4, g5⟩ := rl_tlL h n (p + 1) (d :: ds) ho2 (by simp only [List.length_cons]; omega)
        refine ⟨es, g1, g2, by simp only [List.length_cons] at g3; omega, ?_, ?_⟩
        · rw [s1, s2]; exact g4
        · rw [s2]; exact g5
      | false =>
        refine ⟨ds, ho, by omega, Nat.le_refl _, ?_, ?_⟩
        · simp only [rl, tlL]
          rw [e0, hb, if_neg (fun q => by rw [(chL h hp).mp q.2] at hb; cases hb), if_neg (by simp)]
        · simp only [tlL]
          rw [e0, hb, if_neg (by simp)]
    · refine ⟨ds, ho, by omega, Nat.le_refl _, ?_, ?_⟩
      · simp only [rl, tlL]
        rw [e0, if_neg (fun q => hp q.1), if_neg (by simp [hp])]
      · simp only [tlL]
        rw [e0, if_neg (by simp [hp])]
theorem rl_s (f : Nat → Int32) (L n p : Nat) (c : Int32) : rl f L (n + 1) p c = if p < L ∧ ¬ f p < 97 ∧ ¬ 122 < f p then rl f L n (p + 1) (c <<< (5 &&& 31) ||| (f p - 96)) else (p, c) := by simp only [rl]
theorem rl_tl {f : Nat → Int32} {L : Nat} (h : chOk f L) (p : Nat) : ((rl f L 6 p 0).2 = 0 → (tl f L (p, false)).1 = (p, true) ∧ (rl f L 6 p 0).1 = p)
    ∧ (¬ (rl f L 6 p 0).2 = 0 → (tl f L (p, false)).1 = ((rl f L 6 p 0).1, false) ∧ LR (rl f L 6 p 0).2 (tl f L (p, false)).2 ∧ ¬ (tl f L (p, false)).2 = 0) := by
  by_cases hc : p < L ∧ inB (f p) 97 122 = true
  · obtain ⟨hp, hb⟩ := hc
    obtain ⟨d, hd1, hd2, e1, e2⟩ := chD hb
    have ho : okd [d] := fun x hx => by
      rcases List.mem_cons.mp hx with rfl | hx
      · exact ⟨hd1, hd2⟩
      · cases hx
    obtain ⟨es, g1, g2, g3, g4, g5⟩ := rl_tlL h 5 (p + 1) [d] ho (by simp)
    have ec : tkC f L (p, false) = f p := by simp [tkC, hp]
    have c32 : nI (enc 32 [d]) = nI d := by simp [enc]
    have c27 : nI (enc 27 [d]) = 1 + nI (d - 1) := by
      rw [show (1 : Int32) = nI 1 from rfl, nI_add]
      simp only [enc]
      congr 1
      omega
    have s1 : rl f L 6 p 0 = rl f L 5 (p + 1) (nI (enc 32 [d])) := by
      have e : nI 0 <<< (5 &&& 31) ||| nI d = nI (0 * 32 + d) := nI_orD (by omega) (by omega)
      rw [c32, rl_s f L 5 p 0, if_pos ⟨hp, (chL h hp).mpr hb⟩, e1, show (0 : Int32) = nI 0 from rfl, e, Nat.zero_mul, Nat.zero_add]
    have s2 : tl f L (p, false) = tlL f L 5 (p + 1, false) (nI (enc 27 [d])) := by
      unfold tl
      rw [tk_of rfl hp hb, ec, e2, c27]
    have hne : ¬ es = [] := fun q => by rw [q] at g3; simp at g3
    have hz : ∀ b, 27 ≤ b → b ≤ 32 → ¬ nI (enc b es) = 0 := by
      intro b hb1 hb2
      cases es with
      | nil => exact absurd rfl hne
      | cons x r => exact nI_ne0 (enc_pos g1) (enc_lt31 hb1 hb2 g1 g2)
    have r2 : (rl f L 6 p 0).2 = nI (enc 32 es) := by rw [s1, g4]
    have r1 : (rl f L 6 p 0).1 = (tl f L (p, false)).1.1 := by rw [s1, g4, s2]
    have t2 : (tl f L (p, false)).2 = nI (enc 27 es) := by rw [s2, g5]
    have t1 : (tl f L (p, false)).1.2 = false := by rw [s2, g5]
    refine ⟨fun q => absurd (r2.symm.trans q) (hz 32 (by decide) (by decide)), fun _ => ⟨?_, ?_, ?_⟩⟩
    · rw [r1]
      exact Prod.ext rfl t1
    · rw [r2, t2]
      exact ⟨es, g2, g1, rfl, rfl⟩
    · rw [t2]
      exact hz 27 (by decide) (by decide)
  · have s1 : rl f L 6 p 0 = (p, 0) := by
      rw [rl_s f L 5 p 0, if_neg (fun q => hc ⟨q.1, (chL h q.1).mp q.2⟩)]
    have s3 : tk f L (p, false) 97 122 = (p, true) := by
      unfold tk
      rw [if_neg]
      intro q
      have q2 := q.2
      by_cases hp : p < L
      · rw [show tkC f L (p, false) = f p by simp [tkC, hp]] at q2
        exact hc ⟨hp, q2⟩
      · rw [show tkC f L (p, false) = 0 by simp [tkC, hp]] at q2
        exact absurd q2 (by decide)
    have s2 : (tl f L (p, false)).1 = (p, true) := by
      unfold tl
      rw [s3]
      simp only [tlL]
      rw [nx_bad rfl, if_neg (by simp)]
    rw [s1]
    exact ⟨fun _ => ⟨s2, rfl⟩, fun q => absurd rfl q⟩
