section SEMH
variable {G : wG} {pf : wPft} {own : Nat} {ini : Bool} {rt : Option FieldType} {v mc ms : Nat} {ros : List Nat} {cc : ByteArray} {Qr : Option Value → wMem → Prop} {K Kc : wKt}
  {p : Program} {e : Env} {R : Room} {s : State} {m : MethodId} {args : Array Value} {below : List Frame} {meth : Method} {c : Code} {Z : State → Prop}
  {pc : Nat} {ls : wLs} {st : List Value} {M : wMem} {k n : Nat}
theorem wI_up (M : wMem) (a k : Nat) (x : Int32) : wI (wSetI M a k x) a = upd (wI M a) k x := by funext j; simp [wI_setI, upd]
theorem wP_up (M : wMem) (a k : Nat) (x : Option Nat) : wP (wSetP M a k x) a = fun j => if j = k then x else wP M a j := by funext j; simp [wP_setP]
theorem wP_up0 (M : wMem) (a k : Nat) (x : Int32) : wP (wSetI M a k x) a = wP M a := rfl
theorem wI_up0 (M : wMem) (a k : Nat) (x : Option Nat) : wI (wSetP M a k x) a = wI M a := rfl
theorem wSem_g (hx : p.tables.exec = Jvm.exec) (hb : c.code = cc) (hown : s.vm.findClass (RXn own) = some m.cls) (hts : ∀ w ∈ wU, w.before args s = true) (hE : wEnv G s)
    (hK : ∀ pc ls st M k n, K pc ls st M k n → wAt G p e R s m args below meth c Z pc ls st M k n) {i : Instr} {len : Nat} (hd : decode cc pc = .ok (i, len))
    (hi : match i with | .ldc2_w _ | .ldc _ | .getfield _ | .getstatic _ | .iaload | .baload | .caload | .aaload | .arraylength | .checkcast _ => True | _ => False)
    (h : wSem G pf own ini rt v mc ms ros Qr K Kc i len pc ls st M k n) : wAt G p e R s m args below meth c Z pc ls st M k n := by
  cases i with
  | ldc2_w c0 =>
    obtain ⟨rfl, h⟩ := h; obtain ⟨x, e1, h⟩ := wO_e h
    exact fun H locs lsA hl hp hS hz => lv_ldc2 hx hb hown (hts _ (wL_ok e1)) hd (hK _ _ _ _ _ _ h H locs lsA hl hp hS hz)
  | ldc c0 =>
    obtain ⟨rfl, h⟩ := h; obtain ⟨x, e1, h⟩ := wO_e h
    exact fun H locs lsA hl hp hS hz => lv_ldc hx hb hown (hts _ (wJc_ok e1)) hd (hK _ _ _ _ _ _ h H locs lsA hl hp hS hz)
  | getfield c0 =>
    obtain ⟨rfl, h⟩ := h; obtain ⟨⟨ci, f, tc, fin⟩, e1, h⟩ := wO_e h; obtain ⟨a, r, rfl, h0, h⟩ := s1r_e h
    obtain ⟨g1, g2, g3, g4, g5, g6⟩ := wF_ok e1
    intro H locs lsA hl hp hS hz
    refine va_get (q0 := a) hx hb hts (wU_lays ci g2) hown hE.1 hp.2.2 (wAt_o hp h0 g2) (cl9_at ci g2) f g3 (hts _ g1) (fun _ h9 => by rw [g4] at h9; exact h9) (wFs_at g6) hd ?_
    by_cases ht : tc = 2
    · rw [if_pos ht] at h ⊢
      have := hK _ _ _ _ _ _ h H locs lsA hl hp hS hz
      rw [List.map_cons, rv_wRf] at this
      exact this
    · rw [if_neg ht] at h ⊢
      exact hK _ _ _ _ _ _ h H locs lsA hl hp hS hz
  | getstatic c0 =>
    obtain ⟨rfl, h⟩ := h; obtain ⟨⟨a, b⟩, e1, h⟩ := wO_e h
    obtain ⟨g1, g2, g3⟩ := wS_ok e1
    intro H locs lsA hl hp hS hz
    have k0 := hK _ _ _ _ _ _ h H locs lsA hl hp hS hz
    have k1 : W p (gLn G) e R s m args below meth c H locs k n Z (F0 m (pc + 3) lsA (.ref (gRa G a) :: st.map (rv G))) := by
      rw [← wAd_ro (G := G) (i := a) (by omega)]
      exact k0
    cases b with
    | false => exact va_gets (C := RX7) (n := sNm a) (d := "[I") (ref := RX7) hx hb (hE.2.2.1 a g2 g3) hS hown (hts _ (g1 rfl)) (fun _ h9 => h9) hd k1
    | true => exact va_getsN (C := RX7) (n := sNm a) (d := "[I") (ref := RX7) (host := RX7) hx hb (hE.2.2.1 a g2 g3) hS hown (va_Nw.use rfl (hE.2.2.2.2.2.2.1 _ _ _ e1)) (fun _ h9 => h9) hd k1
  | iaload =>
    obtain ⟨rfl, h⟩ := h
    by_cases hr : pc ∈ ros
    · rw [if_pos hr] at h
      obtain ⟨i, a, r, rfl, h1, h2, h3, h⟩ := sIR_e h
      intro H locs lsA hl hp hS hz
      obtain ⟨g1, g2⟩ := hE.2.1 a h1 h2
      have hlt : gRa G a < s.heap.size := by
        obtain ⟨scr, q1, -⟩ := g2
        exact (Array.getElem?_eq_some_iff.mp q1).1
      show W p (gLn G) e R s m args below meth c H locs k n Z (F0 m pc lsA (.int i :: .ref (gAd G a) :: r.map (rv G)))
      rw [wAd_ro h1]
      exact va_sld hx hb g2 hlt (fun q => absurd g1 (Nat.not_lt.mpr q)) hS h3 hd (hK _ _ _ _ _ _ h H locs lsA hl hp hS hz)
    · rw [if_neg hr] at h
      obtain ⟨i, a, r, rfl, h⟩ := sIR_e h
      obtain ⟨l, h0, h3, h⟩ := wAr_e h
      exact fun H locs lsA hl hp hS hz => va_iald (q0 := a) (t0 := 0) hx hb hE.1 hp.2.2 (wAt_i hp h0 (by omega) (by omega)) rfl h3 hd (hK _ _ _ _ _ _ h H locs lsA hl hp hS hz)
  | baload =>
    obtain ⟨rfl, h⟩ := h
    obtain ⟨i, a, r, rfl, h⟩ := sIR_e h
    obtain ⟨l, h0, h3, h⟩ := wAr_e h
    exact fun H locs lsA hl hp hS hz => va_zald (q0 := a) (t0 := 1) hx hb hE.1 hp.2.2 (wAt_i hp h0 (by omega) (by omega)) rfl h3 hd (hK _ _ _ _ _ _ h H locs lsA hl hp hS hz)
  | caload =>
    obtain ⟨rfl, h⟩ := h
    obtain ⟨i, a, r, rfl, h⟩ := sIR_e h
    obtain ⟨l, h0, h3, h⟩ := wAr_e h
    exact fun H locs lsA hl hp hS hz => va_cald (q0 := a) (t0 := 2) hx hb hE.1 hp.2.2 (wAt_i hp h0 (by omega) (by omega)) rfl h3 hd (hK _ _ _ _ _ _ h H locs lsA hl hp hS hz)
  | aaload =>
    obtain ⟨rfl, h⟩ := h
    obtain ⟨i, a, r, rfl, h⟩ := sIR_e h
    obtain ⟨kd, l, h0, h1, h2, h3, h⟩ := wAq_e h
    intro H locs lsA hl hp hS hz
    have k0 := hK _ _ _ _ _ _ h H locs lsA hl hp hS hz
    rw [List.map_cons, rv_wRf] at k0
    have hty : ∃ C, aTy kd = .object C := by
      have : kd = 13 ∨ kd = 14 ∨ kd = 15 := by omega
      rcases this with rfl | rfl | rfl <;> exact ⟨_, rfl⟩
    obtain ⟨C, hC⟩ := hty
    exact va_aldq (q0 := a) (t0 := kd - 10) (C := C) hx hb hE.1 hp.2.2 (wAt_q hp h0 h1) (by rw [wTys_at (by omega) h2, hC]) h3 hd k0
  | arraylength =>
    obtain ⟨rfl, h⟩ := h
    obtain ⟨a, r, rfl, rfl, h⟩ := s1r_e h
    intro H locs lsA hl hp hS hz
    obtain ⟨g1, g2⟩ := hE.2.1 1000000 (by omega) (by omega)
    have hlt : gRa G 1000000 < s.heap.size := by
      obtain ⟨scr, q1, -⟩ := g2
      exact (Array.getElem?_eq_some_iff.mp q1).1
    show W p (gLn G) e R s m args below meth c H locs k n Z (F0 m pc lsA (.ref (gAd G 1000000) :: r.map (rv G)))
    rw [wAd_ro (by omega)]
    exact va_slen hx hb g2 hlt (fun q => absurd g1 (Nat.not_lt.mpr q)) hS hd (hK _ _ _ _ _ _ h H locs lsA hl hp hS hz)
  | checkcast c0 =>
    obtain ⟨rfl, hk, h⟩ := h
    obtain ⟨a, r, rfl, h⟩ := s1r_e h
    obtain ⟨l, h0, h⟩ := wAr_e h
    intro H locs lsA hl hp hS hz
    have hnm : s.vm.findClass "[I" = some (gCA G 10) := (hE.1.2 0 _ rfl).2
    exact va_castA (q0 := a) hx hb hown (hts _ (wK_ok hk)) hp.2.2 (wAt_i hp h0 (by omega) (by omega)) hnm hd (hK _ _ _ _ _ _ h H locs lsA hl hp hS hz)
  | _ => exact hi.elim
theorem wSem_p (hx : p.tables.exec = Jvm.exec) (hb : c.code = cc) (hown : s.vm.findClass (RXn own) = some m.cls) (hts : ∀ w ∈ wU, w.before args s = true) (hE : wEnv G s) (hini : ini = true → meth.name = "<init>")
    (hK : ∀ pc ls st M k n, K pc ls st M k n → wAt G p e R s m args below meth c Z pc ls st M k n) {i : Instr} {len : Nat} (hd : decode cc pc = .ok (i, len))
    (hi : match i with | .putfield _ | .iastore | .bastore | .castore | .aastore => True | _ => False)
    (h : wSem G pf own ini rt v mc ms ros Qr K Kc i len pc ls st M k n) : wAt G p e R s m args below meth c Z pc ls st M k n := by
  cases i with
  | putfield c0 =>
    obtain ⟨rfl, h⟩ := h; obtain ⟨⟨ci, f, tc, fin⟩, e1, h⟩ := wO_e h; obtain ⟨w, a, r, rfl, h0, hf, h⟩ := sVR_e h
    obtain ⟨g1, g2, g3, g4, g5, g6⟩ := wF_ok e1
    intro H locs lsA hl hp hS hz
    have hty := tyn_ok ci g2 f g3
    have htc := (tcs_ok ci g2 f tc g6).2
    have hlen : f < (wFs G (tcs ci) (wI M a) (wP M a)).length := by rw [wFs_len, tcs_len ci g2]; exact g3
    -- the new memory, by the kind of the field
    have key : ∀ (x : Value) (M' : wMem), narrow (tyn ci f) x = x → fits (tyn ci f) x = true → K (pc + 3) ls r M' k n → wZ M' = wZ M → (∀ q, wS M' q = wS M q) → (∀ i, i ≠ a → ∀ j, wI M' i j = wI M i j) → (∀ i, i ≠ a → ∀ j, wP M' i j = wP M i j) →
        (wFs G (tcs ci) (wI M a) (wP M a)).set f x = wFs G (tcs ci) (wI M' a) (wP M' a) → W p (gLn G) e R s m args below meth c H locs k n Z (F0 m pc lsA (x :: .ref (gAd G a) :: r.map (rv G))) := by
      intro x M' hn hfit hk q1 q2 q3 q4 q5
      have hen : wEnt G M' a = .inr (ci, (wFs G (tcs ci) (wI M a) (wP M a)).set f x) := by
        rw [q5, wEnt_of ((q2 a).trans h0), wKent_o (by omega)]
      have kk : ∀ (H1 : Heap) (locs1 : List Loc), va_P (gD G) cl9 ((wWs G M).set a (gAd G a, .inr (ci, (wFs G (tcs ci) (wI M a) (wP M a)).set f x))) H1 → va_D (gA G) ((wWs G M).set a (gAd G a, .inr (ci, (wFs G (tcs ci) (wI M a) (wP M a)).set f x))) → va_S (gA G) s.heap H1 locs1 →
          W p (gLn G) e R s m args below meth c H1 locs1 k n Z (F0 m (pc + 3) lsA (r.map (rv G))) := fun H1 locs1 hP _ hS1 => hK _ _ _ _ _ _ hk H1 locs1 lsA hl (wHp_set hp q1 q2 ⟨_, h0⟩ q3 q4 hen hP) hS1 (by rw [q1]; exact hz)
      cases hfin : fin with
      | false => exact va_put (q0 := a) hx hb hts (wU_lays ci g2) (tyn ci) (tyn_ok ci g2) (nmn_ok ci g2) hown hE.1 hp.2.2 (wD_ws G M) hS (wAt_o hp h0 g2) (cl9_at ci g2) f g3 (hts _ g1) (fun _ h9 => by rw [g4] at h9; exact h9) (by rw [g5, hfin]) hty hn hfit hlen hd kk
      | true =>
        obtain ⟨hi1, hi2⟩ := hf hfin
        exact va_putF (q0 := a) hx hb hts (wU_lays ci g2) (tyn ci) (tyn_ok ci g2) (nmn_ok ci g2) hown hE.1 hp.2.2 (wD_ws G M) hS (wAt_o hp h0 g2) (cl9_at ci g2) f g3 (hts _ g1) (fun _ h9 => by rw [g4] at h9; exact h9) (by rw [g5, hfin]) (hini hi1) (by rw [g4, hi2]) hty hn hfit hlen hd kk
    by_cases ht : tc = 2
    · rw [if_pos ht] at h
      obtain ⟨b, rfl, h⟩ := wVr_e h
      subst ht
      obtain ⟨t1, t2⟩ := wTy_r (a := gAd G b) htc
      refine key (.ref (gAd G b)) _ t1 t2 h rfl (fun _ => rfl) (fun i hi j => rfl) (fun i hi j => by rw [wP_setP, if_neg (fun q => hi q.1)]) ?_
      exact wFs_set g6 (by rw [wP_up]; simp [va_rf]) (fun j _ => rfl) (fun j hj => by rw [wP_up]; exact if_neg hj)
    · rw [if_neg ht] at h
      obtain ⟨x, rfl, hxx, h⟩ := wVi_e h
      obtain ⟨t1, t2⟩ := wTy_i htc ht hxx
      refine key (.int x) _ t1 t2 h rfl (fun _ => rfl) (fun i hi j => by rw [wI_setI, if_neg (fun q => hi q.1)]) (fun i hi j => rfl) ?_
      exact wFs_set g6 (by rw [wI_up]; simp [upd, ht]) (fun j hj => by rw [wI_up]; simp [upd, hj]) (fun j _ => rfl)
  | iastore =>
    obtain ⟨rfl, h⟩ := h
    obtain ⟨x, i, a, r, rfl, h⟩ := sIIR_e h
    obtain ⟨l, h0, h3, h⟩ := wAr_e h
    intro H locs lsA hl hp hS hz
    refine va_iast (q0 := a) (t0 := 0) hx hb hE.1 hp.2.2 (wD_ws G M) hS (wAt_i hp h0 (by omega) (by omega)) rfl h3 hd (fun H1 locs1 hP _ hS1 => hK _ _ _ _ _ _ h H1 locs1 lsA hl (wHp_set hp rfl (fun _ => rfl) ⟨_, h0⟩ (fun i hi j => by rw [wI_setI, if_neg (fun q => hi q.1)]) (fun i hi j => rfl) ?_ hP) hS1 hz)
    rw [wEnt_of ((wS_setI M _ _ _ a).trans h0), wKent_i (by omega) (by omega), wI_up]
  | bastore =>
    obtain ⟨rfl, h⟩ := h
    obtain ⟨x, i, a, r, rfl, h⟩ := sIIR_e h
    obtain ⟨l, h0, h3, h⟩ := wAr_e h
    intro H locs lsA hl hp hS hz
    refine va_zast (q0 := a) (t0 := 1) hx hb hE.1 hp.2.2 (wD_ws G M) hS (wAt_i hp h0 (by omega) (by omega)) rfl h3 hd (fun H1 locs1 hP _ hS1 => hK _ _ _ _ _ _ h H1 locs1 lsA hl (wHp_set hp rfl (fun _ => rfl) ⟨_, h0⟩ (fun i hi j => by rw [wI_setI, if_neg (fun q => hi q.1)]) (fun i hi j => rfl) ?_ hP) hS1 hz)
    rw [wEnt_of ((wS_setI M _ _ _ a).trans h0), wKent_i (by omega) (by omega), wI_up]
  | castore =>
    obtain ⟨rfl, h⟩ := h
    obtain ⟨x, i, a, r, rfl, h⟩ := sIIR_e h
    obtain ⟨l, h0, h3, h⟩ := wAr_e h
    intro H locs lsA hl hp hS hz
    refine va_cast (q0 := a) (t0 := 2) hx hb hE.1 hp.2.2 (wD_ws G M) hS (wAt_i hp h0 (by omega) (by omega)) rfl h3 hd (fun H1 locs1 hP _ hS1 => hK _ _ _ _ _ _ h H1 locs1 lsA hl (wHp_set hp rfl (fun _ => rfl) ⟨_, h0⟩ (fun i hi j => by rw [wI_setI, if_neg (fun q => hi q.1)]) (fun i hi j => rfl) ?_ hP) hS1 hz)
    rw [wEnt_of ((wS_setI M _ _ _ a).trans h0), wKent_i (by omega) (by omega), wI_up]
  | aastore =>
    obtain ⟨rfl, h⟩ := h
    obtain ⟨w, i, a, r, rfl, h⟩ := sRIR_e h
    obtain ⟨kd, l, h0, h1, h2, h4, h3, h⟩ := wAq_e h
    intro H locs lsA hl hp hS hz
    have hec : eCl kd < 8 := by
      have : kd = 13 ∨ kd = 14 ∨ kd = 15 := by omega
      rcases this with rfl | rfl | rfl <;> decide
    refine va_astq (q0 := a) (t0 := kd - 10) (qk := w) (ci := eCl kd) (r := (RXn (eCl kd), TXn (eCl kd), NXn (eCl kd))) hx hb hE.1 hp.2.2 (wD_ws G M) hS (wAt_q hp h0 h1) ?_ (wAt_o hp h4 hec) (cl9_at _ hec) h3 hd (fun H1 locs1 hP _ hS1 => hK _ _ _ _ _ _ h H1 locs1 lsA hl (wHp_set hp rfl (fun _ => rfl) ⟨_, h0⟩ (fun i hi j => rfl) (fun i hi j => by rw [wP_setP, if_neg (fun q => hi q.1)]) ?_ hP) hS1 hz)
    · rw [wTys_at (by omega) h2]
      have : kd = 13 ∨ kd = 14 ∨ kd = 15 := by omega
      rcases this with rfl | rfl | rfl <;> rfl
    · rw [wEnt_of ((wS_setP M _ _ _ a).trans h0), wKent_q h1, wP_up]
      congr 7
      funext j
      by_cases hj : j = i.toNatClampNeg
      · subst hj
        simp [va_up]
      · simp [va_up, hj]
  | _ => exact hi.elim
end SEMH
