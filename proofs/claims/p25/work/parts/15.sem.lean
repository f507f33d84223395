section SEM
variable {G : wG} {pf : wPft} {own : Nat} {ini : Bool} {rt : Option FieldType} {v mc ms : Nat} {ros : List Nat} {cc : ByteArray} {Qr : Option Value → wMem → Prop} {K Kc : wKt}
  {p : Program} {e : Env} {R : Room} {s : State} {m : MethodId} {args : Array Value} {below : List Frame} {meth : Method} {c : Code} {Z : State → Prop}
  {pc : Nat} {ls : wLs} {st : List Value} {M : wMem} {k n : Nat}
theorem wJump (hx : p.tables.exec = Jvm.exec) (hb : c.code = cc) {off : Int} {x y : Int32} {r : List Value} {cd : Jvm.ClassFile.Cond} (hd : decode cc pc = .ok (.if_icmp cd off, 3)) {H : Heap} {locs : List Loc} {lsA : Array Slot} {tgt : Nat} (ht : (pc : Int) + off = (tgt : Int))
    (kt : wCnd cd x y → W p (gLn G) e R s m args below meth c H locs k n Z (F0 m tgt lsA r)) (kf : ¬ wCnd cd x y → W p (gLn G) e R s m args below meth c H locs k n Z (F0 m (pc + 3) lsA r)) :
    W p (gLn G) e R s m args below meth c H locs k n Z (F0 m pc lsA (.int y :: .int x :: r)) := by
  cases cd with
  | eq => exact lv_icmp_eq hx hb hd ht kt kf
  | ne => exact lv_icmp_ne hx hb hd ht kt (fun h => kf (fun q => q h))
  | lt => exact lv_icmp_lt hx hb hd ht kt kf
  | ge => exact lv_icmp_ge hx hb hd ht kt kf
  | gt => exact lv_icmp_gt hx hb hd ht kt kf
  | le => exact lv_icmp_le hx hb hd ht kt kf
theorem wJump0 (hx : p.tables.exec = Jvm.exec) (hb : c.code = cc) {off : Int} {x : Int32} {r : List Value} {cd : Jvm.ClassFile.Cond} (hd : decode cc pc = .ok (.ifCond cd off, 3)) {H : Heap} {locs : List Loc} {lsA : Array Slot} {tgt : Nat} (ht : (pc : Int) + off = (tgt : Int))
    (kt : wCnd cd x 0 → W p (gLn G) e R s m args below meth c H locs k n Z (F0 m tgt lsA r)) (kf : ¬ wCnd cd x 0 → W p (gLn G) e R s m args below meth c H locs k n Z (F0 m (pc + 3) lsA r)) :
    W p (gLn G) e R s m args below meth c H locs k n Z (F0 m pc lsA (.int x :: r)) := by
  cases cd with
  | eq => exact lv_if_eq hx hb hd ht kt kf
  | ne => exact lv_if_ne hx hb hd ht kt (fun h => kf (fun q => q h))
  | lt => exact lv_if_lt hx hb hd ht kt kf
  | ge => exact lv_if_ge hx hb hd ht kt kf
  | gt => exact lv_if_gt hx hb hd ht kt kf
  | le => exact lv_if_le hx hb hd ht kt kf
theorem wSem_a (hx : p.tables.exec = Jvm.exec) (hb : c.code = cc) (hK : ∀ pc ls st M k n, K pc ls st M k n → wAt G p e R s m args below meth c Z pc ls st M k n) {i : Instr} {len : Nat} (hd : decode cc pc = .ok (i, len))
    (hi : match i with | .iconst _ | .bipush _ | .sipush _ | .lconst _ | .iload_n _ | .iload _ | .lload_n _ | .aload_n _ | .aload _ | .istore_n _ | .istore _ | .astore_n _ | .astore _ | .iinc _ _ | .iadd | .isub | .imul | .idiv | .irem | .iand | .ior | .ishl | .ishr | .pop | .iushr | .lushr | .lshl | .land | .lor | .lcmp | .i2l | .l2i | .i2c | .dup | .dup2 => True | _ => False)
    (h : wSem G pf own ini rt v mc ms ros Qr K Kc i len pc ls st M k n) : wAt G p e R s m args below meth c Z pc ls st M k n := by
  cases i with
  | iconst c0 => obtain ⟨rfl, h⟩ := h; exact fun H locs lsA hl hp hS hz => lv_iconst hx hb hd rfl (hK _ _ _ _ _ _ h H locs lsA hl hp hS hz)
  | bipush c0 => obtain ⟨rfl, h⟩ := h; exact fun H locs lsA hl hp hS hz => lv_bipush hx hb hd rfl (hK _ _ _ _ _ _ h H locs lsA hl hp hS hz)
  | sipush c0 => obtain ⟨rfl, h⟩ := h; exact fun H locs lsA hl hp hS hz => lv_sipush hx hb hd rfl (hK _ _ _ _ _ _ h H locs lsA hl hp hS hz)
  | lconst c0 => obtain ⟨rfl, h⟩ := h; exact fun H locs lsA hl hp hS hz => lv_lconst hx hb hd rfl (hK _ _ _ _ _ _ h H locs lsA hl hp hS hz)
  | iload_n c0 => obtain ⟨rfl, h⟩ := h; obtain ⟨x, e1, h⟩ := wLi_e h; exact fun H locs lsA hl hp hS hz => lv_iload_n hx hb hd rfl (hl.2.2.2 _ _ e1) (hK _ _ _ _ _ _ h H locs lsA hl hp hS hz)
  | iload c0 => obtain ⟨rfl, h⟩ := h; obtain ⟨x, e1, h⟩ := wLi_e h; exact fun H locs lsA hl hp hS hz => lv_iload hx hb hd (hl.2.2.2 _ _ e1) (hK _ _ _ _ _ _ h H locs lsA hl hp hS hz)
  | lload_n c0 => obtain ⟨rfl, h⟩ := h; obtain ⟨x, e1, h⟩ := wLl_e h; exact fun H locs lsA hl hp hS hz => lv_lload_n hx hb hd rfl (hl.2.2.2 _ _ e1) (hK _ _ _ _ _ _ h H locs lsA hl hp hS hz)
  | aload_n c0 => obtain ⟨rfl, h⟩ := h; obtain ⟨x, e1, h⟩ := wLr_e h; exact fun H locs lsA hl hp hS hz => lv_aload_n hx hb hd rfl (hl.2.2.2 _ _ e1) (hK _ _ _ _ _ _ h H locs lsA hl hp hS hz)
  | aload c0 => obtain ⟨rfl, h⟩ := h; obtain ⟨x, e1, h⟩ := wLr_e h; exact fun H locs lsA hl hp hS hz => lv_aload hx hb hd (hl.2.2.2 _ _ e1) (hK _ _ _ _ _ _ h H locs lsA hl hp hS hz)
  | istore_n c0 =>
    obtain ⟨rfl, hi, hn, h⟩ := h; obtain ⟨x, r, rfl, h⟩ := s1i_e h
    exact fun H locs lsA hl hp hS hz => lv_istore_n (x := x) hx hb hd rfl hl.has (Nat.lt_of_lt_of_le hi hl.2.1) rfl (fun ls' hl' => hK _ _ _ _ _ _ h H locs ls' (hl.set (w := .int x) hi hn hl') hp hS hz)
  | istore c0 =>
    obtain ⟨rfl, hi, hn, h⟩ := h; obtain ⟨x, r, rfl, h⟩ := s1i_e h
    exact fun H locs lsA hl hp hS hz => lv_istore (x := x) hx hb hd hl.has (Nat.lt_of_lt_of_le hi hl.2.1) rfl (fun ls' hl' => hK _ _ _ _ _ _ h H locs ls' (hl.set (w := .int x) hi hn hl') hp hS hz)
  | astore_n c0 =>
    obtain ⟨rfl, hi, hn, h⟩ := h; obtain ⟨x, r, rfl, h⟩ := s1r_e h
    exact fun H locs lsA hl hp hS hz => lv_astore_n (x := gAd G x) hx hb hd rfl hl.has (Nat.lt_of_lt_of_le hi hl.2.1) rfl (fun ls' hl' => hK _ _ _ _ _ _ h H locs ls' (hl.set (w := .ref x) hi hn hl') hp hS hz)
  | astore c0 =>
    obtain ⟨rfl, hi, hn, h⟩ := h; obtain ⟨x, r, rfl, h⟩ := s1r_e h
    exact fun H locs lsA hl hp hS hz => lv_astore (x := gAd G x) hx hb hd hl.has (Nat.lt_of_lt_of_le hi hl.2.1) rfl (fun ls' hl' => hK _ _ _ _ _ _ h H locs ls' (hl.set (w := .ref x) hi hn hl') hp hS hz)
  | iinc c0 d0 =>
    obtain ⟨rfl, hi, hn, h⟩ := h; obtain ⟨x, e1, h⟩ := wLi_e h
    intro H locs lsA hl hp hS hz
    obtain ⟨j, hj⟩ := List.getElem?_of_mem (wEn_mem (G := G).mpr ⟨_, e1, rfl⟩ : (c0, rv G (.int x)) ∈ wEn G ls)
    exact lv_iinc (x := x) (k := j) hx hb hd hl.has hj rfl (Nat.lt_of_lt_of_le hi hl.2.1) rfl (fun ls' hl' => hK _ _ _ _ _ _ h H locs ls' (hl.set (w := .int (x + Int32.ofInt d0)) hi hn hl') hp hS hz)
  | iadd => obtain ⟨rfl, h⟩ := h; obtain ⟨x, y, r, rfl, h⟩ := s2i_e h; exact fun H locs lsA hl hp hS hz => lv_iadd hx hb hd (hK _ _ _ _ _ _ h H locs lsA hl hp hS hz)
  | isub => obtain ⟨rfl, h⟩ := h; obtain ⟨x, y, r, rfl, h⟩ := s2i_e h; exact fun H locs lsA hl hp hS hz => lv_isub hx hb hd (hK _ _ _ _ _ _ h H locs lsA hl hp hS hz)
  | imul => obtain ⟨rfl, h⟩ := h; obtain ⟨x, y, r, rfl, h⟩ := s2i_e h; exact fun H locs lsA hl hp hS hz => lv_imul hx hb hd (hK _ _ _ _ _ _ h H locs lsA hl hp hS hz)
  | idiv => obtain ⟨rfl, h⟩ := h; obtain ⟨x, y, r, rfl, h0, h⟩ := s2i_e h; exact fun H locs lsA hl hp hS hz => lv_idiv hx hb hd h0 (hK _ _ _ _ _ _ h H locs lsA hl hp hS hz)
  | irem => obtain ⟨rfl, h⟩ := h; obtain ⟨x, y, r, rfl, h0, h⟩ := s2i_e h; exact fun H locs lsA hl hp hS hz => lv_irem hx hb hd h0 (hK _ _ _ _ _ _ h H locs lsA hl hp hS hz)
  | iand => obtain ⟨rfl, h⟩ := h; obtain ⟨x, y, r, rfl, h⟩ := s2i_e h; exact fun H locs lsA hl hp hS hz => lv_iand hx hb hd (hK _ _ _ _ _ _ h H locs lsA hl hp hS hz)
  | ior => obtain ⟨rfl, h⟩ := h; obtain ⟨x, y, r, rfl, h⟩ := s2i_e h; exact fun H locs lsA hl hp hS hz => lv_ior hx hb hd (hK _ _ _ _ _ _ h H locs lsA hl hp hS hz)
  | ishl => obtain ⟨rfl, h⟩ := h; obtain ⟨x, y, r, rfl, h⟩ := s2i_e h; exact fun H locs lsA hl hp hS hz => lv_ishl hx hb hd (hK _ _ _ _ _ _ h H locs lsA hl hp hS hz)
  | ishr => obtain ⟨rfl, h⟩ := h; obtain ⟨x, y, r, rfl, h⟩ := s2i_e h; exact fun H locs lsA hl hp hS hz => lv_ishr hx hb hd (hK _ _ _ _ _ _ h H locs lsA hl hp hS hz)
  | pop => obtain ⟨rfl, h⟩ := h; obtain ⟨x, r, rfl, h0, h⟩ := s1v_e h; exact fun H locs lsA hl hp hS hz => lv_pop hx hb hd ((rv_cat G x).trans h0) (hK _ _ _ _ _ _ h H locs lsA hl hp hS hz)
  | iushr => obtain ⟨rfl, h⟩ := h; obtain ⟨x, y, r, rfl, h⟩ := s2i_e h; exact fun H locs lsA hl hp hS hz => lv_iushr hx hb hd rfl (hK _ _ _ _ _ _ h H locs lsA hl hp hS hz)
  | lushr => obtain ⟨rfl, h⟩ := h; obtain ⟨x, y, r, rfl, h⟩ := sLI_e h; exact fun H locs lsA hl hp hS hz => lv_lushr hx hb hd rfl (hK _ _ _ _ _ _ h H locs lsA hl hp hS hz)
  | lshl => obtain ⟨rfl, h⟩ := h; obtain ⟨x, y, r, rfl, h⟩ := sLI_e h; exact fun H locs lsA hl hp hS hz => lv_lshl hx hb hd rfl (hK _ _ _ _ _ _ h H locs lsA hl hp hS hz)
  | land => obtain ⟨rfl, h⟩ := h; obtain ⟨x, y, r, rfl, h⟩ := s2l_e h; exact fun H locs lsA hl hp hS hz => lv_land hx hb hd (hK _ _ _ _ _ _ h H locs lsA hl hp hS hz)
  | lor => obtain ⟨rfl, h⟩ := h; obtain ⟨x, y, r, rfl, h⟩ := s2l_e h; exact fun H locs lsA hl hp hS hz => lv_lor hx hb hd (hK _ _ _ _ _ _ h H locs lsA hl hp hS hz)
  | lcmp => obtain ⟨rfl, h⟩ := h; obtain ⟨x, y, r, rfl, h⟩ := s2l_e h; exact fun H locs lsA hl hp hS hz => W.lcmp hx hb hd (hK _ _ _ _ _ _ h H locs lsA hl hp hS hz)
  | i2l => obtain ⟨rfl, h⟩ := h; obtain ⟨x, r, rfl, h⟩ := s1i_e h; exact fun H locs lsA hl hp hS hz => lv_i2l hx hb hd rfl (hK _ _ _ _ _ _ h H locs lsA hl hp hS hz)
  | l2i => obtain ⟨rfl, h⟩ := h; obtain ⟨x, r, rfl, h⟩ := s1l_e h; exact fun H locs lsA hl hp hS hz => lv_l2i hx hb hd rfl (hK _ _ _ _ _ _ h H locs lsA hl hp hS hz)
  | i2c => obtain ⟨rfl, h⟩ := h; obtain ⟨x, r, rfl, h⟩ := s1i_e h; exact fun H locs lsA hl hp hS hz => lv_i2c hx hb hd rfl (hK _ _ _ _ _ _ h H locs lsA hl hp hS hz)
  | dup => obtain ⟨rfl, h⟩ := h; obtain ⟨x, r, rfl, h0, h⟩ := s1v_e h; exact fun H locs lsA hl hp hS hz => lv_dup hx hb hd ((rv_cat G x).trans h0) (hK _ _ _ _ _ _ h H locs lsA hl hp hS hz)
  | dup2 => obtain ⟨rfl, h⟩ := h; obtain ⟨x, y, r, rfl, h0, h1, h⟩ := s2v_e h; exact fun H locs lsA hl hp hS hz => lv_dup2_11 hx hb hd ((rv_cat G x).trans h0) ((rv_cat G y).trans h1) (hK _ _ _ _ _ _ h H locs lsA hl hp hS hz)
  | _ => exact hi.elim
theorem wSwA_e {f : Int → Prop} {x : Int32} : ∀ {l : List Int} {a : Int}, wSwA l a x f → a ≤ x.toInt → x.toInt < a + l.length → ∃ o, l[(x.toInt - a).toNat]? = some o ∧ f o
  | [], a, _, h1, h2 => by simp at h2; omega
  | o :: t, a, h, h1, h2 => by
    by_cases he : x.toInt = a
    · refine ⟨o, by simp [he], h.1 ?_⟩
      rw [← he, Int32.ofInt_toInt]
    · obtain ⟨o2, g1, g2⟩ := wSwA_e (l := t) (a := a + 1) h.2 (by omega) (by simp only [List.length_cons] at h2; omega)
      refine ⟨o2, ?_, g2⟩
      rw [show (x.toInt - a).toNat = (x.toInt - (a + 1)).toNat + 1 by omega, List.getElem?_cons_succ]
      exact g1
theorem wSem_b (hx : p.tables.exec = Jvm.exec) (hb : c.code = cc) (hK : ∀ pc ls st M k n, K pc ls st M k n → wAt G p e R s m args below meth c Z pc ls st M k n) {i : Instr} {len : Nat} (hd : decode cc pc = .ok (i, len))
    (hi : match i with | .ifCond _ _ | .if_icmp _ _ | .goto _ | .tableswitch _ _ _ _ => True | _ => False)
    (h : wSem G pf own ini rt v mc ms ros Qr K Kc i len pc ls st M k n) : wAt G p e R s m args below meth c Z pc ls st M k n := by
  cases i with
  | ifCond cd off =>
    obtain ⟨rfl, hoff, h⟩ := h; obtain ⟨x, r, rfl, h1, h2⟩ := s1i_e h
    exact fun H locs lsA hl hp hS hz => wJump0 (tgt := ((pc : Int) + off).toNat) hx hb hd (by omega) (fun q => hK _ _ _ _ _ _ (h1 q) H locs lsA hl hp hS hz) (fun q => hK _ _ _ _ _ _ (h2 q) H locs lsA hl hp hS hz)
  | if_icmp cd off =>
    obtain ⟨rfl, hoff, h⟩ := h; obtain ⟨x, y, r, rfl, h1, h2⟩ := s2i_e h
    exact fun H locs lsA hl hp hS hz => wJump (tgt := ((pc : Int) + off).toNat) hx hb hd (by omega) (fun q => hK _ _ _ _ _ _ (h1 q) H locs lsA hl hp hS hz) (fun q => hK _ _ _ _ _ _ (h2 q) H locs lsA hl hp hS hz)
  | goto off => obtain ⟨rfl, h⟩ := h; obtain ⟨t, ht, h⟩ := wJ_e h; exact fun H locs lsA hl hp hS hz => lv_goto hx hb hd ht (hK _ _ _ _ _ _ h H locs lsA hl hp hS hz)
  | tableswitch d lo hi' offs =>
    obtain ⟨x, r, rfl, hln, h1, h2⟩ := s1i_e h
    intro H locs lsA hl hp hS hz
    by_cases ho : x.toInt < lo ∨ hi' < x.toInt
    · obtain ⟨t, ht, h⟩ := wJ_e (h1 ho)
      exact lv_tableOut hx hb hd ho ht (hK _ _ _ _ _ _ h H locs lsA hl hp hS hz)
    · obtain ⟨o, e1, h⟩ := wSwA_e h2 (by omega) (by omega)
      obtain ⟨t, ht, h⟩ := wJ_e h
      exact lv_tableIn hx hb hd (fun q => ho (Or.inl q)) (fun q => ho (Or.inr q)) (by rw [← Array.getElem?_toList]; exact e1) ht (hK _ _ _ _ _ _ h H locs lsA hl hp hS hz)
  | _ => exact hi.elim
end SEM
