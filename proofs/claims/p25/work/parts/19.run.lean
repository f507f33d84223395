section SEMR
variable {G : wG} {pf : wPft} {own : Nat} {ini : Bool} {rt : Option FieldType} {v mc ms : Nat} {ros stops : List Nat} {cc : ByteArray} {Qr : Option Value → wMem → Prop} {K Kc : wKt}
  {p : Program} {e : Env} {R : Room} {s : State} {m : MethodId} {args : Array Value} {below : List Frame} {meth : Method} {c : Code} {Z : State → Prop}
  {pc : Nat} {ls : wLs} {st : List Value} {M : wMem} {k n : Nat}
theorem wSem_ok (C : wCtx G own ini rt v mc ms cc Qr p e R s m args below meth c Z) (hpf : wPfOk G pf) (hK : ∀ pc ls st M k n, K pc ls st M k n → wAt G p e R s m args below meth c Z pc ls st M k n) (hKc : ∀ pc ls st M k n, Kc pc ls st M k n → wAt G p e R s m args below meth c Z pc ls st M k n)
    {i : Instr} {len : Nat} (hd : decode cc pc = .ok (i, len)) (h : wSem G pf own ini rt v mc ms ros Qr K Kc i len pc ls st M k n) : wAt G p e R s m args below meth c Z pc ls st M k n := by
  obtain ⟨hx, hb, hown, hts, hE, hini, hret, hlo, hvF, hvL, hmc, hms⟩ := C
  cases i with
  | ireturn =>
    obtain ⟨rfl, rfl, rfl, h⟩ := h
    obtain ⟨x, rfl, h1, h2⟩ := s1e_e h
    exact fun H locs lsA hl hp hS hz => hret (some (.int x)) M H locs pc lsA h2 hp hS hz (Or.inl ⟨x, rfl, hd, h1⟩)
  | return_ =>
    obtain ⟨rfl, rfl, rfl, h⟩ := h
    obtain ⟨rfl, h1, h2⟩ := s0e_e h
    exact fun H locs lsA hl hp hS hz => hret none M H locs pc lsA h2 hp hS hz (Or.inr ⟨rfl, h1, hd⟩)
  | invokevirtual i => exact wSem_v hx hb hown hts hE hlo hvF hvL hmc hms hpf hK hKc hd h
  | invokestatic i => exact wSem_s hx hb hown hts hE hlo hvF hvL hmc hms hpf hK hKc hd h
  | invokespecial i => exact wSem_i hx hb hown hts hE hlo hvF hvL hmc hms hK hKc hd h
  | new => exact wSem_n hx hb hown hts hE hlo hmc hms hK hd trivial h
  | newarray => exact wSem_n hx hb hown hts hE hlo hmc hms hK hd trivial h
  | anewarray => exact wSem_n hx hb hown hts hE hlo hmc hms hK hd trivial h
  | putfield => exact wSem_p hx hb hown hts hE hini hK hd trivial h
  | iastore => exact wSem_p hx hb hown hts hE hini hK hd trivial h
  | bastore => exact wSem_p hx hb hown hts hE hini hK hd trivial h
  | castore => exact wSem_p hx hb hown hts hE hini hK hd trivial h
  | aastore => exact wSem_p hx hb hown hts hE hini hK hd trivial h
  | ldc2_w => exact wSem_g hx hb hown hts hE hK hd trivial h
  | ldc => exact wSem_g hx hb hown hts hE hK hd trivial h
  | getfield => exact wSem_g hx hb hown hts hE hK hd trivial h
  | getstatic => exact wSem_g hx hb hown hts hE hK hd trivial h
  | iaload => exact wSem_g hx hb hown hts hE hK hd trivial h
  | baload => exact wSem_g hx hb hown hts hE hK hd trivial h
  | caload => exact wSem_g hx hb hown hts hE hK hd trivial h
  | aaload => exact wSem_g hx hb hown hts hE hK hd trivial h
  | arraylength => exact wSem_g hx hb hown hts hE hK hd trivial h
  | checkcast => exact wSem_g hx hb hown hts hE hK hd trivial h
  | ifCond => exact wSem_b hx hb hK hd trivial h
  | if_icmp => exact wSem_b hx hb hK hd trivial h
  | goto => exact wSem_b hx hb hK hd trivial h
  | tableswitch => exact wSem_b hx hb hK hd trivial h
  | iconst => exact wSem_a hx hb hK hd trivial h
  | bipush => exact wSem_a hx hb hK hd trivial h
  | sipush => exact wSem_a hx hb hK hd trivial h
  | lconst => exact wSem_a hx hb hK hd trivial h
  | iload_n => exact wSem_a hx hb hK hd trivial h
  | iload => exact wSem_a hx hb hK hd trivial h
  | lload_n => exact wSem_a hx hb hK hd trivial h
  | aload_n => exact wSem_a hx hb hK hd trivial h
  | aload => exact wSem_a hx hb hK hd trivial h
  | istore_n => exact wSem_a hx hb hK hd trivial h
  | istore => exact wSem_a hx hb hK hd trivial h
  | astore_n => exact wSem_a hx hb hK hd trivial h
  | astore => exact wSem_a hx hb hK hd trivial h
  | iinc => exact wSem_a hx hb hK hd trivial h
  | iadd => exact wSem_a hx hb hK hd trivial h
  | isub => exact wSem_a hx hb hK hd trivial h
  | imul => exact wSem_a hx hb hK hd trivial h
  | idiv => exact wSem_a hx hb hK hd trivial h
  | irem => exact wSem_a hx hb hK hd trivial h
  | iand => exact wSem_a hx hb hK hd trivial h
  | ior => exact wSem_a hx hb hK hd trivial h
  | ishl => exact wSem_a hx hb hK hd trivial h
  | ishr => exact wSem_a hx hb hK hd trivial h
  | pop => exact wSem_a hx hb hK hd trivial h
  | iushr => exact wSem_a hx hb hK hd trivial h
  | lushr => exact wSem_a hx hb hK hd trivial h
  | lshl => exact wSem_a hx hb hK hd trivial h
  | land => exact wSem_a hx hb hK hd trivial h
  | lor => exact wSem_a hx hb hK hd trivial h
  | lcmp => exact wSem_a hx hb hK hd trivial h
  | i2l => exact wSem_a hx hb hK hd trivial h
  | l2i => exact wSem_a hx hb hK hd trivial h
  | i2c => exact wSem_a hx hb hK hd trivial h
  | dup => exact wSem_a hx hb hK hd trivial h
  | dup2 => exact wSem_a hx hb hK hd trivial h
  | _ => exact h.elim
theorem wStep_ok (C : wCtx G own ini rt v mc ms cc Qr p e R s m args below meth c Z) (hpf : wPfOk G pf) (hK : ∀ pc ls st M k n, K pc ls st M k n → wAt G p e R s m args below meth c Z pc ls st M k n) (hKc : ∀ pc ls st M k n, Kc pc ls st M k n → wAt G p e R s m args below meth c Z pc ls st M k n)
    (h : wStep G pf own ini rt v mc ms ros cc Qr K Kc pc ls st M k n) : wAt G p e R s m args below meth c Z pc ls st M k n := by
  unfold wStep at h
  split at h
  · next i len hd => exact wSem_ok C hpf hK hKc hd h
  · exact h.elim
theorem wRun_ok (hpf : wPfOk G pf) : ∀ (f : Nat) (pc : Nat) (ls : wLs) (st : List Value) (M : wMem) (k n : Nat), wRun G pf own ini rt v mc ms ros stops cc Qr f pc ls st M k n → wp G own ini rt v mc ms cc Qr pc ls st M k n
  | 0, pc, ls, st, M, k, n, h => h
  | f + 1, pc, ls, st, M, k, n, h => by
    unfold wRun at h
    split at h
    · exact h
    · intro p e R s m args below meth c Z C
      exact wStep_ok C hpf (fun pc ls st M k n h => wRun_ok hpf f pc ls st M k n h p e R s m args below meth c Z C) (fun pc ls st M k n h => h p e R s m args below meth c Z C) h
/-- from here, f steps on, to the next of the stops -/
theorem wGo (hpf : wPfOk G pf) (f : Nat) (ros stops : List Nat) (h : wStep G pf own ini rt v mc ms ros cc Qr (wRun G pf own ini rt v mc ms ros stops cc Qr f) (wp G own ini rt v mc ms cc Qr) pc ls st M k n) : wp G own ini rt v mc ms cc Qr pc ls st M k n :=
  fun p e R s m args below meth c Z C => wStep_ok C hpf (fun pc ls st M k n h => wRun_ok hpf f pc ls st M k n h p e R s m args below meth c Z C) (fun pc ls st M k n h => h p e R s m args below meth c Z C) h
end SEMR
def pf0 : wPft := fun _ _ _ => none
theorem pf0_ok (G : wG) : wPfOk G pf0 := fun z As M g o M2 h => by cases h
theorem fv0 : ((0 : Fin 4) : Nat) = 0 := rfl
theorem fv1 : ((1 : Fin 4) : Nat) = 1 := rfl
theorem fv2 : ((2 : Fin 4) : Nat) = 2 := rfl
theorem fv3 : ((3 : Fin 4) : Nat) = 3 := rfl
theorem fw0 : ((0 : Fin 2) : Nat) = 0 := rfl
theorem fw1 : ((1 : Fin 2) : Nat) = 1 := rfl
theorem oi_m1 : Int32.ofInt (-1) = -1 := rfl
theorem oi_0 : Int32.ofInt 0 = 0 := rfl
theorem oi_1 : Int32.ofInt 1 = 1 := rfl
theorem oi_2 : Int32.ofInt 2 = 2 := rfl
theorem oi_3 : Int32.ofInt 3 = 3 := rfl
theorem oi_4 : Int32.ofInt 4 = 4 := rfl
theorem oi_5 : Int32.ofInt 5 = 5 := rfl
theorem cInt (x : Int32) : (Value.int x).category = 1 := rfl
theorem cRef (x : Nat) : (Value.ref x).category = 1 := rfl
theorem cLong (x : Int64) : (Value.long x).category = 2 := rfl
