/-! ===== the same with all that is fixed in one bundle (small terms) ===== -/
abbrev xT : Type := wG × wPft × Nat × Bool × Option FieldType × Nat × Nat × Nat × List Nat × List Nat × ByteArray × (Option Value → wMem → Prop)
def xG (C : xT) : wG := C.1
def xpf (C : xT) : wPft := C.2.1
def xown (C : xT) : Nat := C.2.2.1
def xini (C : xT) : Bool := C.2.2.2.1
def xrt (C : xT) : Option FieldType := C.2.2.2.2.1
def xv (C : xT) : Nat := C.2.2.2.2.2.1
def xmc (C : xT) : Nat := C.2.2.2.2.2.2.1
def xms (C : xT) : Nat := C.2.2.2.2.2.2.2.1
def xros (C : xT) : List Nat := C.2.2.2.2.2.2.2.2.1
def xst (C : xT) : List Nat := C.2.2.2.2.2.2.2.2.2.1
def xcc (C : xT) : ByteArray := C.2.2.2.2.2.2.2.2.2.2.1
def xQ (C : xT) : Option Value → wMem → Prop := C.2.2.2.2.2.2.2.2.2.2.2
def xP (C : xT) : wKt := fun pc ls st M k n => wp (xG C) (xown C) (xini C) (xrt C) (xv C) (xmc C) (xms C) (xcc C) (xQ C) pc ls st M k n
def xR (C : xT) (f : Nat) : wKt := fun pc ls st M k n => wRun (xG C) (xpf C) (xown C) (xini C) (xrt C) (xv C) (xmc C) (xms C) (xros C) (xst C) (xcc C) (xQ C) f pc ls st M k n
def xD (C : xT) (f : Nat) (d : Except DecodeError (Instr × Nat)) (pc : Nat) (ls : wLs) (st : List Value) (M : wMem) (k n : Nat) : Prop := wDec d (xG C) (xpf C) (xown C) (xini C) (xrt C) (xv C) (xmc C) (xms C) (xros C) (xQ C) (xR C f) (xP C) pc ls st M k n
theorem xR_s (C : xT) (f pc : Nat) (ls : wLs) (st : List Value) (M : wMem) (k n : Nat) : xR C (f + 1) pc ls st M k n = (if pc ∈ xst C then xP C pc ls st M k n else xD C f (decode (xcc C) pc) pc ls st M k n) := rfl
theorem xR_z (C : xT) (pc : Nat) (ls : wLs) (st : List Value) (M : wMem) (k n : Nat) : xR C 0 pc ls st M k n = xP C pc ls st M k n := rfl
theorem wGoC {G : wG} {pf : wPft} {own : Nat} {ini : Bool} {rt : Option FieldType} {v mc ms : Nat} {cc : ByteArray} {Qr : Option Value → wMem → Prop} {pc : Nat} {ls : wLs} {st : List Value} {M : wMem} {k n : Nat} (hpf : wPfOk G pf) (f : Nat) (ros stops : List Nat)
    (h : ∀ C : xT, xG C = G → xpf C = pf → xown C = own → xini C = ini → xrt C = rt → xv C = v → xmc C = mc → xms C = ms → xros C = ros → xst C = stops → xcc C = cc → (∀ o M, xQ C o M = Qr o M) → (∀ pc ls st M k n, xP C pc ls st M k n = wp G own ini rt v mc ms cc Qr pc ls st M k n) → xD C f (decode (xcc C) pc) pc ls st M k n) :
    wp G own ini rt v mc ms cc Qr pc ls st M k n :=
  wGo hpf f ros stops (h (G, pf, own, ini, rt, v, mc, ms, ros, stops, cc, Qr) rfl rfl rfl rfl rfl rfl rfl rfl rfl rfl rfl (fun _ _ => rfl) (fun _ _ _ _ _ _ => rfl))
section XE
variable (C : xT) (f pc : Nat) (ls : wLs) (st : List Value) (M : wMem) (k n : Nat)
theorem xE_iconst (c : Int) : xD C f (.ok (.iconst c, 1)) pc ls st M k n = ((xR C f) (pc + 1) ls (.int (Int32.ofInt c) :: st) M k n) := by
  unfold xD
  rw [wE_iconst]
theorem xE_bipush (c : Int) : xD C f (.ok (.bipush c, 2)) pc ls st M k n = ((xR C f) (pc + 2) ls (.int (Int8.ofInt c).toInt32 :: st) M k n) := by
  unfold xD
  rw [wE_bipush]
theorem xE_sipush (c : Int) : xD C f (.ok (.sipush c, 3)) pc ls st M k n = ((xR C f) (pc + 3) ls (.int (Int16.ofInt c).toInt32 :: st) M k n) := by
  unfold xD
  rw [wE_sipush]
theorem xE_lconst (c : Fin 2) : xD C f (.ok (.lconst c, 1)) pc ls st M k n = ((xR C f) (pc + 1) ls (.long (Int64.ofNat (c : Nat)) :: st) M k n) := by
  unfold xD
  rw [wE_lconst]
theorem xE_ldc2_w (c : Nat) : xD C f (.ok (.ldc2_w c, 3)) pc ls st M k n = (iLdc (lOf (xown C) c) (xR C f) pc ls st M k n) := by
  unfold xD
  rw [wE_ldc2_w]
theorem xE_iload_n (c : Fin 4) : xD C f (.ok (.iload_n c, 1)) pc ls st M k n = (iPuI (lg ls (c : Nat)) (xR C f) (pc + 1) ls st M k n) := by
  unfold xD
  rw [wE_iload_n]
theorem xE_iload (c : Nat) : xD C f (.ok (.iload c, 2)) pc ls st M k n = (iPuI (lg ls c) (xR C f) (pc + 2) ls st M k n) := by
  unfold xD
  rw [wE_iload]
theorem xE_lload_n (c : Fin 4) : xD C f (.ok (.lload_n c, 1)) pc ls st M k n = (iPuL (lg ls (c : Nat)) (xR C f) (pc + 1) ls st M k n) := by
  unfold xD
  rw [wE_lload_n]
theorem xE_aload_n (c : Fin 4) : xD C f (.ok (.aload_n c, 1)) pc ls st M k n = (iPuR (lg ls (c : Nat)) (xR C f) (pc + 1) ls st M k n) := by
  unfold xD
  rw [wE_aload_n]
theorem xE_aload (c : Nat) : xD C f (.ok (.aload c, 2)) pc ls st M k n = (iPuR (lg ls c) (xR C f) (pc + 2) ls st M k n) := by
  unfold xD
  rw [wE_aload]
theorem xE_istore_n (c : Fin 4) : xD C f (.ok (.istore_n c, 1)) pc ls st M k n = (iStoI (c : Nat) 1 (xR C f) pc ls st M k n) := by
  unfold xD
  rw [wE_istore_n]
theorem xE_istore (c : Nat) : xD C f (.ok (.istore c, 2)) pc ls st M k n = (iStoI c 2 (xR C f) pc ls st M k n) := by
  unfold xD
  rw [wE_istore]
theorem xE_astore_n (c : Fin 4) : xD C f (.ok (.astore_n c, 1)) pc ls st M k n = (iStoR (c : Nat) 1 (xR C f) pc ls st M k n) := by
  unfold xD
  rw [wE_astore_n]
theorem xE_astore (c : Nat) : xD C f (.ok (.astore c, 2)) pc ls st M k n = (iStoR c 2 (xR C f) pc ls st M k n) := by
  unfold xD
  rw [wE_astore]
theorem xE_iinc (c : Nat) (d : Int) : xD C f (.ok (.iinc c d, 3)) pc ls st M k n = (iInc (lg ls c) c (Int32.ofInt d) (xR C f) pc ls st M k n) := by
  unfold xD
  rw [wE_iinc]
theorem xE_iadd : xD C f (.ok (.iadd, 1)) pc ls st M k n = (iAdd (xR C f) pc ls st M k n) := by
  unfold xD
  rw [wE_iadd]
theorem xE_isub : xD C f (.ok (.isub, 1)) pc ls st M k n = (iSub (xR C f) pc ls st M k n) := by
  unfold xD
  rw [wE_isub]
theorem xE_imul : xD C f (.ok (.imul, 1)) pc ls st M k n = (iMul (xR C f) pc ls st M k n) := by
  unfold xD
  rw [wE_imul]
theorem xE_idiv : xD C f (.ok (.idiv, 1)) pc ls st M k n = (iDiv (xR C f) pc ls st M k n) := by
  unfold xD
  rw [wE_idiv]
theorem xE_irem : xD C f (.ok (.irem, 1)) pc ls st M k n = (iRem (xR C f) pc ls st M k n) := by
  unfold xD
  rw [wE_irem]
theorem xE_iand : xD C f (.ok (.iand, 1)) pc ls st M k n = (iAnd (xR C f) pc ls st M k n) := by
  unfold xD
  rw [wE_iand]
theorem xE_ior : xD C f (.ok (.ior, 1)) pc ls st M k n = (iOr (xR C f) pc ls st M k n) := by
  unfold xD
  rw [wE_ior]
theorem xE_ishr : xD C f (.ok (.ishr, 1)) pc ls st M k n = (iShr (xR C f) pc ls st M k n) := by
  unfold xD
  rw [wE_ishr]
theorem xE_pop : xD C f (.ok (.pop, 1)) pc ls st M k n = (iPo (xR C f) pc ls st M k n) := by
  unfold xD
  rw [wE_pop]
theorem xE_ldc (c : Nat) : xD C f (.ok (.ldc c, 2)) pc ls st M k n = (iLdi (jOf (xown C) c) (xR C f) pc ls st M k n) := by
  unfold xD
  rw [wE_ldc]
theorem xE_ishl : xD C f (.ok (.ishl, 1)) pc ls st M k n = (iShl (xR C f) pc ls st M k n) := by
  unfold xD
  rw [wE_ishl]
theorem xE_iushr : xD C f (.ok (.iushr, 1)) pc ls st M k n = (iUshr (xR C f) pc ls st M k n) := by
  unfold xD
  rw [wE_iushr]
theorem xE_lushr : xD C f (.ok (.lushr, 1)) pc ls st M k n = (iLushr (xR C f) pc ls st M k n) := by
  unfold xD
  rw [wE_lushr]
theorem xE_lshl : xD C f (.ok (.lshl, 1)) pc ls st M k n = (iLshl (xR C f) pc ls st M k n) := by
  unfold xD
  rw [wE_lshl]
theorem xE_land : xD C f (.ok (.land, 1)) pc ls st M k n = (iLand (xR C f) pc ls st M k n) := by
  unfold xD
  rw [wE_land]
theorem xE_lor : xD C f (.ok (.lor, 1)) pc ls st M k n = (iLor (xR C f) pc ls st M k n) := by
  unfold xD
  rw [wE_lor]
theorem xE_lcmp : xD C f (.ok (.lcmp, 1)) pc ls st M k n = (iLcmp (xR C f) pc ls st M k n) := by
  unfold xD
  rw [wE_lcmp]
theorem xE_i2l : xD C f (.ok (.i2l, 1)) pc ls st M k n = (iI2l (xR C f) pc ls st M k n) := by
  unfold xD
  rw [wE_i2l]
theorem xE_l2i : xD C f (.ok (.l2i, 1)) pc ls st M k n = (iL2i (xR C f) pc ls st M k n) := by
  unfold xD
  rw [wE_l2i]
theorem xE_i2c : xD C f (.ok (.i2c, 1)) pc ls st M k n = (iI2c (xR C f) pc ls st M k n) := by
  unfold xD
  rw [wE_i2c]
theorem xE_dup : xD C f (.ok (.dup, 1)) pc ls st M k n = (iDup (xR C f) pc ls st M k n) := by
  unfold xD
  rw [wE_dup]
theorem xE_dup2 : xD C f (.ok (.dup2, 1)) pc ls st M k n = (iDup2 (xR C f) pc ls st M k n) := by
  unfold xD
  rw [wE_dup2]
theorem xE_ifCond (c : Jvm.ClassFile.Cond) (off : Int) : xD C f (.ok (.ifCond c off, 3)) pc ls st M k n = (iIf c off (xR C f) pc ls st M k n) := by
  unfold xD
  rw [wE_ifCond]
theorem xE_if_icmp (c : Jvm.ClassFile.Cond) (off : Int) : xD C f (.ok (.if_icmp c off, 3)) pc ls st M k n = (iIfc c off (xR C f) pc ls st M k n) := by
  unfold xD
  rw [wE_if_icmp]
theorem xE_goto (off : Int) (h : 0 ≤ (pc : Int) + off) : xD C f (.ok (.goto off, 3)) pc ls st M k n = (xR C f) ((pc : Int) + off).toNat ls st M k n := by
  unfold xD
  rw [wE_goto (h := h)]
theorem xE_getfield (c : Nat) : xD C f (.ok (.getfield c, 3)) pc ls st M k n = (iGetf (fOf (xown C) c) (xR C f) pc ls st M k n) := by
  unfold xD
  rw [wE_getfield]
theorem xE_putfield (c : Nat) : xD C f (.ok (.putfield c, 3)) pc ls st M k n = (iPutf (xown C) (xini C) (fOf (xown C) c) (xR C f) pc ls st M k n) := by
  unfold xD
  rw [wE_putfield]
theorem xE_getstatic (c : Nat) : xD C f (.ok (.getstatic c, 3)) pc ls st M k n = (iGets (sOf (xown C) c) (xR C f) pc ls st M k n) := by
  unfold xD
  rw [wE_getstatic]
theorem xE_baload : xD C f (.ok (.baload, 1)) pc ls st M k n = iAl 11 (xR C f) pc ls st M k n := by
  unfold xD
  rw [wE_baload]
theorem xE_caload : xD C f (.ok (.caload, 1)) pc ls st M k n = iAl 12 (xR C f) pc ls st M k n := by
  unfold xD
  rw [wE_caload]
theorem xE_iaload : xD C f (.ok (.iaload, 1)) pc ls st M k n = (if pc ∈ (xros C) then iAlr (xG C) (xR C f) pc ls st M k n else iAl 10 (xR C f) pc ls st M k n) := by
  unfold xD
  rw [wE_iaload]
theorem xE_aaload : xD C f (.ok (.aaload, 1)) pc ls st M k n = iAq (xR C f) pc ls st M k n := by
  unfold xD
  rw [wE_aaload]
theorem xE_iastore : xD C f (.ok (.iastore, 1)) pc ls st M k n = iAsI (xR C f) pc ls st M k n := by
  unfold xD
  rw [wE_iastore]
theorem xE_bastore : xD C f (.ok (.bastore, 1)) pc ls st M k n = iAsZ (xR C f) pc ls st M k n := by
  unfold xD
  rw [wE_bastore]
theorem xE_castore : xD C f (.ok (.castore, 1)) pc ls st M k n = iAsC (xR C f) pc ls st M k n := by
  unfold xD
  rw [wE_castore]
theorem xE_aastore : xD C f (.ok (.aastore, 1)) pc ls st M k n = iAt (xR C f) pc ls st M k n := by
  unfold xD
  rw [wE_aastore]
theorem xE_arraylength : xD C f (.ok (.arraylength, 1)) pc ls st M k n = (iLen (xG C) (xR C f) pc ls st M k n) := by
  unfold xD
  rw [wE_arraylength]
theorem xE_new (c : Nat) : xD C f (.ok (.new c, 3)) pc ls st M k n = (iNew (xmc C) (xms C) (nOf (xown C) c) (xR C f) pc ls st M k n) := by
  unfold xD
  rw [wE_new]
theorem xE_newarray_int : xD C f (.ok (.newarray .int, 2)) pc ls st M k n = iNwa (xmc C) (xms C) 10 2 (xR C f) pc ls st M k n := by
  unfold xD
  rw [wE_newarray_int]
theorem xE_newarray_boolean : xD C f (.ok (.newarray .boolean, 2)) pc ls st M k n = iNwa (xmc C) (xms C) 11 2 (xR C f) pc ls st M k n := by
  unfold xD
  rw [wE_newarray_boolean]
theorem xE_newarray_char : xD C f (.ok (.newarray .char, 2)) pc ls st M k n = iNwa (xmc C) (xms C) 12 2 (xR C f) pc ls st M k n := by
  unfold xD
  rw [wE_newarray_char]
theorem xE_anewarray (c : Nat) : xD C f (.ok (.anewarray c, 3)) pc ls st M k n = iNwq (xmc C) (xms C) (nOf (xown C) c) (xR C f) pc ls st M k n := by
  unfold xD
  rw [wE_anewarray]
theorem xE_checkcast (c : Nat) : xD C f (.ok (.checkcast c, 3)) pc ls st M k n = (iCk (xown C) c (xR C f) pc ls st M k n) := by
  unfold xD
  rw [wE_checkcast]
theorem xE_invokevirtual (c : Nat) : xD C f (.ok (.invokevirtual c, 3)) pc ls st M k n = (iIv (xG C) (xpf C) (xv C) (xmc C) (xms C) (cOf (xown C) c) (xR C f) (xP C) pc ls st M k n) := by
  unfold xD
  rw [wE_invokevirtual]
theorem xE_invokestatic (c : Nat) : xD C f (.ok (.invokestatic c, 3)) pc ls st M k n = (iIs (xG C) (xpf C) (xv C) (xmc C) (xms C) (cOf (xown C) c) (xR C f) (xP C) pc ls st M k n) := by
  unfold xD
  rw [wE_invokestatic]
theorem xE_invokespecial (c : Nat) : xD C f (.ok (.invokespecial c, 3)) pc ls st M k n = (iIp (xG C) (xv C) (xmc C) (xms C) (cOf (xown C) c) (xR C f) (xP C) pc ls st M k n) := by
  unfold xD
  rw [wE_invokespecial]
theorem xE_ireturn : xD C f (.ok (.ireturn, 1)) pc ls st M k n = (iRet (xrt C) (xmc C) (xms C) (xQ C) st M k n) := by
  unfold xD
  rw [wE_ireturn]
theorem xE_return_ : xD C f (.ok (.return_, 1)) pc ls st M k n = (iRtv (xrt C) (xmc C) (xms C) (xQ C) st M k n) := by
  unfold xD
  rw [wE_return_]
theorem xE_tableswitch (d lo hi : Int) (offs : Array Int) (len : Nat) : xD C f (.ok (.tableswitch d lo hi offs, len)) pc ls st M k n = iSw d lo hi offs (xR C f) pc ls st M k n := by
  unfold xD
  rw [wE_tableswitch]
end XE
