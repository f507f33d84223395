/-! ===== the step once more, without functions under binders: for the symbolic run ===== -/
def wDec (d : Except DecodeError (Instr × Nat)) (G : wG) (pf : wPft) (own : Nat) (ini : Bool) (rt : Option FieldType) (v mc ms : Nat) (ros : List Nat) (Qr : Option Value → wMem → Prop) (K Kc : wKt) (pc : Nat) (ls : wLs) (st : List Value) (M : wMem) (k n : Nat) : Prop :=
  match d with
  | .ok (i, len) => wSem G pf own ini rt v mc ms ros Qr K Kc i len pc ls st M k n
  | _ => False
theorem i1_0 : ((1 : Int32) = 0) = False := by decide
theorem nn_t : (¬ True) = False := by decide
theorem nn_f : (¬ False) = True := by decide
theorem im_t (p : Prop) : (True → p) = p := by simp
theorem im_f (p : Prop) : (False → p) = True := by simp
theorem nn_n (p : Prop) : (¬ ¬ p) = p := by simp
theorem wCat_n : wCat [] = 0 := by simp only [wCat]
theorem wCat_i (x : Int32) (r : List Value) : wCat (.int x :: r) = 1 + wCat r := by simp only [wCat, Value.category]
theorem wCat_r (x : Nat) (r : List Value) : wCat (.ref x :: r) = 1 + wCat r := by simp only [wCat, Value.category]
theorem wCat_l (x : Int64) (r : List Value) : wCat (.long x :: r) = 2 + wCat r := by simp only [wCat, Value.category]
theorem lg_n (i : Nat) : lg [] i = none := by simp only [lg]
theorem lg_0 (x : Option Value) (r : wLs) : lg (x :: r) 0 = x := by simp only [lg]
theorem lg_s (x : Option Value) (r : wLs) (i : Nat) : lg (x :: r) (i + 1) = lg r i := by simp only [lg]
theorem wNl_n : wNl none = true := by simp only [wNl]
theorem wNl_i (x : Int32) : wNl (some (.int x)) = true := by simp only [wNl]
theorem wNl_r (x : Nat) : wNl (some (.ref x)) = true := by simp only [wNl]
theorem wLn_n : ([] : wLs).length = 0 := by simp
theorem wLn_c (x : Option Value) (r : wLs) : (x :: r).length = r.length + 1 := by simp
def iMax (x y : Int32) : Int32 := if x < y then y else x
def iMin (x y : Int32) : Int32 := if y < x then y else x
section EVAL
variable (G : wG) (pf : wPft) (own : Nat) (ini : Bool) (rt : Option FieldType) (v mc ms : Nat) (ros : List Nat) (cc : ByteArray) (Qr : Option Value → wMem → Prop) (K Kc : wKt) (pc : Nat) (ls : wLs) (st : List Value) (M : wMem) (k n : Nat)
theorem wRun_s (stops : List Nat) (f : Nat) : wRun G pf own ini rt v mc ms ros stops cc Qr (f + 1) pc ls st M k n = (if pc ∈ stops then wp G own ini rt v mc ms cc Qr pc ls st M k n else wDec (decode cc pc) G pf own ini rt v mc ms ros Qr (wRun G pf own ini rt v mc ms ros stops cc Qr f) (wp G own ini rt v mc ms cc Qr) pc ls st M k n) := rfl
theorem wRun_z (stops : List Nat) : wRun G pf own ini rt v mc ms ros stops cc Qr 0 pc ls st M k n = wp G own ini rt v mc ms cc Qr pc ls st M k n := rfl
theorem wE_step : wStep G pf own ini rt v mc ms ros cc Qr K Kc pc ls st M k n = wDec (decode cc pc) G pf own ini rt v mc ms ros Qr K Kc pc ls st M k n := rfl
def iPuI (o : Option Value) (K : wKt) (pc : Nat) (ls : wLs) (st : List Value) (M : wMem) (k n : Nat) : Prop := wLi o fun x => K pc ls (.int x :: st) M k n
def iPuR (o : Option Value) (K : wKt) (pc : Nat) (ls : wLs) (st : List Value) (M : wMem) (k n : Nat) : Prop := wLr o fun x => K pc ls (.ref x :: st) M k n
def iPuL (o : Option Value) (K : wKt) (pc : Nat) (ls : wLs) (st : List Value) (M : wMem) (k n : Nat) : Prop := wLl o fun x => K pc ls (.long x :: st) M k n
theorem iPuI_e (x : Int32) : iPuI (some (.int x)) K pc ls st M k n = K pc ls (.int x :: st) M k n := rfl
theorem iPuR_e (x : Nat) : iPuR (some (.ref x)) K pc ls st M k n = K pc ls (.ref x :: st) M k n := rfl
theorem iPuL_e (x : Int64) : iPuL (some (.long x)) K pc ls st M k n = K pc ls (.long x :: st) M k n := rfl
def iStoI (i d : Nat) (K : wKt) (pc : Nat) (ls : wLs) (st : List Value) (M : wMem) (k n : Nat) : Prop := i < ls.length ∧ wNl (lg ls (i - 1)) = true ∧ s1i st fun x r => K (pc + d) (ls.set i (some (.int x))) r M k n
theorem iStoI_e (i d : Nat) (x : Int32) (r : List Value) (h1 : i < ls.length) (h2 : wNl (lg ls (i - 1)) = true) : iStoI i d K pc ls (.int x :: r) M k n = K (pc + d) (ls.set i (some (.int x))) r M k n := by
  show (i < ls.length ∧ wNl (lg ls (i - 1)) = true ∧ K (pc + d) (ls.set i (some (.int x))) r M k n) = _
  simp [h1, h2]
def iStoR (i d : Nat) (K : wKt) (pc : Nat) (ls : wLs) (st : List Value) (M : wMem) (k n : Nat) : Prop := i < ls.length ∧ wNl (lg ls (i - 1)) = true ∧ s1r st fun x r => K (pc + d) (ls.set i (some (.ref x))) r M k n
theorem iStoR_e (i d : Nat) (x : Nat) (r : List Value) (h1 : i < ls.length) (h2 : wNl (lg ls (i - 1)) = true) : iStoR i d K pc ls (.ref x :: r) M k n = K (pc + d) (ls.set i (some (.ref x))) r M k n := by
  show (i < ls.length ∧ wNl (lg ls (i - 1)) = true ∧ K (pc + d) (ls.set i (some (.ref x))) r M k n) = _
  simp [h1, h2]
def iInc (o : Option Value) (i : Nat) (d : Int32) (K : wKt) (pc : Nat) (ls : wLs) (st : List Value) (M : wMem) (k n : Nat) : Prop := i < ls.length ∧ wNl (lg ls (i - 1)) = true ∧ wLi o fun x => K (pc + 3) (ls.set i (some (.int (x + d)))) st M k n
theorem iInc_e (i : Nat) (d x : Int32) (h1 : i < ls.length) (h2 : wNl (lg ls (i - 1)) = true) : iInc (some (.int x)) i d K pc ls st M k n = K (pc + 3) (ls.set i (some (.int (x + d)))) st M k n := by
  show (i < ls.length ∧ wNl (lg ls (i - 1)) = true ∧ K (pc + 3) (ls.set i (some (.int (x + d)))) st M k n) = _
  simp [h1, h2]
def iBin (f : Int32 → Int32 → Int32) (K : wKt) (pc : Nat) (ls : wLs) (st : List Value) (M : wMem) (k n : Nat) : Prop := s2i st fun x y r => K (pc + 1) ls (.int (f x y) :: r) M k n
def iAdd := iBin (fun x y => x + y)
def iSub := iBin (fun x y => x - y)
def iMul := iBin (fun x y => x * y)
def iAnd := iBin (fun x y => x &&& y)
def iOr := iBin (fun x y => x ||| y)
def iShr := iBin (fun x y => x >>> (y &&& 31))
def iShl := iBin (fun x y => x <<< (y &&& 31))
def iUshr := iBin (fun x y => (x.toUInt32 >>> (y.toUInt32 &&& Int32.toUInt32 31)).toInt32)
theorem iAdd_e (x y : Int32) (r : List Value) : iAdd K pc ls (.int y :: .int x :: r) M k n = K (pc + 1) ls (.int (x + y) :: r) M k n := rfl
theorem iSub_e (x y : Int32) (r : List Value) : iSub K pc ls (.int y :: .int x :: r) M k n = K (pc + 1) ls (.int (x - y) :: r) M k n := rfl
theorem iMul_e (x y : Int32) (r : List Value) : iMul K pc ls (.int y :: .int x :: r) M k n = K (pc + 1) ls (.int (x * y) :: r) M k n := rfl
theorem iAnd_e (x y : Int32) (r : List Value) : iAnd K pc ls (.int y :: .int x :: r) M k n = K (pc + 1) ls (.int (x &&& y) :: r) M k n := rfl
theorem iOr_e (x y : Int32) (r : List Value) : iOr K pc ls (.int y :: .int x :: r) M k n = K (pc + 1) ls (.int (x ||| y) :: r) M k n := rfl
theorem iShr_e (x y : Int32) (r : List Value) : iShr K pc ls (.int y :: .int x :: r) M k n = K (pc + 1) ls (.int (x >>> (y &&& 31)) :: r) M k n := rfl
theorem iShl_e (x y : Int32) (r : List Value) : iShl K pc ls (.int y :: .int x :: r) M k n = K (pc + 1) ls (.int (x <<< (y &&& 31)) :: r) M k n := rfl
theorem iUshr_e (x y : Int32) (r : List Value) : iUshr K pc ls (.int y :: .int x :: r) M k n = K (pc + 1) ls (.int (x.toUInt32 >>> (y.toUInt32 &&& Int32.toUInt32 31)).toInt32 :: r) M k n := rfl
def iDiv (K : wKt) (pc : Nat) (ls : wLs) (st : List Value) (M : wMem) (k n : Nat) : Prop := s2i st fun x y r => ¬ y = 0 ∧ K (pc + 1) ls (.int (x / y) :: r) M k n
theorem iDiv_e (x y : Int32) (r : List Value) : iDiv K pc ls (.int y :: .int x :: r) M k n = (¬ y = 0 ∧ K (pc + 1) ls (.int (x / y) :: r) M k n) := rfl
def iRem (K : wKt) (pc : Nat) (ls : wLs) (st : List Value) (M : wMem) (k n : Nat) : Prop := s2i st fun x y r => ¬ y = 0 ∧ K (pc + 1) ls (.int (x - x / y * y) :: r) M k n
theorem iRem_e (x y : Int32) (r : List Value) : iRem K pc ls (.int y :: .int x :: r) M k n = (¬ y = 0 ∧ K (pc + 1) ls (.int (x - x / y * y) :: r) M k n) := rfl
def iLsh (f : Int64 → Int32 → Int64) (K : wKt) (pc : Nat) (ls : wLs) (st : List Value) (M : wMem) (k n : Nat) : Prop := sLI st fun x y r => K (pc + 1) ls (.long (f x y) :: r) M k n
def iLushr := iLsh (fun x y => (x.toUInt64 >>> (y.toInt64.toUInt64 &&& Int64.toUInt64 63)).toInt64)
def iLshl := iLsh (fun x y => x <<< (y.toInt64 &&& 63))
theorem iLushr_e (x : Int64) (y : Int32) (r : List Value) : iLushr K pc ls (.int y :: .long x :: r) M k n = K (pc + 1) ls (.long (x.toUInt64 >>> (y.toInt64.toUInt64 &&& Int64.toUInt64 63)).toInt64 :: r) M k n := rfl
theorem iLshl_e (x : Int64) (y : Int32) (r : List Value) : iLshl K pc ls (.int y :: .long x :: r) M k n = K (pc + 1) ls (.long (x <<< (y.toInt64 &&& 63)) :: r) M k n := rfl
def iLand (K : wKt) (pc : Nat) (ls : wLs) (st : List Value) (M : wMem) (k n : Nat) : Prop := s2l st fun x y r => K (pc + 1) ls (.long (x &&& y) :: r) M k n
def iLor (K : wKt) (pc : Nat) (ls : wLs) (st : List Value) (M : wMem) (k n : Nat) : Prop := s2l st fun x y r => K (pc + 1) ls (.long (x ||| y) :: r) M k n
def iLcmp (K : wKt) (pc : Nat) (ls : wLs) (st : List Value) (M : wMem) (k n : Nat) : Prop := s2l st fun x y r => K (pc + 1) ls (.int (lg_cmp x y) :: r) M k n
theorem iLand_e (x y : Int64) (r : List Value) : iLand K pc ls (.long y :: .long x :: r) M k n = K (pc + 1) ls (.long (x &&& y) :: r) M k n := rfl
theorem iLor_e (x y : Int64) (r : List Value) : iLor K pc ls (.long y :: .long x :: r) M k n = K (pc + 1) ls (.long (x ||| y) :: r) M k n := rfl
theorem iLcmp_e (x y : Int64) (r : List Value) : iLcmp K pc ls (.long y :: .long x :: r) M k n = K (pc + 1) ls (.int (lg_cmp x y) :: r) M k n := rfl
def iI2l (K : wKt) (pc : Nat) (ls : wLs) (st : List Value) (M : wMem) (k n : Nat) : Prop := s1i st fun x r => K (pc + 1) ls (.long x.toInt64 :: r) M k n
def iL2i (K : wKt) (pc : Nat) (ls : wLs) (st : List Value) (M : wMem) (k n : Nat) : Prop := s1l st fun x r => K (pc + 1) ls (.int x.toInt32 :: r) M k n
def iI2c (K : wKt) (pc : Nat) (ls : wLs) (st : List Value) (M : wMem) (k n : Nat) : Prop := s1i st fun x r => K (pc + 1) ls (.int (x.toUInt32 % 65536).toInt32 :: r) M k n
theorem iI2l_e (x : Int32) (r : List Value) : iI2l K pc ls (.int x :: r) M k n = K (pc + 1) ls (.long x.toInt64 :: r) M k n := rfl
theorem iL2i_e (x : Int64) (r : List Value) : iL2i K pc ls (.long x :: r) M k n = K (pc + 1) ls (.int x.toInt32 :: r) M k n := rfl
theorem iI2c_e (x : Int32) (r : List Value) : iI2c K pc ls (.int x :: r) M k n = K (pc + 1) ls (.int (x.toUInt32 % 65536).toInt32 :: r) M k n := rfl
def iDup (K : wKt) (pc : Nat) (ls : wLs) (st : List Value) (M : wMem) (k n : Nat) : Prop := s1v st fun x r => x.category = 1 ∧ K (pc + 1) ls (x :: x :: r) M k n
def iDup2 (K : wKt) (pc : Nat) (ls : wLs) (st : List Value) (M : wMem) (k n : Nat) : Prop := s2v st fun x y r => x.category = 1 ∧ y.category = 1 ∧ K (pc + 1) ls (x :: y :: x :: y :: r) M k n
theorem iDup_e (x : Value) (r : List Value) (h : x.category = 1) : iDup K pc ls (x :: r) M k n = K (pc + 1) ls (x :: x :: r) M k n := by
  show (x.category = 1 ∧ K (pc + 1) ls (x :: x :: r) M k n) = _
  simp [h]
theorem iDup2_e (x y : Value) (r : List Value) (h : x.category = 1) (h2 : y.category = 1) : iDup2 K pc ls (x :: y :: r) M k n = K (pc + 1) ls (x :: y :: x :: y :: r) M k n := by
  show (x.category = 1 ∧ y.category = 1 ∧ K (pc + 1) ls (x :: y :: x :: y :: r) M k n) = _
  simp [h, h2]
def iIf (c : Jvm.ClassFile.Cond) (off : Int) (K : wKt) (pc : Nat) (ls : wLs) (st : List Value) (M : wMem) (k n : Nat) : Prop := 0 ≤ (pc : Int) + off ∧ s1i st fun x r => (wCnd c x 0 → K ((pc : Int) + off).toNat ls r M k n) ∧ (¬ wCnd c x 0 → K (pc + 3) ls r M k n)
def iIfc (c : Jvm.ClassFile.Cond) (off : Int) (K : wKt) (pc : Nat) (ls : wLs) (st : List Value) (M : wMem) (k n : Nat) : Prop := 0 ≤ (pc : Int) + off ∧ s2i st fun x y r => (wCnd c x y → K ((pc : Int) + off).toNat ls r M k n) ∧ (¬ wCnd c x y → K (pc + 3) ls r M k n)
theorem iIf_e (c : Jvm.ClassFile.Cond) (off : Int) (x : Int32) (r : List Value) (h : 0 ≤ (pc : Int) + off) : iIf c off K pc ls (.int x :: r) M k n = ((wCnd c x 0 → K ((pc : Int) + off).toNat ls r M k n) ∧ (¬ wCnd c x 0 → K (pc + 3) ls r M k n)) := by
  show (0 ≤ (pc : Int) + off ∧ (wCnd c x 0 → K ((pc : Int) + off).toNat ls r M k n) ∧ (¬ wCnd c x 0 → K (pc + 3) ls r M k n)) = _
  simp [h]
theorem iIfc_e (c : Jvm.ClassFile.Cond) (off : Int) (x y : Int32) (r : List Value) (h : 0 ≤ (pc : Int) + off) : iIfc c off K pc ls (.int y :: .int x :: r) M k n = ((wCnd c x y → K ((pc : Int) + off).toNat ls r M k n) ∧ (¬ wCnd c x y → K (pc + 3) ls r M k n)) := by
  show (0 ≤ (pc : Int) + off ∧ (wCnd c x y → K ((pc : Int) + off).toNat ls r M k n) ∧ (¬ wCnd c x y → K (pc + 3) ls r M k n)) = _
  simp [h]
def iGo (off : Int) (K : wKt) (pc : Nat) (ls : wLs) (st : List Value) (M : wMem) (k n : Nat) : Prop := 0 ≤ (pc : Int) + off ∧ K ((pc : Int) + off).toNat ls st M k n
def iSwA (K : wKt) (pc : Nat) (ls : wLs) (r : List Value) (M : wMem) (k n : Nat) : List Int → Int → Int32 → Prop
  | [], _, _ => True
  | o :: t, v, x => (x = Int32.ofInt v → 0 ≤ (pc : Int) + o ∧ K ((pc : Int) + o).toNat ls r M k n) ∧ iSwA K pc ls r M k n t (v + 1) x
theorem iSwA_e (x : Int32) : ∀ (l : List Int) (a : Int), wSwA l a x (fun o => wJ pc o fun t => K t ls st M k n) = iSwA K pc ls st M k n l a x
  | [], a => rfl
  | o :: t, a => by
    show ((x = Int32.ofInt a → wJ pc o fun t => K t ls st M k n) ∧ wSwA t (a + 1) x _) = _
    rw [iSwA_e x t (a + 1)]
    rfl
def iSw (d lo hi : Int) (offs : Array Int) (K : wKt) (pc : Nat) (ls : wLs) (st : List Value) (M : wMem) (k n : Nat) : Prop := s1i st fun x r => (offs.toList.length : Int) = hi - lo + 1 ∧ (x.toInt < lo ∨ hi < x.toInt → wJ pc d fun t => K t ls r M k n) ∧ wSwA offs.toList lo x (fun o => wJ pc o fun t => K t ls r M k n)
theorem iSw_e (d lo hi : Int) (offs : Array Int) (x : Int32) (r : List Value) : iSw d lo hi offs K pc ls (.int x :: r) M k n = ((offs.toList.length : Int) = hi - lo + 1 ∧ (x.toInt < lo ∨ hi < x.toInt → 0 ≤ (pc : Int) + d ∧ K ((pc : Int) + d).toNat ls r M k n) ∧ iSwA K pc ls r M k n offs.toList lo x) := by
  show ((offs.toList.length : Int) = hi - lo + 1 ∧ (x.toInt < lo ∨ hi < x.toInt → wJ pc d fun t => K t ls r M k n) ∧ wSwA offs.toList lo x (fun o => wJ pc o fun t => K t ls r M k n)) = _
  rw [iSwA_e]
  rfl
def iGetf (o : Option (Nat × Nat × Nat × Bool)) (K : wKt) (pc : Nat) (ls : wLs) (st : List Value) (M : wMem) (k n : Nat) : Prop := wO o fun q => s1r st fun a r => wOb M a q.1 ∧ (if q.2.2.1 = 2 then K (pc + 3) ls (wRf (wP M a q.2.1) :: r) M k n else K (pc + 3) ls (.int (wI M a q.2.1) :: r) M k n)
theorem iGetf_r (ci f : Nat) (fin : Bool) (a : Nat) (r : List Value) (h : wS M a = some (ci, 0)) : iGetf (some (ci, f, 2, fin)) K pc ls (.ref a :: r) M k n = K (pc + 3) ls (wRf (wP M a f) :: r) M k n := by
  show (wS M a = some (ci, 0) ∧ K (pc + 3) ls (wRf (wP M a f) :: r) M k n) = _
  simp [h]
theorem iGetf_i (ci f : Nat) (fin : Bool) (a : Nat) (r : List Value) (h : wS M a = some (ci, 0)) : iGetf (some (ci, f, 0, fin)) K pc ls (.ref a :: r) M k n = K (pc + 3) ls (.int (wI M a f) :: r) M k n := by
  show (wS M a = some (ci, 0) ∧ K (pc + 3) ls (.int (wI M a f) :: r) M k n) = _
  simp [h]
theorem iGetf_z (ci f : Nat) (fin : Bool) (a : Nat) (r : List Value) (h : wS M a = some (ci, 0)) : iGetf (some (ci, f, 1, fin)) K pc ls (.ref a :: r) M k n = K (pc + 3) ls (.int (wI M a f) :: r) M k n := by
  show (wS M a = some (ci, 0) ∧ K (pc + 3) ls (.int (wI M a f) :: r) M k n) = _
  simp [h]
def iPutf (own : Nat) (ini : Bool) (o : Option (Nat × Nat × Nat × Bool)) (K : wKt) (pc : Nat) (ls : wLs) (st : List Value) (M : wMem) (k n : Nat) : Prop := wO o fun q => sVR st fun w a r => wOb M a q.1 ∧ (q.2.2.2 = true → ini = true ∧ own = q.1) ∧
      (if q.2.2.1 = 2 then wVr w fun b => K (pc + 3) ls r (wSetP M a q.2.1 (some b)) k n else wVi w fun x => (q.2.2.1 = 1 → x = 0 ∨ x = 1) ∧ K (pc + 3) ls r (wSetI M a q.2.1 x) k n)
theorem iPutf_i (ci f : Nat) (x : Int32) (a : Nat) (r : List Value) (h : wS M a = some (ci, 0)) : iPutf own ini (some (ci, f, 0, false)) K pc ls (.int x :: .ref a :: r) M k n = K (pc + 3) ls r (wSetI M a f x) k n := by
  show (wOb M a ci ∧ (false = true → ini = true ∧ own = ci) ∧ (((0 : Nat) = 1 → x = 0 ∨ x = 1) ∧ K (pc + 3) ls r (wSetI M a f x) k n)) = _
  simp [wOb, h]
theorem iPutf_z (ci f : Nat) (x : Int32) (a : Nat) (r : List Value) (h : wS M a = some (ci, 0)) : iPutf own ini (some (ci, f, 1, false)) K pc ls (.int x :: .ref a :: r) M k n = ((x = 0 ∨ x = 1) ∧ K (pc + 3) ls r (wSetI M a f x) k n) := by
  show (wOb M a ci ∧ (false = true → ini = true ∧ own = ci) ∧ (((1 : Nat) = 1 → x = 0 ∨ x = 1) ∧ K (pc + 3) ls r (wSetI M a f x) k n)) = _
  simp [wOb, h]
theorem iPutf_rt (ci f : Nat) (b a : Nat) (r : List Value) (h : wS M a = some (ci, 0)) (h2 : ini = true) (h3 : own = ci) : iPutf own ini (some (ci, f, 2, true)) K pc ls (.ref b :: .ref a :: r) M k n = K (pc + 3) ls r (wSetP M a f (some b)) k n := by
  show (wOb M a ci ∧ (true = true → ini = true ∧ own = ci) ∧ K (pc + 3) ls r (wSetP M a f (some b)) k n) = _
  simp [wOb, h, h2, h3]
theorem iPutf_rf (ci f : Nat) (b a : Nat) (r : List Value) (h : wS M a = some (ci, 0)) : iPutf own ini (some (ci, f, 2, false)) K pc ls (.ref b :: .ref a :: r) M k n = K (pc + 3) ls r (wSetP M a f (some b)) k n := by
  show (wOb M a ci ∧ (false = true → ini = true ∧ own = ci) ∧ K (pc + 3) ls r (wSetP M a f (some b)) k n) = _
  simp [wOb, h]
def iGets (o : Option (Nat × Bool)) (K : wKt) (pc : Nat) (ls : wLs) (st : List Value) (M : wMem) (k n : Nat) : Prop := wO o fun q => K (pc + 3) ls (.ref q.1 :: st) M k n
theorem iGets_e (a : Nat) (b : Bool) : iGets (some (a, b)) K pc ls st M k n = K (pc + 3) ls (.ref a :: st) M k n := rfl
def iPo (K : wKt) (pc : Nat) (ls : wLs) (st : List Value) (M : wMem) (k n : Nat) : Prop := s1v st fun x r => x.category = 1 ∧ K (pc + 1) ls r M k n
theorem iPo_i (x : Int32) (r : List Value) : iPo K pc ls (.int x :: r) M k n = K (pc + 1) ls r M k n := by
  show ((Value.int x).category = 1 ∧ K (pc + 1) ls r M k n) = _
  simp [cInt]
def iLdi (o : Option Int32) (K : wKt) (pc : Nat) (ls : wLs) (st : List Value) (M : wMem) (k n : Nat) : Prop := wO o fun x => K (pc + 2) ls (.int x :: st) M k n
theorem iLdi_e (x : Int32) : iLdi (some x) K pc ls st M k n = K (pc + 2) ls (.int x :: st) M k n := rfl
def iLdc (o : Option Int64) (K : wKt) (pc : Nat) (ls : wLs) (st : List Value) (M : wMem) (k n : Nat) : Prop := wO o fun x => K (pc + 3) ls (.long x :: st) M k n
theorem iLdc_e (x : Int64) : iLdc (some x) K pc ls st M k n = K (pc + 3) ls (.long x :: st) M k n := rfl
def iAl2 (t : Nat) (o : Option (Nat × Nat)) (i : Int32) (a : Nat) (K : wKt) (pc : Nat) (ls : wLs) (r : List Value) (M : wMem) (k n : Nat) : Prop := match o with
  | some (kd, l) => kd = t ∧ vp_in i l ∧ K (pc + 1) ls (.int (wI M a i.toNatClampNeg) :: r) M k n
  | none => False
def iAl (t : Nat) (K : wKt) (pc : Nat) (ls : wLs) (st : List Value) (M : wMem) (k n : Nat) : Prop := sIR st fun i a r => iAl2 t (wS M a) i a K pc ls r M k n
theorem iAl_e (t : Nat) (i : Int32) (a : Nat) (r : List Value) : iAl t K pc ls (.int i :: .ref a :: r) M k n = iAl2 t (wS M a) i a K pc ls r M k n := rfl
theorem iAl2_e (t l : Nat) (i : Int32) (a : Nat) : iAl2 t (some (t, l)) i a K pc ls st M k n = (vp_in i l ∧ K (pc + 1) ls (.int (wI M a i.toNatClampNeg) :: st) M k n) := by
  show (t = t ∧ vp_in i l ∧ _) = _
  simp
theorem iAl2_c (t l : Nat) (i : Int32) (a : Nat) (h : vp_in i l) : iAl2 t (some (t, l)) i a K pc ls st M k n = K (pc + 1) ls (.int (wI M a i.toNatClampNeg) :: st) M k n := by
  rw [iAl2_e]
  simp [h]
def iAlr (G : wG) (K : wKt) (pc : Nat) (ls : wLs) (st : List Value) (M : wMem) (k n : Nat) : Prop := sIR st fun i a r => 1000000 ≤ a ∧ a < 1000004 ∧ vp_in i (gN G a) ∧ K (pc + 1) ls (.int (gF G a i.toNatClampNeg) :: r) M k n
theorem iAlr_e (i : Int32) (a : Nat) (r : List Value) (h1 : 1000000 ≤ a) (h2 : a < 1000004) : iAlr G K pc ls (.int i :: .ref a :: r) M k n = (vp_in i (gN G a) ∧ K (pc + 1) ls (.int (gF G a i.toNatClampNeg) :: r) M k n) := by
  show (1000000 ≤ a ∧ a < 1000004 ∧ vp_in i (gN G a) ∧ K (pc + 1) ls (.int (gF G a i.toNatClampNeg) :: r) M k n) = _
  simp [h1, h2]
def iAq2 (o : Option (Nat × Nat)) (i : Int32) (a : Nat) (K : wKt) (pc : Nat) (ls : wLs) (r : List Value) (M : wMem) (k n : Nat) : Prop := match o with
  | some (kd, l) => 13 ≤ kd ∧ kd < 16 ∧ vp_in i l ∧ K (pc + 1) ls (wRf (wP M a i.toNatClampNeg) :: r) M k n
  | none => False
def iAq (K : wKt) (pc : Nat) (ls : wLs) (st : List Value) (M : wMem) (k n : Nat) : Prop := sIR st fun i a r => iAq2 (wS M a) i a K pc ls r M k n
theorem iAq_e (i : Int32) (a : Nat) (r : List Value) : iAq K pc ls (.int i :: .ref a :: r) M k n = iAq2 (wS M a) i a K pc ls r M k n := rfl
theorem iAq2_e (kd l : Nat) (i : Int32) (a : Nat) (h1 : 13 ≤ kd) (h2 : kd < 16) : iAq2 (some (kd, l)) i a K pc ls st M k n = (vp_in i l ∧ K (pc + 1) ls (wRf (wP M a i.toNatClampNeg) :: st) M k n) := by
  show (13 ≤ kd ∧ kd < 16 ∧ vp_in i l ∧ K (pc + 1) ls (wRf (wP M a i.toNatClampNeg) :: st) M k n) = _
  simp [h1, h2]
theorem iAq2_c (kd l : Nat) (i : Int32) (a : Nat) (h1 : 13 ≤ kd) (h2 : kd < 16) (h : vp_in i l) : iAq2 (some (kd, l)) i a K pc ls st M k n = K (pc + 1) ls (wRf (wP M a i.toNatClampNeg) :: st) M k n := by
  rw [iAq2_e _ _ _ _ _ _ _ _ _ _ _ h1 h2]
  simp [h]
def iAs2 (t : Nat) (o : Option (Nat × Nat)) (y i : Int32) (a : Nat) (K : wKt) (pc : Nat) (ls : wLs) (r : List Value) (M : wMem) (k n : Nat) : Prop := match o with
  | some (kd, l) => kd = t ∧ vp_in i l ∧ K (pc + 1) ls r (wSetI M a i.toNatClampNeg y) k n
  | none => False
def iAsI (K : wKt) (pc : Nat) (ls : wLs) (st : List Value) (M : wMem) (k n : Nat) : Prop := sIIR st fun x i a r => iAs2 10 (wS M a) x i a K pc ls r M k n
def iAsZ (K : wKt) (pc : Nat) (ls : wLs) (st : List Value) (M : wMem) (k n : Nat) : Prop := sIIR st fun x i a r => iAs2 11 (wS M a) (vp_nar .boolean x) i a K pc ls r M k n
def iAsC (K : wKt) (pc : Nat) (ls : wLs) (st : List Value) (M : wMem) (k n : Nat) : Prop := sIIR st fun x i a r => iAs2 12 (wS M a) (vp_nar .char x) i a K pc ls r M k n
theorem iAsI_e (x i : Int32) (a : Nat) (r : List Value) : iAsI K pc ls (.int x :: .int i :: .ref a :: r) M k n = iAs2 10 (wS M a) x i a K pc ls r M k n := rfl
theorem iAsZ_e (x i : Int32) (a : Nat) (r : List Value) : iAsZ K pc ls (.int x :: .int i :: .ref a :: r) M k n = iAs2 11 (wS M a) (vp_nar .boolean x) i a K pc ls r M k n := rfl
theorem iAsC_e (x i : Int32) (a : Nat) (r : List Value) : iAsC K pc ls (.int x :: .int i :: .ref a :: r) M k n = iAs2 12 (wS M a) (vp_nar .char x) i a K pc ls r M k n := rfl
theorem iAs2_e (t l : Nat) (y i : Int32) (a : Nat) : iAs2 t (some (t, l)) y i a K pc ls st M k n = (vp_in i l ∧ K (pc + 1) ls st (wSetI M a i.toNatClampNeg y) k n) := by
  show (t = t ∧ vp_in i l ∧ _) = _
  simp
theorem iAs2_c (t l : Nat) (y i : Int32) (a : Nat) (h : vp_in i l) : iAs2 t (some (t, l)) y i a K pc ls st M k n = K (pc + 1) ls st (wSetI M a i.toNatClampNeg y) k n := by
  rw [iAs2_e]
  simp [h]
def iAt2 (o : Option (Nat × Nat)) (w : Nat) (i : Int32) (a : Nat) (K : wKt) (pc : Nat) (ls : wLs) (r : List Value) (M : wMem) (k n : Nat) : Prop := match o with
  | some (kd, l) => 13 ≤ kd ∧ kd < 16 ∧ wS M w = some (eCl kd, 0) ∧ vp_in i l ∧ K (pc + 1) ls r (wSetP M a i.toNatClampNeg (some w)) k n
  | none => False
def iAt (K : wKt) (pc : Nat) (ls : wLs) (st : List Value) (M : wMem) (k n : Nat) : Prop := sRIR st fun w i a r => iAt2 (wS M a) w i a K pc ls r M k n
theorem iAt_e (w : Nat) (i : Int32) (a : Nat) (r : List Value) : iAt K pc ls (.ref w :: .int i :: .ref a :: r) M k n = iAt2 (wS M a) w i a K pc ls r M k n := rfl
theorem iAt2_e (kd l w : Nat) (i : Int32) (a : Nat) (h1 : 13 ≤ kd) (h2 : kd < 16) : iAt2 (some (kd, l)) w i a K pc ls st M k n = (wS M w = some (eCl kd, 0) ∧ vp_in i l ∧ K (pc + 1) ls st (wSetP M a i.toNatClampNeg (some w)) k n) := by
  show (13 ≤ kd ∧ kd < 16 ∧ wS M w = some (eCl kd, 0) ∧ vp_in i l ∧ K (pc + 1) ls st (wSetP M a i.toNatClampNeg (some w)) k n) = _
  simp [h1, h2]
theorem iAt2_c (kd l w : Nat) (i : Int32) (a : Nat) (h1 : 13 ≤ kd) (h2 : kd < 16) (h3 : wS M w = some (eCl kd, 0)) (h : vp_in i l) : iAt2 (some (kd, l)) w i a K pc ls st M k n = K (pc + 1) ls st (wSetP M a i.toNatClampNeg (some w)) k n := by
  rw [iAt2_e _ _ _ _ _ _ _ _ _ _ _ _ h1 h2]
  simp [h, h3]
def iLen (G : wG) (K : wKt) (pc : Nat) (ls : wLs) (st : List Value) (M : wMem) (k n : Nat) : Prop := s1r st fun a r => a = 1000000 ∧ K (pc + 1) ls (.int (Int32.ofNat (gN G a)) :: r) M k n
theorem iLen_e (a : Nat) (r : List Value) : iLen G K pc ls (.ref a :: r) M k n = (a = 1000000 ∧ K (pc + 1) ls (.int (Int32.ofNat (gN G a)) :: r) M k n) := rfl
def iNew (mc ms : Nat) (o : Option Nat) (K : wKt) (pc : Nat) (ls : wLs) (st : List Value) (M : wMem) (k n : Nat) : Prop := wO o fun ci => wZ M < 99999 ∧ k + 1 ≤ mc ∧ n + NXn ci ≤ ms ∧ K (pc + 3) ls (.ref (wZ M) :: st) (wNew M ci 0 (fun _ => 0)) (k + 1) (n + NXn ci)
theorem iNew_e (ci : Nat) : iNew mc ms (some ci) K pc ls st M k n = (wZ M < 99999 ∧ k + 1 ≤ mc ∧ n + NXn ci ≤ ms ∧ K (pc + 3) ls (.ref (wZ M) :: st) (wNew M ci 0 (fun _ => 0)) (k + 1) (n + NXn ci)) := rfl
def iNwa (mc ms t d : Nat) (K : wKt) (pc : Nat) (ls : wLs) (st : List Value) (M : wMem) (k n : Nat) : Prop := s1i st fun x r => ¬ x < 0 ∧ x.toNatClampNeg ≤ 100000 ∧ wZ M < 99999 ∧ k + 1 ≤ mc ∧ n + x.toNatClampNeg ≤ ms ∧ K (pc + d) ls (.ref (wZ M) :: r) (wNew M t x.toNatClampNeg (fun _ => 0)) (k + 1) (n + x.toNatClampNeg)
theorem iNwa_e (t d : Nat) (x : Int32) (r : List Value) : iNwa mc ms t d K pc ls (.int x :: r) M k n = (¬ x < 0 ∧ x.toNatClampNeg ≤ 100000 ∧ wZ M < 99999 ∧ k + 1 ≤ mc ∧ n + x.toNatClampNeg ≤ ms ∧ K (pc + d) ls (.ref (wZ M) :: r) (wNew M t x.toNatClampNeg (fun _ => 0)) (k + 1) (n + x.toNatClampNeg)) := rfl
def iNwq (mc ms : Nat) (o : Option Nat) (K : wKt) (pc : Nat) (ls : wLs) (st : List Value) (M : wMem) (k n : Nat) : Prop := wO o fun ci => 13 ≤ eKd ci ∧ iNwa mc ms (eKd ci) 3 K pc ls st M k n
theorem iNwq_e (ci : Nat) : iNwq mc ms (some ci) K pc ls st M k n = (13 ≤ eKd ci ∧ iNwa mc ms (eKd ci) 3 K pc ls st M k n) := rfl
def iCk (own c : Nat) (K : wKt) (pc : Nat) (ls : wLs) (st : List Value) (M : wMem) (k n : Nat) : Prop := (own, c) ∈ kTab ∧ s1r st fun a r => wAr M a 10 fun _ => K (pc + 3) ls (.ref a :: r) M k n
theorem iCk_e (c : Nat) (a : Nat) (r : List Value) (l : Nat) (h : wS M a = some (10, l)) : iCk own c K pc ls (.ref a :: r) M k n = ((own, c) ∈ kTab ∧ K (pc + 3) ls (.ref a :: r) M k n) := by
  show ((own, c) ∈ kTab ∧ wAr M a 10 fun _ => K (pc + 3) ls (.ref a :: r) M k n) = _
  simp [wAr, h]
def iPop : Nat → List Value → List Value → Option (List Value × List Value)
  | 0, st, As => some (As, st)
  | n + 1, v :: r, As => iPop n r (v :: As)
  | _ + 1, [], _ => none
theorem iPop_e (f : List Value → List Value → Prop) : ∀ (m : Nat) (st As : List Value), wPop m st As f = wO (iPop m st As) (fun q => f q.1 q.2)
  | 0, st, As => rfl
  | m + 1, [], As => rfl
  | m + 1, v :: r, As => iPop_e f m r (v :: As)
def iCl2 (G : wG) (o : Option (Prop × Option Value × wMem)) (K Kc : wKt) (z : Nat) (As rest : List Value) (pc : Nat) (ls : wLs) (M : wMem) (k n : Nat) : Prop := match o with
  | some (g, o, M2) => g ∧ K (pc + 3) ls (o.toList ++ rest) M2 k n
  | none => CT G z 0 0 As M (fun o M' => Kc (pc + 3) ls (o.toList ++ rest) M' k n)
theorem iCl2_s (g : Prop) (o : Option Value) (M2 : wMem) (z : Nat) (As rest : List Value) : iCl2 G (some (g, o, M2)) K Kc z As rest pc ls M k n = (g ∧ K (pc + 3) ls (o.toList ++ rest) M2 k n) := rfl
theorem iCl2_n (z : Nat) (As rest : List Value) : iCl2 G none K Kc z As rest pc ls M k n = CT G z 0 0 As M (fun o M' => Kc (pc + 3) ls (o.toList ++ rest) M' k n) := rfl
def iIv2 (G : wG) (pf : wPft) (z ci : Nat) (o : Option (List Value × List Value)) (K Kc : wKt) (pc : Nat) (ls : wLs) (M : wMem) (k n : Nat) : Prop := wO o fun q => s1r q.2 fun b r => wOb M b ci ∧ wCat r ≤ 8 ∧ wCall G pf K Kc z (.ref b :: q.1) r pc ls M k n
theorem iIv2_e (z ci b : Nat) (As r : List Value) (h1 : wS M b = some (ci, 0)) (h2 : wCat r ≤ 8) : iIv2 G pf z ci (some (As, .ref b :: r)) K Kc pc ls M k n = iCl2 G (pf z (.ref b :: As) M) K Kc z (.ref b :: As) r pc ls M k n := by
  show (wS M b = some (ci, 0) ∧ wCat r ≤ 8 ∧ iCl2 G (pf z (.ref b :: As) M) K Kc z (.ref b :: As) r pc ls M k n) = _
  simp [h1, h2]
def iIv (G : wG) (pf : wPft) (v mc ms : Nat) (o : Option (Nat × Nat × Nat × Nat × Nat)) (K Kc : wKt) (pc : Nat) (ls : wLs) (st : List Value) (M : wMem) (k n : Nat) : Prop := k ≤ mc ∧ n ≤ ms ∧ wO o fun q => wIv G pf v mc ms K Kc q pc ls st M k n
theorem iIv_e (z na lz ci : Nat) (h1 : k ≤ mc) (h2 : n ≤ ms) (h3 : lz < v) : iIv G pf v mc ms (some (0, z, na, lz, ci)) K Kc pc ls st M k n = iIv2 G pf z ci (iPop na st []) K Kc pc ls M k n := by
  show (k ≤ mc ∧ n ≤ ms ∧ ((0 : Nat) = 0 ∧ lz < v ∧ wPop na st [] fun As st' => s1r st' fun b r => wOb M b ci ∧ wCat r ≤ 8 ∧ wCall G pf K Kc z (.ref b :: As) r pc ls M k n)) = _
  rw [iPop_e]
  simp only [true_and, eq_self, h1, h2, h3]
  rfl
theorem iIv_c (z na lz ci a : Nat) (r : List Value) : iIv G pf v mc ms (some (5, z, na, lz, ci)) K Kc pc ls (.ref a :: r) M k n = (k ≤ mc ∧ n ≤ ms ∧ 1 ≤ v ∧ wZ M < 99999 ∧ k + 1 ≤ mc ∧ n + 6 ≤ ms ∧ a = 1000001 ∧ wCat r ≤ 8 ∧ K (pc + 3) ls (.ref (wZ M) :: r) (wNew M 10 6 (gF G a)) (k + 1) (n + 6)) := rfl
def iIs2 (G : wG) (pf : wPft) (z : Nat) (o : Option (List Value × List Value)) (K Kc : wKt) (pc : Nat) (ls : wLs) (M : wMem) (k n : Nat) : Prop := wO o fun q => wCat q.2 ≤ 8 ∧ wCall G pf K Kc z q.1 q.2 pc ls M k n
theorem iIs2_e (z : Nat) (As r : List Value) (h : wCat r ≤ 8) : iIs2 G pf z (some (As, r)) K Kc pc ls M k n = iCl2 G (pf z As M) K Kc z As r pc ls M k n := by
  show (wCat r ≤ 8 ∧ iCl2 G (pf z As M) K Kc z As r pc ls M k n) = _
  simp [h]
def iIs (G : wG) (pf : wPft) (v mc ms : Nat) (o : Option (Nat × Nat × Nat × Nat × Nat)) (K Kc : wKt) (pc : Nat) (ls : wLs) (st : List Value) (M : wMem) (k n : Nat) : Prop := k ≤ mc ∧ n ≤ ms ∧ wO o fun q => wIs G pf v K Kc q pc ls st M k n
theorem iIs_e (z na lz ci : Nat) (h1 : k ≤ mc) (h2 : n ≤ ms) (h3 : lz < v) : iIs G pf v mc ms (some (1, z, na, lz, ci)) K Kc pc ls st M k n = iIs2 G pf z (iPop na st []) K Kc pc ls M k n := by
  show (k ≤ mc ∧ n ≤ ms ∧ (((1 : Nat) = 1 ∨ (1 : Nat) = 4) ∧ lz < v ∧ wPop na st [] fun As r => wCat r ≤ 8 ∧ wCall G pf K Kc z As r pc ls M k n)) = _
  rw [iPop_e]
  simp only [true_and, eq_self, true_or, h1, h2, h3]
  rfl
theorem iIs_n (z na lz ci : Nat) (h1 : k ≤ mc) (h2 : n ≤ ms) (h3 : lz < v) : iIs G pf v mc ms (some (4, z, na, lz, ci)) K Kc pc ls st M k n = iIs2 G pf z (iPop na st []) K Kc pc ls M k n := by
  show (k ≤ mc ∧ n ≤ ms ∧ (((4 : Nat) = 1 ∨ (4 : Nat) = 4) ∧ lz < v ∧ wPop na st [] fun As r => wCat r ≤ 8 ∧ wCall G pf K Kc z As r pc ls M k n)) = _
  rw [iPop_e]
  simp only [true_and, eq_self, or_true, h1, h2, h3]
  rfl
theorem iIs_max (z na lz ci : Nat) (x y : Int32) (r : List Value) (h1 : k ≤ mc) (h2 : n ≤ ms) (h3 : 1 ≤ v) (h4 : wCat r ≤ 8) : iIs G pf v mc ms (some (7, z, na, lz, ci)) K Kc pc ls (.int y :: .int x :: r) M k n = K (pc + 3) ls (.int (iMax x y) :: r) M k n := by
  show (k ≤ mc ∧ n ≤ ms ∧ 1 ≤ v ∧ wCat r ≤ 8 ∧ K (pc + 3) ls (.int (if x < y then y else x) :: r) M k n) = _
  simp [h1, h2, h3, h4, iMax]
theorem iIs_min (z na lz ci : Nat) (x y : Int32) (r : List Value) (h1 : k ≤ mc) (h2 : n ≤ ms) (h3 : 1 ≤ v) (h4 : wCat r ≤ 8) : iIs G pf v mc ms (some (8, z, na, lz, ci)) K Kc pc ls (.int y :: .int x :: r) M k n = K (pc + 3) ls (.int (iMin x y) :: r) M k n := by
  show (k ≤ mc ∧ n ≤ ms ∧ 1 ≤ v ∧ wCat r ≤ 8 ∧ K (pc + 3) ls (.int (if y < x then y else x) :: r) M k n) = _
  simp [h1, h2, h3, h4, iMin]
def iCp2 (o0 o1 : Option (Nat × Nat)) (len dp : Int32) (b : Nat) (sp : Int32) (a : Nat) (K : wKt) (pc : Nat) (ls : wLs) (r : List Value) (M : wMem) (k n : Nat) : Prop := match o0, o1 with
  | some (k0, n0), some (k1, n1) => k0 = 10 ∧ k1 = 10 ∧ ¬ sp < 0 ∧ ¬ dp < 0 ∧ ¬ len < 0 ∧ sp.toNatClampNeg + len.toNatClampNeg ≤ n0 ∧ dp.toNatClampNeg + len.toNatClampNeg ≤ n1 ∧ K (pc + 3) ls r (wCop M a b sp.toNatClampNeg dp.toNatClampNeg len.toNatClampNeg) k n
  | _, _ => False
theorem iIs_cop (z na lz ci : Nat) (len dp : Int32) (b : Nat) (sp : Int32) (a : Nat) (r : List Value) (g1 : k ≤ mc) (g2 : n ≤ ms) (g3 : 1 ≤ v) (g4 : wCat r ≤ 8) : iIs G pf v mc ms (some (9, z, na, lz, ci)) K Kc pc ls (.int len :: .int dp :: .ref b :: .int sp :: .ref a :: r) M k n = iCp2 (wS M a) (wS M b) len dp b sp a K pc ls r M k n := by
  show (k ≤ mc ∧ n ≤ ms ∧ (1 ≤ v ∧ wCat r ≤ 8 ∧ wAr M a 10 fun n0 => wAr M b 10 fun n1 => ¬ sp < 0 ∧ ¬ dp < 0 ∧ ¬ len < 0 ∧ sp.toNatClampNeg + len.toNatClampNeg ≤ n0 ∧ dp.toNatClampNeg + len.toNatClampNeg ≤ n1 ∧ K (pc + 3) ls r (wCop M a b sp.toNatClampNeg dp.toNatClampNeg len.toNatClampNeg) k n)) = _
  simp only [g1, g2, g3, g4, true_and]
  unfold wAr iCp2
  rcases wS M a with _ | ⟨k0, n0⟩
  · rfl
  · rcases wS M b with _ | ⟨k1, n1⟩
    · simp
    · simp
theorem iCp2_e (n0 n1 : Nat) (len dp : Int32) (b : Nat) (sp : Int32) (a : Nat) : iCp2 (some (10, n0)) (some (10, n1)) len dp b sp a K pc ls st M k n = (¬ sp < 0 ∧ ¬ dp < 0 ∧ ¬ len < 0 ∧ sp.toNatClampNeg + len.toNatClampNeg ≤ n0 ∧ dp.toNatClampNeg + len.toNatClampNeg ≤ n1 ∧ K (pc + 3) ls st (wCop M a b sp.toNatClampNeg dp.toNatClampNeg len.toNatClampNeg) k n) := by
  show ((10 : Nat) = 10 ∧ (10 : Nat) = 10 ∧ _) = _
  simp
def iIp2 (G : wG) (mc ms z : Nat) (o : Option (List Value × List Value)) (Kc : wKt) (pc : Nat) (ls : wLs) (M : wMem) (k n : Nat) : Prop := wO o fun q => s1r q.2 fun b r => wCat r ≤ 8 ∧ ∃ mc' ms', k + mc' ≤ mc ∧ n + ms' ≤ ms ∧ CT G z mc' ms' (.ref b :: q.1) M (fun o M' => Kc (pc + 3) ls (o.toList ++ r) M' (k + mc') (n + ms'))
theorem iIp2_e (z b : Nat) (As r : List Value) (h : wCat r ≤ 8) : iIp2 G mc ms z (some (As, .ref b :: r)) Kc pc ls M k n = (∃ mc' ms', k + mc' ≤ mc ∧ n + ms' ≤ ms ∧ CT G z mc' ms' (.ref b :: As) M (fun o M' => Kc (pc + 3) ls (o.toList ++ r) M' (k + mc') (n + ms'))) := by
  show (wCat r ≤ 8 ∧ ∃ mc' ms', k + mc' ≤ mc ∧ n + ms' ≤ ms ∧ CT G z mc' ms' (.ref b :: As) M (fun o M' => Kc (pc + 3) ls (o.toList ++ r) M' (k + mc') (n + ms'))) = _
  simp [h]
def iIp (G : wG) (v mc ms : Nat) (o : Option (Nat × Nat × Nat × Nat × Nat)) (K Kc : wKt) (pc : Nat) (ls : wLs) (st : List Value) (M : wMem) (k n : Nat) : Prop := wO o fun q => wIp G v mc ms K Kc q pc ls st M k n
theorem iIp_o (z na lz ci a : Nat) (r : List Value) (h1 : 1 ≤ v) (h2 : wCat r ≤ 8) : iIp G v mc ms (some (6, z, na, lz, ci)) K Kc pc ls (.ref a :: r) M k n = K (pc + 3) ls r M k n := by
  show (1 ≤ v ∧ wCat r ≤ 8 ∧ K (pc + 3) ls r M k n) = _
  simp [h1, h2]
theorem iIp_2 (z na lz ci : Nat) (h1 : lz < v) : iIp G v mc ms (some (2, z, na, lz, ci)) K Kc pc ls st M k n = iIp2 G mc ms z (iPop na st []) Kc pc ls M k n := by
  show (((2 : Nat) = 2 ∨ (2 : Nat) = 3) ∧ lz < v ∧ wPop na st [] _) = _
  rw [iPop_e]
  simp only [true_and, eq_self, true_or, h1]
  rfl
theorem iIp_3 (z na lz ci : Nat) (h1 : lz < v) : iIp G v mc ms (some (3, z, na, lz, ci)) K Kc pc ls st M k n = iIp2 G mc ms z (iPop na st []) Kc pc ls M k n := by
  show (((3 : Nat) = 2 ∨ (3 : Nat) = 3) ∧ lz < v ∧ wPop na st [] _) = _
  rw [iPop_e]
  simp only [true_and, eq_self, or_true, h1]
  rfl
def iRet (rt : Option FieldType) (mc ms : Nat) (Qr : Option Value → wMem → Prop) (st : List Value) (M : wMem) (k n : Nat) : Prop := k = mc ∧ n = ms ∧ s1e st fun x => wBt rt x ∧ Qr (some (.int x)) M
theorem iRet_i (x : Int32) (h1 : k = mc) (h2 : n = ms) : iRet (some .int) mc ms Qr [.int x] M k n = Qr (some (.int x)) M := by
  show (k = mc ∧ n = ms ∧ wBt (some .int) x ∧ Qr (some (.int x)) M) = _
  simp [wBt, h1, h2]
theorem iRet_z (x : Int32) (h1 : k = mc) (h2 : n = ms) : iRet (some .boolean) mc ms Qr [.int x] M k n = ((x = 0 ∨ x = 1) ∧ Qr (some (.int x)) M) := by
  show (k = mc ∧ n = ms ∧ wBt (some .boolean) x ∧ Qr (some (.int x)) M) = _
  simp [wBt, h1, h2]
def iRtv (rt : Option FieldType) (mc ms : Nat) (Qr : Option Value → wMem → Prop) (st : List Value) (M : wMem) (k n : Nat) : Prop := k = mc ∧ n = ms ∧ s0e st (rt = none ∧ Qr none M)
theorem iRtv_e (h1 : k = mc) (h2 : n = ms) : iRtv none mc ms Qr [] M k n = Qr none M := by
  show (k = mc ∧ n = ms ∧ (none : Option FieldType) = none ∧ Qr none M) = _
  simp [h1, h2]
theorem wE_iconst (c : Int) : wDec (.ok (.iconst c, 1)) G pf own ini rt v mc ms ros Qr K Kc pc ls st M k n = (K (pc + 1) ls (.int (Int32.ofInt c) :: st) M k n) := by
  show (_ ∧ _) = _
  simp only [eq_self, true_and] <;> rfl
theorem wE_bipush (c : Int) : wDec (.ok (.bipush c, 2)) G pf own ini rt v mc ms ros Qr K Kc pc ls st M k n = (K (pc + 2) ls (.int (Int8.ofInt c).toInt32 :: st) M k n) := by
  show (_ ∧ _) = _
  simp only [eq_self, true_and] <;> rfl
theorem wE_sipush (c : Int) : wDec (.ok (.sipush c, 3)) G pf own ini rt v mc ms ros Qr K Kc pc ls st M k n = (K (pc + 3) ls (.int (Int16.ofInt c).toInt32 :: st) M k n) := by
  show (_ ∧ _) = _
  simp only [eq_self, true_and] <;> rfl
theorem wE_lconst (c : Fin 2) : wDec (.ok (.lconst c, 1)) G pf own ini rt v mc ms ros Qr K Kc pc ls st M k n = (K (pc + 1) ls (.long (Int64.ofNat (c : Nat)) :: st) M k n) := by
  show (_ ∧ _) = _
  simp only [eq_self, true_and] <;> rfl
theorem wE_ldc2_w (c : Nat) : wDec (.ok (.ldc2_w c, 3)) G pf own ini rt v mc ms ros Qr K Kc pc ls st M k n = (iLdc (lOf own c) K pc ls st M k n) := by
  show (_ ∧ _) = _
  simp only [eq_self, true_and] <;> rfl
theorem wE_iload_n (c : Fin 4) : wDec (.ok (.iload_n c, 1)) G pf own ini rt v mc ms ros Qr K Kc pc ls st M k n = (iPuI (lg ls (c : Nat)) K (pc + 1) ls st M k n) := by
  show (_ ∧ _) = _
  simp only [eq_self, true_and] <;> rfl
theorem wE_iload (c : Nat) : wDec (.ok (.iload c, 2)) G pf own ini rt v mc ms ros Qr K Kc pc ls st M k n = (iPuI (lg ls c) K (pc + 2) ls st M k n) := by
  show (_ ∧ _) = _
  simp only [eq_self, true_and] <;> rfl
theorem wE_lload_n (c : Fin 4) : wDec (.ok (.lload_n c, 1)) G pf own ini rt v mc ms ros Qr K Kc pc ls st M k n = (iPuL (lg ls (c : Nat)) K (pc + 1) ls st M k n) := by
  show (_ ∧ _) = _
  simp only [eq_self, true_and] <;> rfl
theorem wE_aload_n (c : Fin 4) : wDec (.ok (.aload_n c, 1)) G pf own ini rt v mc ms ros Qr K Kc pc ls st M k n = (iPuR (lg ls (c : Nat)) K (pc + 1) ls st M k n) := by
  show (_ ∧ _) = _
  simp only [eq_self, true_and] <;> rfl
theorem wE_aload (c : Nat) : wDec (.ok (.aload c, 2)) G pf own ini rt v mc ms ros Qr K Kc pc ls st M k n = (iPuR (lg ls c) K (pc + 2) ls st M k n) := by
  show (_ ∧ _) = _
  simp only [eq_self, true_and] <;> rfl
theorem wE_istore_n (c : Fin 4) : wDec (.ok (.istore_n c, 1)) G pf own ini rt v mc ms ros Qr K Kc pc ls st M k n = (iStoI (c : Nat) 1 K pc ls st M k n) := by
  show (_ ∧ _) = _
  simp only [eq_self, true_and] <;> rfl
theorem wE_istore (c : Nat) : wDec (.ok (.istore c, 2)) G pf own ini rt v mc ms ros Qr K Kc pc ls st M k n = (iStoI c 2 K pc ls st M k n) := by
  show (_ ∧ _) = _
  simp only [eq_self, true_and] <;> rfl
theorem wE_astore_n (c : Fin 4) : wDec (.ok (.astore_n c, 1)) G pf own ini rt v mc ms ros Qr K Kc pc ls st M k n = (iStoR (c : Nat) 1 K pc ls st M k n) := by
  show (_ ∧ _) = _
  simp only [eq_self, true_and] <;> rfl
theorem wE_astore (c : Nat) : wDec (.ok (.astore c, 2)) G pf own ini rt v mc ms ros Qr K Kc pc ls st M k n = (iStoR c 2 K pc ls st M k n) := by
  show (_ ∧ _) = _
  simp only [eq_self, true_and] <;> rfl
theorem wE_iinc (c : Nat) (d : Int) : wDec (.ok (.iinc c d, 3)) G pf own ini rt v mc ms ros Qr K Kc pc ls st M k n = (iInc (lg ls c) c (Int32.ofInt d) K pc ls st M k n) := by
  show (_ ∧ _) = _
  simp only [eq_self, true_and] <;> rfl
theorem wE_iadd : wDec (.ok (.iadd, 1)) G pf own ini rt v mc ms ros Qr K Kc pc ls st M k n = (iAdd K pc ls st M k n) := by
  show (_ ∧ _) = _
  simp only [eq_self, true_and] <;> rfl
theorem wE_isub : wDec (.ok (.isub, 1)) G pf own ini rt v mc ms ros Qr K Kc pc ls st M k n = (iSub K pc ls st M k n) := by
  show (_ ∧ _) = _
  simp only [eq_self, true_and] <;> rfl
theorem wE_imul : wDec (.ok (.imul, 1)) G pf own ini rt v mc ms ros Qr K Kc pc ls st M k n = (iMul K pc ls st M k n) := by
  show (_ ∧ _) = _
  simp only [eq_self, true_and] <;> rfl
theorem wE_idiv : wDec (.ok (.idiv, 1)) G pf own ini rt v mc ms ros Qr K Kc pc ls st M k n = (iDiv K pc ls st M k n) := by
  show (_ ∧ _) = _
  simp only [eq_self, true_and] <;> rfl
theorem wE_irem : wDec (.ok (.irem, 1)) G pf own ini rt v mc ms ros Qr K Kc pc ls st M k n = (iRem K pc ls st M k n) := by
  show (_ ∧ _) = _
  simp only [eq_self, true_and] <;> rfl
theorem wE_iand : wDec (.ok (.iand, 1)) G pf own ini rt v mc ms ros Qr K Kc pc ls st M k n = (iAnd K pc ls st M k n) := by
  show (_ ∧ _) = _
  simp only [eq_self, true_and] <;> rfl
theorem wE_ior : wDec (.ok (.ior, 1)) G pf own ini rt v mc ms ros Qr K Kc pc ls st M k n = (iOr K pc ls st M k n) := by
  show (_ ∧ _) = _
  simp only [eq_self, true_and] <;> rfl
theorem wE_ishr : wDec (.ok (.ishr, 1)) G pf own ini rt v mc ms ros Qr K Kc pc ls st M k n = (iShr K pc ls st M k n) := by
  show (_ ∧ _) = _
  simp only [eq_self, true_and] <;> rfl
theorem wE_pop : wDec (.ok (.pop, 1)) G pf own ini rt v mc ms ros Qr K Kc pc ls st M k n = (iPo K pc ls st M k n) := by
  show (_ ∧ _) = _
  simp only [eq_self, true_and] <;> rfl
theorem wE_ldc (c : Nat) : wDec (.ok (.ldc c, 2)) G pf own ini rt v mc ms ros Qr K Kc pc ls st M k n = (iLdi (jOf own c) K pc ls st M k n) := by
  show (_ ∧ _) = _
  simp only [eq_self, true_and] <;> rfl
theorem wE_ishl : wDec (.ok (.ishl, 1)) G pf own ini rt v mc ms ros Qr K Kc pc ls st M k n = (iShl K pc ls st M k n) := by
  show (_ ∧ _) = _
  simp only [eq_self, true_and] <;> rfl
theorem wE_iushr : wDec (.ok (.iushr, 1)) G pf own ini rt v mc ms ros Qr K Kc pc ls st M k n = (iUshr K pc ls st M k n) := by
  show (_ ∧ _) = _
  simp only [eq_self, true_and] <;> rfl
theorem wE_lushr : wDec (.ok (.lushr, 1)) G pf own ini rt v mc ms ros Qr K Kc pc ls st M k n = (iLushr K pc ls st M k n) := by
  show (_ ∧ _) = _
  simp only [eq_self, true_and] <;> rfl
theorem wE_lshl : wDec (.ok (.lshl, 1)) G pf own ini rt v mc ms ros Qr K Kc pc ls st M k n = (iLshl K pc ls st M k n) := by
  show (_ ∧ _) = _
  simp only [eq_self, true_and] <;> rfl
theorem wE_land : wDec (.ok (.land, 1)) G pf own ini rt v mc ms ros Qr K Kc pc ls st M k n = (iLand K pc ls st M k n) := by
  show (_ ∧ _) = _
  simp only [eq_self, true_and] <;> rfl
theorem wE_lor : wDec (.ok (.lor, 1)) G pf own ini rt v mc ms ros Qr K Kc pc ls st M k n = (iLor K pc ls st M k n) := by
  show (_ ∧ _) = _
  simp only [eq_self, true_and] <;> rfl
theorem wE_lcmp : wDec (.ok (.lcmp, 1)) G pf own ini rt v mc ms ros Qr K Kc pc ls st M k n = (iLcmp K pc ls st M k n) := by
  show (_ ∧ _) = _
  simp only [eq_self, true_and] <;> rfl
theorem wE_i2l : wDec (.ok (.i2l, 1)) G pf own ini rt v mc ms ros Qr K Kc pc ls st M k n = (iI2l K pc ls st M k n) := by
  show (_ ∧ _) = _
  simp only [eq_self, true_and] <;> rfl
theorem wE_l2i : wDec (.ok (.l2i, 1)) G pf own ini rt v mc ms ros Qr K Kc pc ls st M k n = (iL2i K pc ls st M k n) := by
  show (_ ∧ _) = _
  simp only [eq_self, true_and] <;> rfl
theorem wE_i2c : wDec (.ok (.i2c, 1)) G pf own ini rt v mc ms ros Qr K Kc pc ls st M k n = (iI2c K pc ls st M k n) := by
  show (_ ∧ _) = _
  simp only [eq_self, true_and] <;> rfl
theorem wE_dup : wDec (.ok (.dup, 1)) G pf own ini rt v mc ms ros Qr K Kc pc ls st M k n = (iDup K pc ls st M k n) := by
  show (_ ∧ _) = _
  simp only [eq_self, true_and] <;> rfl
theorem wE_dup2 : wDec (.ok (.dup2, 1)) G pf own ini rt v mc ms ros Qr K Kc pc ls st M k n = (iDup2 K pc ls st M k n) := by
  show (_ ∧ _) = _
  simp only [eq_self, true_and] <;> rfl
theorem wE_ifCond (c : Jvm.ClassFile.Cond) (off : Int) : wDec (.ok (.ifCond c off, 3)) G pf own ini rt v mc ms ros Qr K Kc pc ls st M k n = (iIf c off K pc ls st M k n) := by
  show (_ ∧ _) = _
  simp only [eq_self, true_and] <;> rfl
theorem wE_if_icmp (c : Jvm.ClassFile.Cond) (off : Int) : wDec (.ok (.if_icmp c off, 3)) G pf own ini rt v mc ms ros Qr K Kc pc ls st M k n = (iIfc c off K pc ls st M k n) := by
  show (_ ∧ _) = _
  simp only [eq_self, true_and] <;> rfl
theorem wE_goto (off : Int) (h : 0 ≤ (pc : Int) + off) : wDec (.ok (.goto off, 3)) G pf own ini rt v mc ms ros Qr K Kc pc ls st M k n = K ((pc : Int) + off).toNat ls st M k n := by
  show ((3 : Nat) = 3 ∧ 0 ≤ (pc : Int) + off ∧ K ((pc : Int) + off).toNat ls st M k n) = _
  simp [h]
theorem wE_getfield (c : Nat) : wDec (.ok (.getfield c, 3)) G pf own ini rt v mc ms ros Qr K Kc pc ls st M k n = (iGetf (fOf own c) K pc ls st M k n) := by
  show (_ ∧ _) = _
  simp only [eq_self, true_and] <;> rfl
theorem wE_putfield (c : Nat) : wDec (.ok (.putfield c, 3)) G pf own ini rt v mc ms ros Qr K Kc pc ls st M k n = (iPutf own ini (fOf own c) K pc ls st M k n) := by
  show (_ ∧ _) = _
  simp only [eq_self, true_and] <;> rfl
theorem wE_getstatic (c : Nat) : wDec (.ok (.getstatic c, 3)) G pf own ini rt v mc ms ros Qr K Kc pc ls st M k n = (iGets (sOf own c) K pc ls st M k n) := by
  show (_ ∧ _) = _
  simp only [eq_self, true_and] <;> rfl
theorem wE_baload : wDec (.ok (.baload, 1)) G pf own ini rt v mc ms ros Qr K Kc pc ls st M k n = iAl 11 K pc ls st M k n := by
  show ((1 : Nat) = 1 ∧ sIR st _) = sIR st _
  simp only [eq_self, true_and]
  congr 1
theorem wE_caload : wDec (.ok (.caload, 1)) G pf own ini rt v mc ms ros Qr K Kc pc ls st M k n = iAl 12 K pc ls st M k n := by
  show ((1 : Nat) = 1 ∧ sIR st _) = sIR st _
  simp only [eq_self, true_and]
  congr 1
theorem wE_iaload : wDec (.ok (.iaload, 1)) G pf own ini rt v mc ms ros Qr K Kc pc ls st M k n = (if pc ∈ ros then iAlr G K pc ls st M k n else iAl 10 K pc ls st M k n) := by
  show ((1 : Nat) = 1 ∧ (if pc ∈ ros then _ else sIR st _)) = (if pc ∈ ros then _ else sIR st _)
  simp only [eq_self, true_and]
  congr 2
theorem wE_aaload : wDec (.ok (.aaload, 1)) G pf own ini rt v mc ms ros Qr K Kc pc ls st M k n = iAq K pc ls st M k n := by
  show ((1 : Nat) = 1 ∧ sIR st _) = sIR st _
  simp only [eq_self, true_and]
  congr 1
theorem wE_iastore : wDec (.ok (.iastore, 1)) G pf own ini rt v mc ms ros Qr K Kc pc ls st M k n = iAsI K pc ls st M k n := by
  show ((1 : Nat) = 1 ∧ sIIR st _) = sIIR st _
  simp only [eq_self, true_and]
  congr 1
theorem wE_bastore : wDec (.ok (.bastore, 1)) G pf own ini rt v mc ms ros Qr K Kc pc ls st M k n = iAsZ K pc ls st M k n := by
  show ((1 : Nat) = 1 ∧ sIIR st _) = sIIR st _
  simp only [eq_self, true_and]
  congr 1
theorem wE_castore : wDec (.ok (.castore, 1)) G pf own ini rt v mc ms ros Qr K Kc pc ls st M k n = iAsC K pc ls st M k n := by
  show ((1 : Nat) = 1 ∧ sIIR st _) = sIIR st _
  simp only [eq_self, true_and]
  congr 1
theorem wE_aastore : wDec (.ok (.aastore, 1)) G pf own ini rt v mc ms ros Qr K Kc pc ls st M k n = iAt K pc ls st M k n := by
  show ((1 : Nat) = 1 ∧ sRIR st _) = sRIR st _
  simp only [eq_self, true_and]
  congr 1
theorem wE_arraylength : wDec (.ok (.arraylength, 1)) G pf own ini rt v mc ms ros Qr K Kc pc ls st M k n = (iLen G K pc ls st M k n) := by
  show (_ ∧ _) = _
  simp only [eq_self, true_and] <;> rfl
theorem wE_new (c : Nat) : wDec (.ok (.new c, 3)) G pf own ini rt v mc ms ros Qr K Kc pc ls st M k n = (iNew mc ms (nOf own c) K pc ls st M k n) := by
  show (_ ∧ _) = _
  simp only [eq_self, true_and] <;> rfl
theorem wE_newarray_int : wDec (.ok (.newarray .int, 2)) G pf own ini rt v mc ms ros Qr K Kc pc ls st M k n = iNwa mc ms 10 2 K pc ls st M k n := by
  show ((2 : Nat) = 2 ∧ s1i st _) = s1i st _
  simp only [eq_self, true_and]
  congr 1
  funext x r
  simp only [aKd, Nat.reduceLT, true_and]
theorem wE_newarray_boolean : wDec (.ok (.newarray .boolean, 2)) G pf own ini rt v mc ms ros Qr K Kc pc ls st M k n = iNwa mc ms 11 2 K pc ls st M k n := by
  show ((2 : Nat) = 2 ∧ s1i st _) = s1i st _
  simp only [eq_self, true_and]
  congr 1
  funext x r
  simp only [aKd, Nat.reduceLT, true_and]
theorem wE_newarray_char : wDec (.ok (.newarray .char, 2)) G pf own ini rt v mc ms ros Qr K Kc pc ls st M k n = iNwa mc ms 12 2 K pc ls st M k n := by
  show ((2 : Nat) = 2 ∧ s1i st _) = s1i st _
  simp only [eq_self, true_and]
  congr 1
  funext x r
  simp only [aKd, Nat.reduceLT, true_and]
theorem wE_anewarray (c : Nat) : wDec (.ok (.anewarray c, 3)) G pf own ini rt v mc ms ros Qr K Kc pc ls st M k n = iNwq mc ms (nOf own c) K pc ls st M k n := by
  show ((3 : Nat) = 3 ∧ wO (nOf own c) _) = wO (nOf own c) _
  simp only [eq_self, true_and]
  congr 1
  funext ci
  unfold s1i iNwa s1i
  split <;> simp
theorem wE_checkcast (c : Nat) : wDec (.ok (.checkcast c, 3)) G pf own ini rt v mc ms ros Qr K Kc pc ls st M k n = (iCk own c K pc ls st M k n) := by
  show (_ ∧ _) = _
  simp only [eq_self, true_and] <;> rfl
theorem wE_invokevirtual (c : Nat) : wDec (.ok (.invokevirtual c, 3)) G pf own ini rt v mc ms ros Qr K Kc pc ls st M k n = (iIv G pf v mc ms (cOf own c) K Kc pc ls st M k n) := by
  show (_ ∧ _) = _
  simp only [eq_self, true_and] <;> rfl
theorem wE_invokestatic (c : Nat) : wDec (.ok (.invokestatic c, 3)) G pf own ini rt v mc ms ros Qr K Kc pc ls st M k n = (iIs G pf v mc ms (cOf own c) K Kc pc ls st M k n) := by
  show (_ ∧ _) = _
  simp only [eq_self, true_and] <;> rfl
theorem wE_invokespecial (c : Nat) : wDec (.ok (.invokespecial c, 3)) G pf own ini rt v mc ms ros Qr K Kc pc ls st M k n = (iIp G v mc ms (cOf own c) K Kc pc ls st M k n) := by
  show (_ ∧ _) = _
  simp only [eq_self, true_and] <;> rfl
theorem wE_ireturn : wDec (.ok (.ireturn, 1)) G pf own ini rt v mc ms ros Qr K Kc pc ls st M k n = (iRet rt mc ms Qr st M k n) := by
  show (_ ∧ _) = _
  simp only [eq_self, true_and] <;> rfl
theorem wE_return_ : wDec (.ok (.return_, 1)) G pf own ini rt v mc ms ros Qr K Kc pc ls st M k n = (iRtv rt mc ms Qr st M k n) := by
  show (_ ∧ _) = _
  simp only [eq_self, true_and] <;> rfl
theorem wE_tableswitch (d lo hi : Int) (offs : Array Int) (len : Nat) : wDec (.ok (.tableswitch d lo hi offs, len)) G pf own ini rt v mc ms ros Qr K Kc pc ls st M k n = iSw d lo hi offs K pc ls st M k n := rfl
end EVAL
