/-! ===== a machine over ids: a heap is how many cells, what kind each is, its whole numbers, its references; cell i stands at address lo + i ===== -/
abbrev wMem : Type := Nat × (Nat → Option (Nat × Nat)) × (Nat → Nat → Int32) × (Nat → Nat → Option Nat)
abbrev wLs : Type := List (Option Value)
def wZ (M : wMem) : Nat := M.1
def wS (M : wMem) (a : Nat) : Option (Nat × Nat) := M.2.1 a
def wI (M : wMem) (a k : Nat) : Int32 := M.2.2.1 a k
def wP (M : wMem) (a k : Nat) : Option Nat := M.2.2.2 a k
def wSetI (M : wMem) (a k : Nat) (v : Int32) : wMem := (wZ M, wS M, fun q j => if q = a ∧ j = k then v else wI M q j, wP M)
def wSetP (M : wMem) (a k : Nat) (v : Option Nat) : wMem := (wZ M, wS M, wI M, fun q j => if q = a ∧ j = k then v else wP M q j)
def wCop (M : wMem) (a b sp dp n : Nat) : wMem := (wZ M, wS M, fun q j => if q = b then va_cpy (wI M a) (wI M b) sp dp n j else wI M q j, wP M)
def wNew (M : wMem) (kd n : Nat) (f : Nat → Int32) : wMem := (wZ M + 1, fun q => if q = wZ M then some (kd, n) else wS M q, fun q j => if q = wZ M then f j else wI M q j, fun q j => if q = wZ M then none else wP M q j)
/-! what stays for the whole run: launch, classes, array classes, first address, addresses of the rows that nobody writes, the script -/
abbrev wG : Type := Launch × va_G × (Nat → ClassId) × Nat × (Nat → Nat) × Nat × (Nat → Int32)
def gLn (G : wG) : Launch := G.1
def gD (G : wG) : va_G := G.2.1
def gCA (G : wG) : Nat → ClassId := G.2.2.1
def gLo (G : wG) : Nat := G.2.2.2.1
def gRa (G : wG) : Nat → Nat := G.2.2.2.2.1
def gN (G : wG) (a : Nat) : Nat := if a = 1000000 then G.2.2.2.2.2.1 else 6
def gRow (a : Nat) : List Int32 := if a = 1000001 then [100, 30, 2, 5, 5, 10] else if a = 1000002 then [10, 0, 0, 0, 0, 0] else [400, 200, 9, 60, 20, 50]
def gF (G : wG) (a j : Nat) : Int32 := if a = 1000000 then G.2.2.2.2.2.2 j else (gRow a).getD j 0
def gA (G : wG) : Nat → Prop := fun q => gLo G ≤ q
def gAd (G : wG) (i : Nat) : Nat := if i < 1000000 then gLo G + i else gRa G i
def rv (G : wG) : Value → Value
  | .ref i => .ref (gAd G i)
  | v => v
def wRf (r : Option Nat) : Value := match r with
  | none => .null
  | some i => .ref i
def wFs (G : wG) (ts : List Nat) (f : Nat → Int32) (g : Nat → Option Nat) : List Value := ts.zipIdx.map fun q => if q.1 = 2 then va_rf ((g q.2).map (gAd G)) else .int (f q.2)
def wKent (G : wG) (kd n : Nat) (f : Nat → Int32) (g : Nat → Option Nat) : va_E := if kd < 10 then .inr (kd, wFs G (tcs kd) f g) else if kd < 13 then .inl (gCA G kd, n, .inl f) else .inl (gCA G kd, n, .inr (.inr (.inr (.inr (fun j => (g j).map (gAd G))))))
def wEnt (G : wG) (M : wMem) (i : Nat) : va_E := match wS M i with
  | some (kd, n) => wKent G kd n (wI M i) (wP M i)
  | none => .inl (0, 0, .inl fun _ => 0)
def wWs (G : wG) (M : wMem) : va_W := (List.range (wZ M)).map fun i => (gLo G + i, wEnt G M i)
def wHp (G : wG) (M : wMem) (H : Heap) : Prop := wZ M < 1000000 ∧ (∀ a kd n, wS M a = some (kd, n) → a < wZ M ∧ kd < 16) ∧ va_P (gD G) cl9 (wWs G M) H
def aTy (kd : Nat) : FieldType := match kd with
  | 10 => .int
  | 11 => .boolean
  | 12 => .char
  | 13 => .object RX5
  | 14 => .object RX4
  | _ => .object RX6
def wTys (G : wG) : List (ClassId × FieldType) := [(gCA G 10, .int), (gCA G 11, .boolean), (gCA G 12, .char), (gCA G 13, .object RX5), (gCA G 14, .object RX4), (gCA G 15, .object RX6)]
def sNm (a : Nat) : String := if a = 1000001 then "FIRST" else if a = 1000002 then "LOWEST" else "HIGHEST"
/-- what a state gives besides the cells: the classes, the rows that nobody writes, the statics, the links of nest mates -/
def wEnv (G : wG) (U : State) : Prop := va_K (gD G) cl9 (wTys G) U
  ∧ (∀ a, 1000000 ≤ a → a < 1000004 → gRa G a < gLo G ∧ va_X (gRa G a) (gN G a) (gF G a) U U.heap)
  ∧ (∀ a, 1000001 ≤ a → a < 1000004 → va_Z RX7 (sNm a) "[I" (.ref (gRa G a)) (gA G) U U.heap)
  ∧ (∀ cell, U.heap[gRa G 1000001]? = some cell → cell.cls = gCA G 10)
  ∧ (∀ kd, 13 ≤ kd → kd < 16 → ∀ C, aTy kd = .object C → va_AO C U)
  ∧ (∀ o i kd z na lv ci, cOf o i = some (kd, z, na, lv, ci) → kd = 3 ∨ kd = 4 → va_Nw (.methodLinkNest (RXn o) i (mOf z).1 RX7) U)
  ∧ (∀ o i a, sOf o i = some (a, true) → va_Nw (.fieldLinkNest (RXn o) i RX7 (sNm a) "[I" RX7) U)
  ∧ va_Nw (.castable "[I" "java/lang/Cloneable") U
def wU : List Cond := lw_tbl.filter goodWord
def wRm (v mc ms : Nat) : Room := { frames := v, cells := mc, slots := ms, locals := 43 * v }
def wMws (z : Nat) : List Cond := .code (mOf z).1 (mOf z).2.1 (mOf z).2.2.1 (mOf z).2.2.2.1 :: wU
/-! a method's contract over memories -/
def wPc (G : wG) (As : List Value) (M : wMem) : Array Value → State → Prop := fun v U => v = (As.map (rv G)).toArray ∧ U.heap.size = gLo G + wZ M ∧ wHp G M U.heap ∧ wEnv G U
def wQc (G : wG) (Q : Option Value → wMem → Prop) (z0 : Nat) : Array Value → State → Outcome → State → Prop := fun _ st o t => (∃ r M', o = .returned (r.map (rv G)) ∧ Q r M' ∧ wHp G M' t.heap ∧ wZ M' = z0) ∧ va_F (gA G) st t
def CT (G : wG) (z mc ms : Nat) (As : List Value) (M : wMem) (Q : Option Value → wMem → Prop) : Prop :=
  Met (gLn G) (mOf z).1 (wMws z) (wRm (mOf z).2.2.2.2 mc ms) (wPc G As M) (wQc G Q (wZ M + mc)) mc ms (gA G)
/-! the symbolic step -/
def lg : wLs → Nat → Option Value
  | [], _ => none
  | x :: _, 0 => x
  | _ :: r, n + 1 => lg r n
def wNl (x : Option Value) : Bool := match x with
  | some (.long _) => false
  | some (.double _) => false
  | _ => true
def wCat : List Value → Nat
  | [] => 0
  | v :: r => v.category + wCat r
def wO {α : Type} (o : Option α) (f : α → Prop) : Prop := match o with
  | some x => f x
  | none => False
def wLi (x : Option Value) (f : Int32 → Prop) : Prop := match x with
  | some (.int x) => f x
  | _ => False
def wLl (x : Option Value) (f : Int64 → Prop) : Prop := match x with
  | some (.long x) => f x
  | _ => False
def wLr (x : Option Value) (f : Nat → Prop) : Prop := match x with
  | some (.ref x) => f x
  | _ => False
def s1i (st : List Value) (f : Int32 → List Value → Prop) : Prop := match st with
  | .int x :: r => f x r
  | _ => False
def s2i (st : List Value) (f : Int32 → Int32 → List Value → Prop) : Prop := match st with
  | .int y :: .int x :: r => f x y r
  | _ => False
def s1l (st : List Value) (f : Int64 → List Value → Prop) : Prop := match st with
  | .long x :: r => f x r
  | _ => False
def s2l (st : List Value) (f : Int64 → Int64 → List Value → Prop) : Prop := match st with
  | .long y :: .long x :: r => f x y r
  | _ => False
def s1r (st : List Value) (f : Nat → List Value → Prop) : Prop := match st with
  | .ref a :: r => f a r
  | _ => False
def sIR (st : List Value) (f : Int32 → Nat → List Value → Prop) : Prop := match st with
  | .int i :: .ref a :: r => f i a r
  | _ => False
def sIIR (st : List Value) (f : Int32 → Int32 → Nat → List Value → Prop) : Prop := match st with
  | .int x :: .int i :: .ref a :: r => f x i a r
  | _ => False
def sRIR (st : List Value) (f : Nat → Int32 → Nat → List Value → Prop) : Prop := match st with
  | .ref v :: .int i :: .ref a :: r => f v i a r
  | _ => False
def sVR (st : List Value) (f : Value → Nat → List Value → Prop) : Prop := match st with
  | v :: .ref a :: r => f v a r
  | _ => False
def wVi (v : Value) (f : Int32 → Prop) : Prop := match v with
  | .int x => f x
  | _ => False
def wVr (v : Value) (f : Nat → Prop) : Prop := match v with
  | .ref x => f x
  | _ => False
def sLI (st : List Value) (f : Int64 → Int32 → List Value → Prop) : Prop := match st with
  | .int y :: .long x :: r => f x y r
  | _ => False
def s1v (st : List Value) (f : Value → List Value → Prop) : Prop := match st with
  | v :: r => f v r
  | _ => False
def s2v (st : List Value) (f : Value → Value → List Value → Prop) : Prop := match st with
  | v :: w :: r => f v w r
  | _ => False
def s1e (st : List Value) (f : Int32 → Prop) : Prop := match st with
  | [.int x] => f x
  | _ => False
def s0e (st : List Value) (f : Prop) : Prop := match st with
  | [] => f
  | _ => False
def sCop (st : List Value) (f : Int32 → Int32 → Nat → Int32 → Nat → List Value → Prop) : Prop := match st with
  | .int n :: .int dp :: .ref a :: .int sp :: .ref a0 :: r => f n dp a sp a0 r
  | _ => False
def wPop : Nat → List Value → List Value → (List Value → List Value → Prop) → Prop
  | 0, st, As, f => f As st
  | n + 1, st, As, f => match st with
    | v :: r => wPop n r (v :: As) f
    | [] => False
def wOb (M : wMem) (a ci : Nat) : Prop := wS M a = some (ci, 0)
def wAr (M : wMem) (a kd : Nat) (f : Nat → Prop) : Prop := match wS M a with
  | some (k, n) => k = kd ∧ f n
  | none => False
def wAq (M : wMem) (a : Nat) (f : Nat → Nat → Prop) : Prop := match wS M a with
  | some (k, n) => 13 ≤ k ∧ k < 16 ∧ f k n
  | none => False
def eCl (kd : Nat) : Nat := match kd with
  | 13 => 5
  | 14 => 4
  | _ => 6
def eKd (ci : Nat) : Nat := match ci with
  | 5 => 13
  | 4 => 14
  | 6 => 15
  | _ => 0
def wCnd (c : Jvm.ClassFile.Cond) (x y : Int32) : Prop := match c with
  | .eq => x = y
  | .ne => ¬ x = y
  | .lt => x < y
  | .ge => y ≤ x
  | .gt => y < x
  | .le => x ≤ y
def wBt (rt : Option FieldType) (x : Int32) : Prop := rt = some .int ∨ (rt = some .boolean ∧ (x = 0 ∨ x = 1))
def wSwA : List Int → Int → Int32 → (Int → Prop) → Prop
  | [], _, _, _ => True
  | o :: t, v, x, f => (x = Int32.ofInt v → f o) ∧ wSwA t (v + 1) x f
def aKd (t : ArrayType) : Nat := match t with
  | .int => 10
  | .boolean => 11
  | .char => 12
  | _ => 99
def wJ (pc : Nat) (off : Int) (f : Nat → Prop) : Prop := 0 ≤ (pc : Int) + off ∧ f ((pc : Int) + off).toNat
abbrev wKt : Type := Nat → wLs → List Value → wMem → Nat → Nat → Prop
abbrev wPft : Type := Nat → List Value → wMem → Option (Prop × Option Value × wMem)
def wCall (G : wG) (pf : wPft) (K Kc : wKt) (z : Nat) (As rest : List Value) (pc : Nat) (ls : wLs) (M : wMem) (k n : Nat) : Prop := match pf z As M with
  | some (g, o, M2) => g ∧ K (pc + 3) ls (o.toList ++ rest) M2 k n
  | none => CT G z 0 0 As M (fun o M' => Kc (pc + 3) ls (o.toList ++ rest) M' k n)
def wIv (G : wG) (pf : wPft) (v mc ms : Nat) (K Kc : wKt) (q : Nat × Nat × Nat × Nat × Nat) (pc : Nat) (ls : wLs) (st : List Value) (M : wMem) (k n : Nat) : Prop :=
  if q.1 = 5 then 1 ≤ v ∧ wZ M < 99999 ∧ k + 1 ≤ mc ∧ n + 6 ≤ ms ∧ s1r st fun a r => a = 1000001 ∧ wCat r ≤ 8 ∧ K (pc + 3) ls (.ref (wZ M) :: r) (wNew M 10 6 (gF G a)) (k + 1) (n + 6)
  else q.1 = 0 ∧ q.2.2.2.1 < v ∧ wPop q.2.2.1 st [] fun As st' => s1r st' fun b r => wOb M b q.2.2.2.2 ∧ wCat r ≤ 8 ∧ wCall G pf K Kc q.2.1 (.ref b :: As) r pc ls M k n
def wIs (G : wG) (pf : wPft) (v : Nat) (K Kc : wKt) (q : Nat × Nat × Nat × Nat × Nat) (pc : Nat) (ls : wLs) (st : List Value) (M : wMem) (k n : Nat) : Prop :=
  if q.1 = 7 then 1 ≤ v ∧ s2i st fun x y r => wCat r ≤ 8 ∧ K (pc + 3) ls (.int (if x < y then y else x) :: r) M k n
  else if q.1 = 8 then 1 ≤ v ∧ s2i st fun x y r => wCat r ≤ 8 ∧ K (pc + 3) ls (.int (if y < x then y else x) :: r) M k n
  else if q.1 = 9 then 1 ≤ v ∧ sCop st fun len dp b sp a r => wCat r ≤ 8 ∧ wAr M a 10 fun n0 => wAr M b 10 fun n1 => ¬ sp < 0 ∧ ¬ dp < 0 ∧ ¬ len < 0 ∧ sp.toNatClampNeg + len.toNatClampNeg ≤ n0 ∧ dp.toNatClampNeg + len.toNatClampNeg ≤ n1 ∧ K (pc + 3) ls r (wCop M a b sp.toNatClampNeg dp.toNatClampNeg len.toNatClampNeg) k n
  else (q.1 = 1 ∨ q.1 = 4) ∧ q.2.2.2.1 < v ∧ wPop q.2.2.1 st [] fun As r => wCat r ≤ 8 ∧ wCall G pf K Kc q.2.1 As r pc ls M k n
def wIp (G : wG) (v mc ms : Nat) (K Kc : wKt) (q : Nat × Nat × Nat × Nat × Nat) (pc : Nat) (ls : wLs) (st : List Value) (M : wMem) (k n : Nat) : Prop :=
  if q.1 = 6 then 1 ≤ v ∧ s1r st fun _ r => wCat r ≤ 8 ∧ K (pc + 3) ls r M k n
  else (q.1 = 2 ∨ q.1 = 3) ∧ q.2.2.2.1 < v ∧ wPop q.2.2.1 st [] fun As st' => s1r st' fun b r => wCat r ≤ 8 ∧
    ∃ mc' ms', k + mc' ≤ mc ∧ n + ms' ≤ ms ∧ CT G q.2.1 mc' ms' (.ref b :: As) M (fun o M' => Kc (pc + 3) ls (o.toList ++ r) M' (k + mc') (n + ms'))
def wSem (G : wG) (pf : wPft) (own : Nat) (ini : Bool) (rt : Option FieldType) (v mc ms : Nat) (ros : List Nat) (Qr : Option Value → wMem → Prop) (K Kc : wKt)
    (i : Instr) (len : Nat) (pc : Nat) (ls : wLs) (st : List Value) (M : wMem) (k n : Nat) : Prop :=
  match i with
  | .iconst c => len = 1 ∧ K (pc + 1) ls (.int (Int32.ofInt c) :: st) M k n
  | .bipush c => len = 2 ∧ K (pc + 2) ls (.int (Int8.ofInt c).toInt32 :: st) M k n
  | .sipush c => len = 3 ∧ K (pc + 3) ls (.int (Int16.ofInt c).toInt32 :: st) M k n
  | .lconst c => len = 1 ∧ K (pc + 1) ls (.long (Int64.ofNat (c : Nat)) :: st) M k n
  | .ldc2_w c => len = 3 ∧ wO (lOf own c) fun x => K (pc + 3) ls (.long x :: st) M k n
  | .iload_n c => len = 1 ∧ wLi (lg ls (c : Nat)) fun x => K (pc + 1) ls (.int x :: st) M k n
  | .iload c => len = 2 ∧ wLi (lg ls c) fun x => K (pc + 2) ls (.int x :: st) M k n
  | .lload_n c => len = 1 ∧ wLl (lg ls (c : Nat)) fun x => K (pc + 1) ls (.long x :: st) M k n
  | .aload_n c => len = 1 ∧ wLr (lg ls (c : Nat)) fun x => K (pc + 1) ls (.ref x :: st) M k n
  | .aload c => len = 2 ∧ wLr (lg ls c) fun x => K (pc + 2) ls (.ref x :: st) M k n
  | .istore_n c => len = 1 ∧ (c : Nat) < ls.length ∧ wNl (lg ls ((c : Nat) - 1)) = true ∧ s1i st fun x r => K (pc + 1) (ls.set (c : Nat) (some (.int x))) r M k n
  | .istore c => len = 2 ∧ c < ls.length ∧ wNl (lg ls (c - 1)) = true ∧ s1i st fun x r => K (pc + 2) (ls.set c (some (.int x))) r M k n
  | .astore_n c => len = 1 ∧ (c : Nat) < ls.length ∧ wNl (lg ls ((c : Nat) - 1)) = true ∧ s1r st fun x r => K (pc + 1) (ls.set (c : Nat) (some (.ref x))) r M k n
  | .astore c => len = 2 ∧ c < ls.length ∧ wNl (lg ls (c - 1)) = true ∧ s1r st fun x r => K (pc + 2) (ls.set c (some (.ref x))) r M k n
  | .iinc c d => len = 3 ∧ c < ls.length ∧ wNl (lg ls (c - 1)) = true ∧ wLi (lg ls c) fun x => K (pc + 3) (ls.set c (some (.int (x + Int32.ofInt d)))) st M k n
  | .iadd => len = 1 ∧ s2i st fun x y r => K (pc + 1) ls (.int (x + y) :: r) M k n
  | .isub => len = 1 ∧ s2i st fun x y r => K (pc + 1) ls (.int (x - y) :: r) M k n
  | .imul => len = 1 ∧ s2i st fun x y r => K (pc + 1) ls (.int (x * y) :: r) M k n
  | .idiv => len = 1 ∧ s2i st fun x y r => ¬ y = 0 ∧ K (pc + 1) ls (.int (x / y) :: r) M k n
  | .irem => len = 1 ∧ s2i st fun x y r => ¬ y = 0 ∧ K (pc + 1) ls (.int (x - x / y * y) :: r) M k n
  | .iand => len = 1 ∧ s2i st fun x y r => K (pc + 1) ls (.int (x &&& y) :: r) M k n
  | .ior => len = 1 ∧ s2i st fun x y r => K (pc + 1) ls (.int (x ||| y) :: r) M k n
  | .ishl => len = 1 ∧ s2i st fun x y r => K (pc + 1) ls (.int (x <<< (y &&& 31)) :: r) M k n
  | .ishr => len = 1 ∧ s2i st fun x y r => K (pc + 1) ls (.int (x >>> (y &&& 31)) :: r) M k n
  | .pop => len = 1 ∧ s1v st fun x r => x.category = 1 ∧ K (pc + 1) ls r M k n
  | .ldc c => len = 2 ∧ wO (jOf own c) fun x => K (pc + 2) ls (.int x :: st) M k n
  | .iushr => len = 1 ∧ s2i st fun x y r => K (pc + 1) ls (.int (x.toUInt32 >>> (y.toUInt32 &&& Int32.toUInt32 31)).toInt32 :: r) M k n
  | .lushr => len = 1 ∧ sLI st fun x y r => K (pc + 1) ls (.long (x.toUInt64 >>> (y.toInt64.toUInt64 &&& Int64.toUInt64 63)).toInt64 :: r) M k n
  | .lshl => len = 1 ∧ sLI st fun x y r => K (pc + 1) ls (.long (x <<< (y.toInt64 &&& 63)) :: r) M k n
  | .land => len = 1 ∧ s2l st fun x y r => K (pc + 1) ls (.long (x &&& y) :: r) M k n
  | .lor => len = 1 ∧ s2l st fun x y r => K (pc + 1) ls (.long (x ||| y) :: r) M k n
  | .lcmp => len = 1 ∧ s2l st fun x y r => K (pc + 1) ls (.int (lg_cmp x y) :: r) M k n
  | .i2l => len = 1 ∧ s1i st fun x r => K (pc + 1) ls (.long x.toInt64 :: r) M k n
  | .l2i => len = 1 ∧ s1l st fun x r => K (pc + 1) ls (.int x.toInt32 :: r) M k n
  | .i2c => len = 1 ∧ s1i st fun x r => K (pc + 1) ls (.int (x.toUInt32 % 65536).toInt32 :: r) M k n
  | .dup => len = 1 ∧ s1v st fun x r => x.category = 1 ∧ K (pc + 1) ls (x :: x :: r) M k n
  | .dup2 => len = 1 ∧ s2v st fun x y r => x.category = 1 ∧ y.category = 1 ∧ K (pc + 1) ls (x :: y :: x :: y :: r) M k n
  | .ifCond c off => len = 3 ∧ 0 ≤ (pc : Int) + off ∧ s1i st fun x r => (wCnd c x 0 → K ((pc : Int) + off).toNat ls r M k n) ∧ (¬ wCnd c x 0 → K (pc + 3) ls r M k n)
  | .if_icmp c off => len = 3 ∧ 0 ≤ (pc : Int) + off ∧ s2i st fun x y r => (wCnd c x y → K ((pc : Int) + off).toNat ls r M k n) ∧ (¬ wCnd c x y → K (pc + 3) ls r M k n)
  | .goto off => len = 3 ∧ wJ pc off fun t => K t ls st M k n
  | .tableswitch d lo hi offs => s1i st fun x r => (offs.toList.length : Int) = hi - lo + 1 ∧ (x.toInt < lo ∨ hi < x.toInt → wJ pc d fun t => K t ls r M k n) ∧ wSwA offs.toList lo x (fun o => wJ pc o fun t => K t ls r M k n)
  | .getfield c => len = 3 ∧ wO (fOf own c) fun q => s1r st fun a r => wOb M a q.1 ∧ (if q.2.2.1 = 2 then K (pc + 3) ls (wRf (wP M a q.2.1) :: r) M k n else K (pc + 3) ls (.int (wI M a q.2.1) :: r) M k n)
  | .putfield c => len = 3 ∧ wO (fOf own c) fun q => sVR st fun w a r => wOb M a q.1 ∧ (q.2.2.2 = true → ini = true ∧ own = q.1) ∧
      (if q.2.2.1 = 2 then wVr w fun b => K (pc + 3) ls r (wSetP M a q.2.1 (some b)) k n else wVi w fun x => (q.2.2.1 = 1 → x = 0 ∨ x = 1) ∧ K (pc + 3) ls r (wSetI M a q.2.1 x) k n)
  | .getstatic c => len = 3 ∧ wO (sOf own c) fun q => K (pc + 3) ls (.ref q.1 :: st) M k n
  | .iaload => len = 1 ∧ (if pc ∈ ros then sIR st fun i a r => 1000000 ≤ a ∧ a < 1000004 ∧ vp_in i (gN G a) ∧ K (pc + 1) ls (.int (gF G a i.toNatClampNeg) :: r) M k n
      else sIR st fun i a r => wAr M a 10 fun l => vp_in i l ∧ K (pc + 1) ls (.int (wI M a i.toNatClampNeg) :: r) M k n)
  | .baload => len = 1 ∧ sIR st fun i a r => wAr M a 11 fun l => vp_in i l ∧ K (pc + 1) ls (.int (wI M a i.toNatClampNeg) :: r) M k n
  | .caload => len = 1 ∧ sIR st fun i a r => wAr M a 12 fun l => vp_in i l ∧ K (pc + 1) ls (.int (wI M a i.toNatClampNeg) :: r) M k n
  | .aaload => len = 1 ∧ sIR st fun i a r => wAq M a fun _ l => vp_in i l ∧ K (pc + 1) ls (wRf (wP M a i.toNatClampNeg) :: r) M k n
  | .iastore => len = 1 ∧ sIIR st fun x i a r => wAr M a 10 fun l => vp_in i l ∧ K (pc + 1) ls r (wSetI M a i.toNatClampNeg x) k n
  | .bastore => len = 1 ∧ sIIR st fun x i a r => wAr M a 11 fun l => vp_in i l ∧ K (pc + 1) ls r (wSetI M a i.toNatClampNeg (vp_nar .boolean x)) k n
  | .castore => len = 1 ∧ sIIR st fun x i a r => wAr M a 12 fun l => vp_in i l ∧ K (pc + 1) ls r (wSetI M a i.toNatClampNeg (vp_nar .char x)) k n
  | .aastore => len = 1 ∧ sRIR st fun w i a r => wAq M a fun kd l => wOb M w (eCl kd) ∧ vp_in i l ∧ K (pc + 1) ls r (wSetP M a i.toNatClampNeg (some w)) k n
  | .arraylength => len = 1 ∧ s1r st fun a r => a = 1000000 ∧ K (pc + 1) ls (.int (Int32.ofNat (gN G a)) :: r) M k n
  | .new c => len = 3 ∧ wO (nOf own c) fun ci => wZ M < 99999 ∧ k + 1 ≤ mc ∧ n + NXn ci ≤ ms ∧ K (pc + 3) ls (.ref (wZ M) :: st) (wNew M ci 0 (fun _ => 0)) (k + 1) (n + NXn ci)
  | .newarray t => len = 2 ∧ s1i st fun x r => aKd t < 13 ∧ ¬ x < 0 ∧ x.toNatClampNeg ≤ 100000 ∧ wZ M < 99999 ∧ k + 1 ≤ mc ∧ n + x.toNatClampNeg ≤ ms ∧ K (pc + 2) ls (.ref (wZ M) :: r) (wNew M (aKd t) x.toNatClampNeg (fun _ => 0)) (k + 1) (n + x.toNatClampNeg)
  | .anewarray c => len = 3 ∧ wO (nOf own c) fun ci => s1i st fun x r => 13 ≤ eKd ci ∧ ¬ x < 0 ∧ x.toNatClampNeg ≤ 100000 ∧ wZ M < 99999 ∧ k + 1 ≤ mc ∧ n + x.toNatClampNeg ≤ ms ∧ K (pc + 3) ls (.ref (wZ M) :: r) (wNew M (eKd ci) x.toNatClampNeg (fun _ => 0)) (k + 1) (n + x.toNatClampNeg)
  | .checkcast c => len = 3 ∧ (own, c) ∈ kTab ∧ s1r st fun a r => wAr M a 10 fun _ => K (pc + 3) ls (.ref a :: r) M k n
  | .invokevirtual c => len = 3 ∧ k ≤ mc ∧ n ≤ ms ∧ wO (cOf own c) fun q => wIv G pf v mc ms K Kc q pc ls st M k n
  | .invokestatic c => len = 3 ∧ k ≤ mc ∧ n ≤ ms ∧ wO (cOf own c) fun q => wIs G pf v K Kc q pc ls st M k n
  | .invokespecial c => len = 3 ∧ wO (cOf own c) fun q => wIp G v mc ms K Kc q pc ls st M k n
  | .ireturn => len = 1 ∧ k = mc ∧ n = ms ∧ s1e st fun x => wBt rt x ∧ Qr (some (.int x)) M
  | .return_ => len = 1 ∧ k = mc ∧ n = ms ∧ s0e st (rt = none ∧ Qr none M)
  | _ => False
def wStep (G : wG) (pf : wPft) (own : Nat) (ini : Bool) (rt : Option FieldType) (v mc ms : Nat) (ros : List Nat) (cc : ByteArray) (Qr : Option Value → wMem → Prop) (K Kc : wKt) (pc : Nat) (ls : wLs) (st : List Value) (M : wMem) (k n : Nat) : Prop :=
  match decode cc pc with
  | .ok (i, len) => wSem G pf own ini rt v mc ms ros Qr K Kc i len pc ls st M k n
  | _ => False
/-! what it means: from this place, in any run of the method, the machine comes to the method's end -/
def wRet (cc : ByteArray) (pc : Nat) (rt : Option FieldType) (o : Option Value) : Prop := (∃ x, o = some (.int x) ∧ decode cc pc = .ok (.ireturn, 1) ∧ wBt rt x) ∨ (o = none ∧ rt = none ∧ decode cc pc = .ok (.return_, 1))
def wLv (G : wG) (nL : Nat) (lsA : Array Slot) (ls : wLs) : Prop := lsA.size = nL ∧ ls.length ≤ nL ∧ lv_wf lsA ∧ ∀ i w, lg ls i = some w → lsA[i]? = some (.val (rv G w))
def wCtx (G : wG) (own : Nat) (ini : Bool) (rt : Option FieldType) (v mc ms : Nat) (cc : ByteArray) (Qr : Option Value → wMem → Prop)
    (p : Program) (e : Env) (R : Room) (s : State) (m : MethodId) (args : Array Value) (below : List Frame) (meth : Method) (c : Code) (Z : State → Prop) : Prop :=
  p.tables.exec = Jvm.exec ∧ c.code = cc ∧ s.vm.findClass (RXn own) = some m.cls ∧ (∀ w ∈ wU, w.before args s = true) ∧ wEnv G s ∧ (ini = true → meth.name = "<init>")
  ∧ (∀ (o : Option Value) (M : wMem) (H : Heap) (locs : List Loc) (pc : Nat) (lsA : Array Slot), Qr o M → wHp G M H → va_S (gA G) s.heap H locs → s.heap.size + mc = gLo G + wZ M → wRet cc pc rt o →
      W p (gLn G) e R s m args below meth c H locs mc ms Z (F0 m pc lsA (o.toList.map (rv G))))
  ∧ gLo G ≤ s.heap.size ∧ v ≤ R.frames ∧ 43 * v ≤ R.locals ∧ mc ≤ R.cells ∧ ms ≤ R.slots
def wAt (G : wG) (p : Program) (e : Env) (R : Room) (s : State) (m : MethodId) (args : Array Value) (below : List Frame) (meth : Method) (c : Code) (Z : State → Prop) (pc : Nat) (ls : wLs) (st : List Value) (M : wMem) (k n : Nat) : Prop :=
  ∀ (H : Heap) (locs : List Loc) (lsA : Array Slot), wLv G c.maxLocals lsA ls → wHp G M H → va_S (gA G) s.heap H locs → s.heap.size + k = gLo G + wZ M →
    W p (gLn G) e R s m args below meth c H locs k n Z (F0 m pc lsA (st.map (rv G)))
def wp (G : wG) (own : Nat) (ini : Bool) (rt : Option FieldType) (v mc ms : Nat) (cc : ByteArray) (Qr : Option Value → wMem → Prop) (pc : Nat) (ls : wLs) (st : List Value) (M : wMem) (k n : Nat) : Prop :=
  ∀ (p : Program) (e : Env) (R : Room) (s : State) (m : MethodId) (args : Array Value) (below : List Frame) (meth : Method) (c : Code) (Z : State → Prop), wCtx G own ini rt v mc ms cc Qr p e R s m args below meth c Z →
    wAt G p e R s m args below meth c Z pc ls st M k n
def wRun (G : wG) (pf : wPft) (own : Nat) (ini : Bool) (rt : Option FieldType) (v mc ms : Nat) (ros stops : List Nat) (cc : ByteArray) (Qr : Option Value → wMem → Prop) : Nat → Nat → wLs → List Value → wMem → Nat → Nat → Prop
  | 0, pc, ls, st, M, k, n => wp G own ini rt v mc ms cc Qr pc ls st M k n
  | f + 1, pc, ls, st, M, k, n => if pc ∈ stops then wp G own ini rt v mc ms cc Qr pc ls st M k n
      else wStep G pf own ini rt v mc ms ros cc Qr (wRun G pf own ini rt v mc ms ros stops cc Qr f) (wp G own ini rt v mc ms cc Qr) pc ls st M k n
def wPfOk (G : wG) (pf : wPft) : Prop := ∀ z As M g o M2, pf z As M = some (g, o, M2) → g → CT G z 0 0 As M (fun o' M' => o' = o ∧ M' = M2)
