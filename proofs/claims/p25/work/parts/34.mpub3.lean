def qCount (v : Nat → Int32) (len kept x : Int32) : Int32 :=
  if inB x 0 6 = true then v x.toNatClampNeg
  else if inB x 7 10 = true then nI (cntP (fun k => decide (wK v k = x - 7)) (nW v))
  else if x = 11 then v 7 else if x = 12 then v 8 else if x = 13 then v 9 else if x = 14 then v 10
  else if x = 15 then sumF (sT v) 6 else if x = 16 then len else if x = 17 then kept else -2
def qLack (v : Nat → Int32) (w : Int32) : Int32 := if isW v w = true then (if v (36 + 6 * w.toNatClampNeg) = 1 then mLck v w.toNatClampNeg else -5) else -1
def trUp (u t : Int32) : Int32 := if 100 < t + u then 100 else t + u
def ansL (u : Int32) : Nat → Nat → Int32 → Int32 → Int32
  | 0, _, _, _ => -6
  | f + 1, n, l, t => if 0 < l - t then ansL u f (n + 1) (l - t) (trUp u t) else nI n
def qAns (v : Nat → Int32) (s w : Int32) : Int32 :=
  if inB s 0 5 = true ∧ isW v w = true then (if v (36 + 6 * w.toNatClampNeg) = 1 then ansL (v 4) 100 1 (mLck v w.toNatClampNeg) (v (12 + 4 * s.toNatClampNeg)) else -5) else -1
def qIf (v : Nat → Int32) (s w x : Int32) : Int32 :=
  if inB s 0 5 = true ∧ isW v w = true then
    if inB x 1 60 = true then
      if v (36 + 6 * w.toNatClampNeg) = 1 ∧ ¬ v (40 + 6 * w.toNatClampNeg) = 0 then
        if mAgr v w.toNatClampNeg (mWt v w + v (12 + 4 * s.toNatClampNeg)) (mLo v w + v (12 + 4 * s.toNatClampNeg)) = true then mBec v (v (40 + 6 * w.toNatClampNeg) + 1) (v (41 + 6 * w.toNatClampNeg) + x) else 1
      else -5
    else -2
  else -1