theorem seg_v (v : Nat → Int32) (n : Nat) (h : Nat → Int32) (K : Nat) {j : Nat} (hj : n ≤ j) : segN n h v K j = v j := by simp only [segN]; rw [if_neg (by omega)]
def undoM (M : wMem) : wMem := wSetF (wSetF M 252 (up1 (wI M 252) 2 (nI (mK M - 1)))) 253 (segN 828 (wI M 254) (wI M 253) (mK M - 1))
def saveM (M : wMem) (i : Nat) : wMem := wSetF (wSetF M 255 (hPut 828 (wI M 255) (wI M 253) i)) 256 (up1 (wI M 256) i 1)
theorem vp_nb1 : vp_nar .boolean 1 = 1 := rfl
def restM (M : wMem) (i : Nat) : wMem := wSetF (recM M) 253 (segN 828 (wI M 255) (wI M 253) i)
def qRest (v sl sv : Nat → Int32) (a : Int32) : Int32 := if inB a 0 1 = true then (if sv a.toNatClampNeg = 0 then -5 else segN 828 sl v a.toNatClampNeg 6) else -2