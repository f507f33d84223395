def tlL (f : Nat → Int32) (L : Nat) : Nat → pS → Int32 → pS × Int32
  | 0, s, c => (s, c)
  | n + 1, s, c => if nx f L s 97 122 = true then tlL f L n (tk f L s 97 122) (27 * c + 1 + (tkC f L s - 97)) else (s, c)
def tl (f : Nat → Int32) (L : Nat) (s : pS) : pS × Int32 := tlL f L 5 (tk f L s 97 122) (1 + (tkC f L s - 97))
def tw (f : Nat → Int32) (L : Nat) (s : pS) : pS × Int32 :=
  if tkC f L s - 48 = 1 ∧ nx f L (tk f L s 48 57) 48 49 = true then (tk f L (tk f L s 48 57) 48 49, 10 + (tkC f L (tk f L s 48 57) - 48)) else (tk f L s 48 57, tkC f L s - 48)
def tsM (f : Nat → Int32) (L : Nat) (s : pS) (v : Int32) : Bool := decide ((v < 6 ∧ nx f L s 48 57 = true) ∨ (v = 6 ∧ nx f L s 48 48 = true))
def ts (f : Nat → Int32) (L : Nat) (s : pS) : pS × Int32 :=
  if tsM f L (tk f L s 49 57) (1 + (tkC f L s - 49)) = true then (tk f L (tk f L s 49 57) 48 57, 10 * (1 + (tkC f L s - 49)) + (tkC f L (tk f L s 49 57) - 48)) else (tk f L s 49 57, 1 + (tkC f L s - 49))
theorem tlL_le {f : Nat → Int32} {L : Nat} (hL : L ≤ 60) : ∀ {n : Nat} {s : pS} {c : Int32}, s.1 ≤ 60 → (tlL f L n s c).1.1 ≤ 60
  | 0, s, c, h => h
  | n + 1, s, c, h => by
    simp only [tlL]
    split
    · exact tlL_le hL (tk_le hL (by decide) h)
    · exact h
theorem tl_le {f : Nat → Int32} {L : Nat} (hL : L ≤ 60) {s : pS} (h : s.1 ≤ 60) : (tl f L s).1.1 ≤ 60 := tlL_le hL (tk_le hL (by decide) h)
theorem tw_le {f : Nat → Int32} {L : Nat} (hL : L ≤ 60) {s : pS} (h : s.1 ≤ 60) : (tw f L s).1.1 ≤ 60 := by
  unfold tw
  split
  · exact tk_le hL (by decide) (tk_le hL (by decide) h)
  · exact tk_le hL (by decide) h
theorem ts_le {f : Nat → Int32} {L : Nat} (hL : L ≤ 60) {s : pS} (h : s.1 ≤ 60) : (ts f L s).1.1 ≤ 60 := by
  unfold ts
  split
  · exact tk_le hL (by decide) (tk_le hL (by decide) h)
  · exact tk_le hL (by decide) h
theorem wS_P {M : wMem} {s : pS} : wS (setP M s) = wS M := rfl
theorem wP_P {M : wMem} {s : pS} : wP (setP M s) = wP M := rfl