def cTurn (u : gS) (k e n : Int) : Int × gS := (if u.2.1 10 k.toNat = e ∧ u.2.1 11 k.toNat = n then 0 else 1, sF (sF u 10 (va_up (u.2.1 10) k.toNat e)) 11 (va_up (u.2.1 11) k.toNat n))
def cTide (u : gS) (b h e n : Int) : Int × gS := if (0 ≤ b ∧ b ≤ 2) ∧ (0 ≤ h ∧ h ≤ 11) ∧ (-9 ≤ e ∧ e ≤ 9) ∧ (-9 ≤ n ∧ n ≤ 9) then cTurn u (b * 12 + h) e n else (-1, u)
def cRaiseL (row to b : Int) : Nat → Int → Int → gS → Int × gS
  | 0, _, k, w => (k, w)
  | n + 1, c, k, w => if c ≤ to then (if w.2.1 9 (row * 24 + c).toNat = b then cRaiseL row to b n (c + 1) k w else cRaiseL row to b n (c + 1) (k + 1) (sF w 9 (va_up (w.2.1 9) (row * 24 + c).toNat b))) else (k, w)
def cRaise (u : gS) (row fr to b : Int) : Int × gS := ((cRaiseL row to b 25 fr 0 u).1, sI (cRaiseL row to b 25 fr 0 u).2 4 (if b = 0 then (cRaiseL row to b 25 fr 0 u).2.1 4 + -(cRaiseL row to b 25 fr 0 u).1 else (cRaiseL row to b 25 fr 0 u).2.1 4 + (cRaiseL row to b 25 fr 0 u).1))
def cLand (u : gS) (row fr to b : Int) : Int × gS := if (0 ≤ row ∧ row ≤ 11) ∧ (0 ≤ fr ∧ fr ≤ 23) ∧ (fr ≤ to ∧ to ≤ 23) then cRaise u row fr to b else (-1, u)
def cSet (u : gS) (w n : Int) : Int × gS := if w = 0 ∧ 0 ≤ n ∧ n ≤ 20 then (u.1 1, sI u 1 n) else if w = 1 ∧ 1 ≤ n ∧ n ≤ 60 then (u.1 2, sI u 2 n) else (-1, u)
def cStroke (u : gS) (n : Int) : Int × gS := if 0 ≤ n ∧ n ≤ 99 then (if u.1 15 = 60 then (-2, u) else (u.1 15 + 1, sI (sF u 22 (va_up (u.2.1 22) (u.1 15).toNat n)) 15 (u.1 15 + 1))) else (-1, u)
def cStop (u : gS) (f k : Int) : Int := if (0 ≤ f ∧ f ≤ 99) ∧ (1 ≤ k ∧ k ≤ 10) then spStop (u.2.1 22) (u.1 15) f k 61 0 0 else -1
def cFloor (u : gS) (k : Int) : Int := if 1 ≤ k ∧ k ≤ 10 then spFloor (u.2.1 22) (u.1 15) k 101 0 else -1
def cVoided (u : gS) : Int := if u.1 16 = 0 then -3 else mVoidL (u.2.1 24) (u.2.1 23) (u.1 17) (u.1 16) 41 0
def cCalmV (u : gS) (d b : Int) : Int := if b = 0 then bAnd (u.1 18) (bXor (bShl 1 d) (-1)) else bOr (u.1 18) (bShl 1 d)
def cCalm (u : gS) (d b : Int) : Int × gS := if 0 ≤ d ∧ d ≤ 15 then (if cCalmV u d b = u.1 18 then 0 else 1, sI u 18 (cCalmV u d b)) else (-1, u)
def cEnded (u : gS) (w : Int) : Int := if 0 ≤ w ∧ w ≤ 4 then (if u.1 6 ≤ 0 then -3 else if w = 0 then u.2.1 13 (u.1 6).toNat else if w = 1 then u.2.1 14 (u.1 6).toNat else if w = 2 then u.1 6 else if w = 3 then u.1 7 else u.1 5) else -1
def cWhere (u : gS) (t : Int) : Int := if 0 ≤ t ∧ t ≤ 100 then (if u.1 6 ≤ 0 ∨ u.1 6 < t then -3 else 1000 * u.2.1 13 t.toNat + u.2.1 14 t.toNat) else -1
