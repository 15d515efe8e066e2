def mOrdL (sw : Int) : Nat → Int → Int → Int → Int
  | 0, _, _, _ => -1
  | f + 1, left, n, seen => if 0 < left then (if n = 6 then -1 else if 0 ≤ bAnd left 15 - 1 ∧ bAnd left 15 - 1 ≤ sw - 1 then (if bAnd (bShr seen (bAnd left 15 - 1)) 1 = 1 then -1 else mOrdL sw f (bShr left 4) (n + 1) (bOr seen (bShl 1 (bAnd left 15 - 1)))) else -1) else n
def mOrdW (row m : Int) : Nat → Int → gS → gS
  | 0, _, w => w
  | f + 1, i, w => if i < m then mOrdW row m f (i + 1) (sF w 47 (va_up (w.2.1 47) i.toNat (bAnd (bShr row (4 * i)) 15 - 1))) else w
def mOrder (u : gS) (row : Int) : Int × gS := if row < 0 then (-1, u) else if mOrdL (u.1 23) 8 row 0 0 < 2 then (-1, u) else (mOrdL (u.1 23) 8 row 0 0, sI (sI (mOrdW row (mOrdL (u.1 23) 8 row 0 0) 7 0 u) 27 (mOrdL (u.1 23) 8 row 0 0)) 28 0)
def mKeepS (d : Int) : Nat → Int → gS → gS
  | 0, _, w => w
  | n + 1, i, w => if i < w.2.1 62 d.toNat then (if i % 2 = 0 then mKeepS d n (i + 1) (sF w 63 (va_up (w.2.1 63) (202 * d + i).toNat (w.2.1 38 (i / 2).toNat))) else mKeepS d n (i + 1) (sF w 63 (va_up (w.2.1 63) (202 * d + i).toNat (w.2.1 39 (i / 2).toNat)))) else w
def mKeepB (d : Int) : Nat → Int → gS → gS
  | 0, _, w => w
  | n + 1, i, w => if i < w.1 26 then mKeepB d n (i + 1) (sF w 63 (va_up (w.2.1 63) (202 * d + i).toNat (w.2.1 46 i.toNat))) else w
def mKeep1 (u : gS) (d w k : Int) : gS := sF (sF (sF (sF u 58 (va_up (u.2.1 58) d.toNat w)) 59 (va_up (u.2.1 59) d.toNat k)) 60 (va_up (u.2.1 60) d.toNat (u.2.1 34 k.toNat))) 61 (va_up (u.2.1 61) d.toNat (spWeight (u.2.1 34 k.toNat) (u.2.1 35 k.toNat) (u.2.1 36 k.toNat) (u.2.1 37 k.toNat)))
def mKeep3 (u : gS) (d w z : Int) : gS := sF (sF u 58 (va_up (u.2.1 58) d.toNat w)) 62 (va_up (u.2.1 62) d.toNat z)
def mKeep4 (u : gS) (d w : Int) : gS := sF (sF u 58 (va_up (u.2.1 58) d.toNat w)) 62 (va_up (u.2.1 62) d.toNat (u.1 26))
def mKeep (u : gS) (d w k : Int) : Int × gS := if 0 ≤ d ∧ d ≤ 7 then (if w = 0 then (0, sF u 58 (va_up (u.2.1 58) d.toNat w)) else if w = 1 then (if 0 ≤ k ∧ k ≤ u.1 23 - 1 then (0, mKeep1 u d w k) else (-1, u)) else if w = 3 then (0, mKeepS d 203 0 (mKeep3 u d w (if u.1 24 = -1 then 0 else 2 * u.2.1 40 0 + 2))) else if w = 4 then (0, mKeepB d 61 0 (mKeep4 u d w)) else (-1, u)) else (-1, u)
def mCpF (d i e j n : Int) : Nat → Int → gS → gS
  | 0, _, w => w
  | f + 1, k, w => if k < n then (if d ≠ e ∨ j ≤ i then mCpF d i e j n f (k + 1) (sF w 63 (va_up (w.2.1 63) (202 * e + j + k).toNat (w.2.1 63 (202 * d + i + k).toNat))) else w) else w
def mCpB (d i e j : Int) : Nat → Int → gS → gS
  | 0, _, w => w
  | f + 1, k, w => if 0 ≤ k then (if d = e ∧ i < j then mCpB d i e j f (k + -1) (sF w 63 (va_up (w.2.1 63) (202 * e + j + k).toNat (w.2.1 63 (202 * d + i + k).toNat))) else w) else w
def mCopy (u : gS) (d i e j n : Int) : Int × gS := if (0 ≤ d ∧ d ≤ 7) ∧ (0 ≤ e ∧ e ≤ 7) then (if u.2.1 58 d.toNat = 0 ∨ u.2.1 58 e.toNat = 0 then (-11, u) else if u.2.1 58 d.toNat < 3 ∨ u.2.1 58 d.toNat ≠ u.2.1 58 e.toNat then (-12, u) else if n < 0 ∨ i < 0 ∨ j < 0 ∨ u.2.1 62 d.toNat - n < i ∨ u.2.1 62 e.toNat - n < j then (-13, u) else (n, mCpB d i e j 203 (n - 1) (mCpF d i e j n 203 0 u))) else (-1, u)
