theorem mul1 {a b : Int} (ha : -1 ≤ a ∧ a ≤ 1) (hb : 0 ≤ b ∧ b ≤ 24) : -24 ≤ a * b ∧ a * b ≤ 24 := by
  have h1 : a * b ≤ 1 * b := Int.mul_le_mul_of_nonneg_right ha.2 hb.1
  have h2 : (-1) * b ≤ a * b := Int.mul_le_mul_of_nonneg_right ha.1 hb.1
  omega
def spWay (aim p : Int) : Int := if aim % 2 = 1 then p * 7 / 10 else p
def stW (w : gS) (s aim t : Int) : Int := spWay aim (spPace (w.2.1 34 s.toNat) (w.2.1 35 s.toNat) (w.2.1 37 s.toNat) t)
def stT (w : gS) (q t a : Int) : Int := w.2.1 39 a.toNat / 40 * 12 + (q + t) / 4 % 12
def stX (w : gS) (s q aim t a : Int) : Int := w.2.1 38 a.toNat + aimE aim.toNat * stW w s aim t + w.2.1 32 (stT w q t a).toNat
def stY (w : gS) (s q aim t a : Int) : Int := w.2.1 39 a.toNat + aimN aim.toNat * stW w s aim t + w.2.1 33 (stT w q t a).toNat
def stC0 (w : gS) (row s t : Int) : Int := if 0 < w.2.1 37 s.toNat ∧ (t + 1) % w.2.1 37 s.toNat = 0 then w.2.1 41 row.toNat + spCold (w.2.1 34 s.toNat) (w.1 21) t - 3 else w.2.1 41 row.toNat + spCold (w.2.1 34 s.toNat) (w.1 21) t - 0
def stC (w : gS) (row s t : Int) : Int := if stC0 w row s t < 0 then 0 else stC0 w row s t
def stB (w : gS) (row t a X Y : Int) : gS := sF (sF (sF w 40 (va_up (w.2.1 40) row.toNat (t + 1))) 38 (va_up (w.2.1 38) (a + 1).toNat X)) 39 (va_up (w.2.1 39) (a + 1).toNat Y)
def stD (w : gS) (row t a X Y C : Int) : gS := sF (stB w row t a X Y) 41 (va_up (w.2.1 41) row.toNat C)
def mStep (row s q aim : Int) : Nat → Int → Int → gS → Int × gS
  | 0, _, _, w => (3, w)
  | n + 1, t, a, w => if t < 100 then (if (0 ≤ stX w s q aim t a ∧ stX w s q aim t a ≤ 239) ∧ (0 ≤ stY w s q aim t a ∧ stY w s q aim t a ≤ 119) then (if spDry (w.2.1 31) (stX w s q aim t a) (stY w s q aim t a) = 0 then (if w.2.1 36 s.toNat ≤ stC w row s t then (1, stD w row t a (stX w s q aim t a) (stY w s q aim t a) (stC w row s t)) else mStep row s q aim n (t + 1) (a + 1) (stD w row t a (stX w s q aim t a) (stY w s q aim t a) (stC w row s t))) else (0, stD w row t a (stX w s q aim t a) (stY w s q aim t a) (stC w row s t))) else (2, stB w row t a (w.2.1 38 a.toNat) (w.2.1 39 a.toNat))) else (3, w)
def mSt0 (u : gS) (row x y : Int) : gS := sF (sF (sF (sF u 38 (va_up (u.2.1 38) (101 * row).toNat x)) 39 (va_up (u.2.1 39) (101 * row).toNat y)) 41 (va_up (u.2.1 41) row.toNat 0)) 40 (va_up (u.2.1 40) row.toNat 0)
def mStepA (u : gS) (row s x y q aim : Int) : Int × gS := mStep row s q aim 101 0 (101 * row) (mSt0 u row x y)
theorem spWay_bnd {aim p : Int} (hp : 0 ≤ p ∧ p ≤ 24) : 0 ≤ spWay aim p ∧ spWay aim p ≤ 24 := by unfold spWay; split <;> omega
