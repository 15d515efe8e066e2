theorem fz (F : Nat → Int) {a b : Int} (h : a = b) : zI (F a.toNat) = zI (F b.toNat) := by rw [h]
/-- places and cells -/
def okP (x y : Int) : Prop := (0 ≤ x ∧ x ≤ 239) ∧ (0 ≤ y ∧ y ≤ 119)
def spDry (F : Nat → Int) (x y : Int) : Int := F (y / 10 * 24 + x / 10).toNat
def spIsLand (F : Nat → Int) (x y : Int) : Int := if (0 ≤ x ∧ x ≤ 239) ∧ (0 ≤ y ∧ y ≤ 119) then spDry F x y else -1
def mTide (u : gS) (b h e n : Int) : Int × gS := if (0 ≤ b ∧ b ≤ 2) ∧ (0 ≤ h ∧ h ≤ 11) ∧ (-9 ≤ e ∧ e ≤ 9) ∧ (-9 ≤ n ∧ n ≤ 9) then (if u.2.1 32 (12 * b + h).toNat = e ∧ u.2.1 33 (12 * b + h).toNat = n then 0 else 1, sF (sF u 32 (va_up (u.2.1 32) (12 * b + h).toNat e)) 33 (va_up (u.2.1 33) (12 * b + h).toNat n)) else (-1, u)
def mSet (u : gS) (w n : Int) : Int × gS := if w = 0 ∧ 0 ≤ n ∧ n ≤ 20 then (u.1 21, sI u 21 n) else if w = 1 ∧ 1 ≤ n ∧ n ≤ 60 then (u.1 22, sI u 22 n) else (-1, u)
