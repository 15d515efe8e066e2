theorem mul20 {a b : Int} (ha : 0 ≤ a ∧ a ≤ 101) (hb : -20 ≤ b ∧ b ≤ 20) : -2020 ≤ a * b ∧ a * b ≤ 2020 := by
  have h1 : a * b ≤ a * 20 := Int.mul_le_mul_of_nonneg_left hb.2 ha.1
  have h2 : a * (-20) ≤ a * b := Int.mul_le_mul_of_nonneg_left hb.1 ha.1
  omega
theorem bAnd_1 (a : Int) : 0 ≤ bAnd a 1 ∧ bAnd a 1 ≤ 1 := by
  obtain ⟨j, hj, h⟩ := pk_andE (zI a) (m := zI 1) 1 (by decide)
  unfold bAnd; rw [h, nI_toInt (by omega)]; omega
theorem bAnd_15 (a : Int) : 0 ≤ bAnd a 15 ∧ bAnd a 15 ≤ 15 := by
  obtain ⟨j, hj, h⟩ := pk_andE (zI a) (m := zI 15) 4 (by decide)
  unfold bAnd; rw [h, nI_toInt (by omega)]; omega
theorem bAnd_63 (a : Int) : 0 ≤ bAnd a 63 ∧ bAnd a 63 ≤ 63 := by
  obtain ⟨j, hj, h⟩ := pk_andE (zI a) (m := zI 63) 6 (by decide)
  unfold bAnd; rw [h, nI_toInt (by omega)]; omega
def spApart (a b : Int) : Int := if b < a then a - b else b - a
def spNr (X Y : Nat → Int) (q x y e n nr : Int) : Nat → Int → Int
  | 0, _ => -4
  | k + 1, t => if t < q then (if spApart (x + (t + 1) * e) (X (t + 1).toNat) < nr ∧ spApart (y + (t + 1) * n) (Y (t + 1).toNat) < nr then t else spNr X Y q x y e n nr k (t + 1)) else -4
theorem spNr_bnd (X Y : Nat → Int) (q x y e n nr : Int) (hq : q ≤ 100) : ∀ (k : Nat) (t : Int), 0 ≤ t → -4 ≤ spNr X Y q x y e n nr k t ∧ spNr X Y q x y e n nr k t ≤ 100 := by
  intro k
  induction k with
  | zero => intro t _; simp [spNr]
  | succ k ih =>
    intro t ht
    have h1 := ih (t + 1) (by omega)
    unfold spNr
    (repeat split) <;> omega
def mNr (u : gS) (k : Int) : Int := spNr (u.2.1 38) (u.2.1 39) (u.2.1 40 0) (u.2.1 42 k.toNat) (u.2.1 43 k.toNat) (u.2.1 44 k.toNat) (u.2.1 45 k.toNat) (u.1 22) 101 0
def mNear (u : gS) (k : Int) : Int := if 0 ≤ k ∧ k ≤ u.1 25 - 1 then (if u.1 24 = -1 then -3 else mNr u k) else -1
def mLanL (u : gS) : Nat → Int → Int → Int
  | 0, _, b => b
  | n + 1, k, b => if k < u.1 25 then (if mNr u k = -4 then mLanL u n (k + 1) (bOr b 0) else mLanL u n (k + 1) (bOr b (bShl 1 k))) else b
def mLanes (u : gS) : Int := if u.1 24 = -1 then -3 else mLanL u 9 0 0
def spCnt (F : Nat → Int) (m : Int) : Nat → Int → Int → Int
  | 0, _, k => k
  | n + 1, c, k => if c < m then (if F c.toNat = 0 then spCnt F m n (c + 1) (k + 0) else spCnt F m n (c + 1) (k + 1)) else k
def mCount (u : gS) (w : Int) : Int := if w = 0 then u.1 23 else if w = 1 then spCnt (u.2.1 31) 288 289 0 0 else if w = 2 then u.1 25 else if w = 3 then u.1 26 else if w = 4 then u.1 28 else if w = 5 then spCnt (u.2.1 49) 16 17 0 0 else -1
def mCarT (x y q sd : Int) : Int := if ((0 ≤ x ∧ x ≤ 239) ∧ (0 ≤ y ∧ y ≤ 119)) ∧ (0 ≤ q ∧ q ≤ 199) ∧ (0 ≤ sd ∧ sd ≤ 1) then 0 else 1
def mCarV (u : gS) (x y q sd : Int) : Int := if ((0 ≤ x ∧ x ≤ 239) ∧ (0 ≤ y ∧ y ≤ 119)) ∧ (0 ≤ q ∧ q ≤ 199) ∧ (0 ≤ sd ∧ sd ≤ 1) then (if sd = 0 then u.2.1 32 (y / 40 * 12 + q / 4 % 12).toNat else u.2.1 33 (y / 40 * 12 + q / 4 % 12).toNat) else 0
def mEleT (u : gS) (d i : Int) : Int := if 0 ≤ d ∧ d ≤ 7 then (if u.2.1 58 d.toNat < 3 then 2 else if 0 ≤ i ∧ i ≤ u.2.1 62 d.toNat - 1 then 0 else 2) else 1
def mEleV (u : gS) (d i : Int) : Int := if 0 ≤ d ∧ d ≤ 7 then (if u.2.1 58 d.toNat < 3 then 0 else if 0 ≤ i ∧ i ≤ u.2.1 62 d.toNat - 1 then u.2.1 63 (202 * d + i).toNat else 0) else 0
def mMakL (d m : Int) : Nat → Int → gS → gS
  | 0, _, w => w
  | n + 1, i, w => if i < m then mMakL d m n (i + 1) (sF w 63 (va_up (w.2.1 63) (202 * d + i).toNat 0)) else w
def mMake (u : gS) (d w n : Int) : Int × gS := if (0 ≤ d ∧ d ≤ 7) ∧ (3 ≤ w ∧ w ≤ 4) ∧ n ≤ 60 then (if n < 0 then (-14, u) else (0, mMakL d n 61 0 (sF (sF u 58 (va_up (u.2.1 58) d.toNat w)) 62 (va_up (u.2.1 62) d.toNat n)))) else (-1, u)
