theorem up_b {f : Nat → Int} {n k : Nat} {v : Int} (h : ∀ j, j < n → f j = 0 ∨ f j = 1) (hv : v = 0 ∨ v = 1) : ∀ j, j < n → va_up f k v j = 0 ∨ va_up f k v j = 1 := by
  intro j hj
  unfold va_up
  split
  · exact hv
  · exact h j hj
theorem up_r {f : Nat → Int} {n k : Nat} {v a b : Int} (h : ∀ j, j < n → a ≤ f j ∧ f j ≤ b) (h1 : a ≤ v) (h2 : v ≤ b) : ∀ j, j < n → a ≤ va_up f k v j ∧ va_up f k v j ≤ b := by
  intro j hj
  unfold va_up
  split
  · exact ⟨h1, h2⟩
  · exact h j hj
def spStop (F : Nat → Int) (c f k : Int) : Nat → Int → Int → Int
  | 0, _, _ => -4
  | n + 1, i, run => if i < c then (if F i.toNat < f then (if run + 1 = k then i else spStop F c f k n (i + 1) (run + 1)) else (if 0 = k then i else spStop F c f k n (i + 1) 0)) else -4
theorem spStop_bnd (F : Nat → Int) (c f k : Int) (hc : c ≤ 60) : ∀ (n : Nat) (i run : Int), 0 ≤ i → -4 ≤ spStop F c f k n i run ∧ spStop F c f k n i run ≤ 60 := by
  intro n
  induction n with
  | zero => intro i run _; simp [spStop]
  | succ n ih =>
    intro i run hi
    have h1 := ih (i + 1) (run + 1) (by omega)
    have h2 := ih (i + 1) 0 (by omega)
    unfold spStop
    (repeat split) <;> omega
def spFloor (F : Nat → Int) (c k : Int) : Nat → Int → Int
  | 0, _ => -4
  | n + 1, f => if f < 100 then (if spStop F c f k 61 0 0 = -4 then spFloor F c k n (f + 1) else f) else -4
def mStop (u : gS) (f k : Int) : Int := if (0 ≤ f ∧ f ≤ 99) ∧ (1 ≤ k ∧ k ≤ 10) then spStop (u.2.1 46) (u.1 26) f k 61 0 0 else -1
def mFloor (u : gS) (k : Int) : Int := if 1 ≤ k ∧ k ≤ 10 then spFloor (u.2.1 46) (u.1 26) k 101 0 else -1
def mLandL (row to b : Int) : Nat → Int → Int → gS → Int × gS
  | 0, _, k, w => (k, w)
  | n + 1, c, k, w => if c ≤ to then (if w.2.1 31 (24 * row + c).toNat = b then mLandL row to b n (c + 1) (k + 0) (sF w 31 (va_up (w.2.1 31) (24 * row + c).toNat b)) else mLandL row to b n (c + 1) (k + 1) (sF w 31 (va_up (w.2.1 31) (24 * row + c).toNat b))) else (k, w)
def mLand (u : gS) (row fr to b : Int) : Int × gS := if (0 ≤ row ∧ row ≤ 11) ∧ (0 ≤ fr ∧ fr ≤ 23) ∧ (fr ≤ to ∧ to ≤ 23) then mLandL row to b 25 fr 0 u else (-1, u)
def mVoidL (T O : Nat → Int) (t o : Int) : Nat → Int → Int
  | 0, _ => -4
  | n + 1, i => if i < t then (if T i.toNat = O (i % o).toNat then mVoidL T O t o n (i + 1) else i) else -4
def spNear (X Y : Nat → Int) (q x y e n nr : Int) : Nat → Int → Int
  | 0, _ => -4
  | k + 1, t => if t < q then (if (if X (t + 1).toNat < x + (t + 1) * e then x + (t + 1) * e - X (t + 1).toNat else X (t + 1).toNat - (x + (t + 1) * e)) < nr ∧ (if Y (t + 1).toNat < y + (t + 1) * n then y + (t + 1) * n - Y (t + 1).toNat else Y (t + 1).toNat - (y + (t + 1) * n)) < nr then t else spNear X Y q x y e n nr k (t + 1)) else -4
def mNone : Nat → Int → gS → gS
  | 0, _, w => w
  | n + 1, i, w => if i < 10 then mNone n (i + 1) (sF w 54 (va_up (w.2.1 54) i.toNat 0)) else w
def mVoided (u : gS) : Int := if u.1 27 = 0 then -3 else mVoidL (u.2.1 48) (u.2.1 47) (u.1 28) (u.1 27) 41 0
