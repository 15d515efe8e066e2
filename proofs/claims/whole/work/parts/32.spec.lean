def cOszF (d sz : Int) : Int := if bUshr d 24 = 0 then sz else -1
def cOsz (cnt d : Int) : Nat → Int → Int → Int
  | 0, _, _ => -1
  | n + 1, told, sz => if sz < 6 then (if bUshr d (4 * sz) = 0 then cOszF d sz else if 0 ≤ bAnd (bUshr d (4 * sz)) 15 - 1 ∧ bAnd (bUshr d (4 * sz)) 15 - 1 ≤ cnt - 1 then (if bAnd (bShr told (bAnd (bUshr d (4 * sz)) 15 - 1)) 1 = 0 then cOsz cnt d n (bOr told (bShl 1 (bAnd (bUshr d (4 * sz)) 15 - 1))) (sz + 1) else -1) else -1) else cOszF d sz
theorem cOsz_bnd (cnt d : Int) : ∀ (n : Nat) (told sz : Int), 0 ≤ sz → sz ≤ 6 → -1 ≤ cOsz cnt d n told sz ∧ cOsz cnt d n told sz ≤ 6 := by
  intro n
  induction n with
  | zero => intro told sz _ _; simp [cOsz]
  | succ n ih =>
    intro told sz h1 h2
    have hF : -1 ≤ cOszF d sz ∧ cOszF d sz ≤ 6 := by unfold cOszF; split <;> omega
    unfold cOsz
    split
    · split
      · exact hF
      · split
        · split
          · exact ih _ _ (by omega) (by omega)
          · omega
        · omega
    · exact hF
def cOrdW (d m : Int) : Nat → Int → gS → gS
  | 0, _, w => w
  | f + 1, i, w => if i < m then cOrdW d m f (i + 1) (sI (sF w 23 (va_up (w.2.1 23) (w.1 16).toNat (bAnd (bUshr d (4 * i)) 15 - 1))) 16 (w.1 16 + 1)) else w
def cOrder (u : gS) (d : Int) : Int × gS := if cOsz (u.1 0) d 7 0 0 < 2 then (-1, u) else (cOsz (u.1 0) d 7 0 0, cOrdW d (cOsz (u.1 0) d 7 0 0) 7 0 (sI (sI u 16 0) 17 0))
/-- the j-th ship lies at a, with these numbers -/
def shAt (u : gS) (j a : Nat) (x y e n : Int) : Prop := u.2.2.1 21 j = some a ∧ a ∈ u.2.2.2.1 ∧ u.2.2.2.2 a = .inr (6, [.int (zI x), .int (zI y), .int (zI e), .int (zI n)]) ∧ (0 ≤ x ∧ x ≤ 239) ∧ (0 ≤ y ∧ y ≤ 119) ∧ (-20 ≤ e ∧ e ≤ 20) ∧ (-20 ≤ n ∧ n ≤ 20)
def cNr (u : gS) (SX SY SE SN : Nat → Int) (k : Int) : Int := spNr (u.2.1 13) (u.2.1 14) (u.1 6) (SX k.toNat) (SY k.toNat) (SE k.toNat) (SN k.toNat) (u.1 2) 101 0
def cNear (u : gS) (SX SY SE SN : Nat → Int) (k : Int) : Int := if 0 ≤ k ∧ k ≤ u.1 3 - 1 then (if u.1 6 ≤ 0 then -3 else cNr u SX SY SE SN k) else -1
def cLanL (u : gS) (SX SY SE SN : Nat → Int) : Nat → Int → Int → Int
  | 0, _, b => b
  | n + 1, k, b => if k < u.1 3 then (if cNr u SX SY SE SN k = -4 then cLanL u SX SY SE SN n (k + 1) b else cLanL u SX SY SE SN n (k + 1) (bOr b (bShl 1 k))) else b
def cLanes (u : gS) (SX SY SE SN : Nat → Int) : Int := if u.1 6 ≤ 0 then -3 else cLanL u SX SY SE SN 9 0 0
