def cAl (w : gS) (sd : Nat) (t aim : Int) : Int := if aim % 2 = 0 then w.2.1 sd t.toNat else w.2.1 sd t.toNat * 7 / 10
def cX (w : gS) (xs ys sd : Nat) (t ck aim : Int) : Int := w.2.1 xs t.toNat + aimE aim.toNat * cAl w sd t aim + w.2.1 10 (w.2.1 ys t.toNat / 40 * 12 + ck / 4 % 12).toNat
def cY (w : gS) (ys sd : Nat) (t ck aim : Int) : Int := w.2.1 ys t.toNat + aimN aim.toNat * cAl w sd t aim + w.2.1 11 (w.2.1 ys t.toNat / 40 * 12 + ck / 4 % 12).toNat
def cStB (w : gS) (xs ys qi : Nat) (t X Y : Int) : gS := sF (sF (sI w qi (t + 1)) xs (va_up (w.2.1 xs) (t + 1).toNat X)) ys (va_up (w.2.1 ys) (t + 1).toNat Y)
def cStay (w : gS) (xs ys sd qi : Nat) (t ck aim : Int) : Int × gS := if (0 ≤ cX w xs ys sd t ck aim ∧ cX w xs ys sd t ck aim ≤ 239) ∧ (0 ≤ cY w ys sd t ck aim ∧ cY w ys sd t ck aim ≤ 119) then (1, cStB w xs ys qi t (cX w xs ys sd t ck aim) (cY w ys sd t ck aim)) else (0, cStB w xs ys qi t (w.2.1 xs t.toNat) (w.2.1 ys t.toNat))
theorem cStay_res (w : gS) (xs ys sd qi : Nat) (t ck aim : Int) : (cStay w xs ys sd qi t ck aim).1 = 0 ∨ (cStay w xs ys sd qi t ck aim).1 = 1 := by
  unfold cStay
  split
  · exact Or.inr rfl
  · exact Or.inl rfl
theorem cStay_keep (w : gS) (xs ys sd qi : Nat) (t ck aim : Int) : (∀ k, k ≠ xs ∧ k ≠ ys → (cStay w xs ys sd qi t ck aim).2.2.1 k = w.2.1 k) ∧ (∀ i, i ≠ qi → (cStay w xs ys sd qi t ck aim).2.1 i = w.1 i) ∧ (cStay w xs ys sd qi t ck aim).2.1 qi = t + 1 ∧ (cStay w xs ys sd qi t ck aim).2.2.2 = w.2.2 := by
  have hB : ∀ X Y : Int, (∀ k, k ≠ xs ∧ k ≠ ys → (cStB w xs ys qi t X Y).2.1 k = w.2.1 k) ∧ (∀ i, i ≠ qi → (cStB w xs ys qi t X Y).1 i = w.1 i) ∧ (cStB w xs ys qi t X Y).1 qi = t + 1 ∧ (cStB w xs ys qi t X Y).2.2 = w.2.2 := by
    intro X Y
    refine ⟨fun k hk => ?_, fun i hi => ?_, ?_, rfl⟩
    · simp [cStB, va_up, hk.1, hk.2]
    · simp [cStB, va_up, hi]
    · simp [cStB, va_up]
  unfold cStay
  split
  · exact hB _ _
  · exact hB _ _
theorem cStay_in (w : gS) (xs ys sd qi : Nat) (t ck aim : Int) (hne : xs ≠ ys) (h1 : 0 ≤ w.2.1 xs t.toNat ∧ w.2.1 xs t.toNat ≤ 239) (h2 : 0 ≤ w.2.1 ys t.toNat ∧ w.2.1 ys t.toNat ≤ 119) : (0 ≤ (cStay w xs ys sd qi t ck aim).2.2.1 xs (t + 1).toNat ∧ (cStay w xs ys sd qi t ck aim).2.2.1 xs (t + 1).toNat ≤ 239) ∧ (0 ≤ (cStay w xs ys sd qi t ck aim).2.2.1 ys (t + 1).toNat ∧ (cStay w xs ys sd qi t ck aim).2.2.1 ys (t + 1).toNat ≤ 119) := by
  unfold cStay
  split
  · next h => simpa [cStB, va_up, hne] using h
  · simpa [cStB, va_up, hne] using And.intro h1 h2
def cCrL (xs ys sd qi rc : Nat) (q aim e0 : Int) : Nat → Int → gS → Int × gS
  | 0, _, w => (e0, w)
  | n + 1, t, w => if t < w.1 rc then (if (cStay w xs ys sd qi t (q + t) aim).1 = 0 then (2, (cStay w xs ys sd qi t (q + t) aim).2) else if spDry ((cStay w xs ys sd qi t (q + t) aim).2.2.1 9) ((cStay w xs ys sd qi t (q + t) aim).2.2.1 xs (t + 1).toNat) ((cStay w xs ys sd qi t (q + t) aim).2.2.1 ys (t + 1).toNat) = 0 then cCrL xs ys sd qi rc q aim e0 n (t + 1) (cStay w xs ys sd qi t (q + t) aim).2 else (0, (cStay w xs ys sd qi t (q + t) aim).2)) else (e0, w)
def cCr0 (u : gS) (xs ys qi : Nat) (x y : Int) : gS := sF (sF (sI u qi 0) xs (va_up (u.2.1 xs) 0 x)) ys (va_up (u.2.1 ys) 0 y)
def cCrE (cl qi co : Nat) (r : Int × gS) : Int × gS := (r.1, sI r.2 co (r.2.2.1 cl (if r.1 = 2 then r.2.1 qi - 1 else r.2.1 qi).toNat))
def cCross (u : gS) (xs ys sd cl qi co rc tc : Nat) (x y q aim : Int) : Int × gS := cCrE cl qi co (cCrL xs ys sd qi rc q aim (if u.1 tc = 0 then 3 else 1) 101 0 (cCr0 u xs ys qi x y))
