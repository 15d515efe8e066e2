theorem cCrL_keep (xs ys sd qi rc : Nat) (q aim e0 : Int) : ∀ (n : Nat) (t : Int) (w : gS), (∀ k, k ≠ xs ∧ k ≠ ys → (cCrL xs ys sd qi rc q aim e0 n t w).2.2.1 k = w.2.1 k) ∧ (∀ i, i ≠ qi → (cCrL xs ys sd qi rc q aim e0 n t w).2.1 i = w.1 i) ∧ (cCrL xs ys sd qi rc q aim e0 n t w).2.2.2 = w.2.2 := by
  intro n
  induction n with
  | zero => intro t w; exact ⟨fun _ _ => rfl, fun _ _ => rfl, rfl⟩
  | succ n ih =>
    intro t w
    obtain ⟨a1, a2, a3, a4⟩ := cStay_keep w xs ys sd qi t (q + t) aim
    unfold cCrL
    split
    · split
      · exact ⟨a1, a2, a4⟩
      · split
        · obtain ⟨b1, b2, b3⟩ := ih (t + 1) (cStay w xs ys sd qi t (q + t) aim).2
          exact ⟨fun k hk => (b1 k hk).trans (a1 k hk), fun i hi => (b2 i hi).trans (a2 i hi), b3.trans a4⟩
        · exact ⟨a1, a2, a4⟩
    · exact ⟨fun _ _ => rfl, fun _ _ => rfl, rfl⟩
theorem cCrL_res (xs ys sd qi rc : Nat) (q aim e0 : Int) (he : 0 ≤ e0 ∧ e0 ≤ 3) (hne : rc ≠ qi) : ∀ (n : Nat) (t : Int) (w : gS), 0 ≤ t → w.1 rc ≤ 100 → (0 ≤ w.1 qi ∧ w.1 qi ≤ 100) → (0 ≤ (cCrL xs ys sd qi rc q aim e0 n t w).1 ∧ (cCrL xs ys sd qi rc q aim e0 n t w).1 ≤ 3) ∧ (0 ≤ (cCrL xs ys sd qi rc q aim e0 n t w).2.1 qi ∧ (cCrL xs ys sd qi rc q aim e0 n t w).2.1 qi ≤ 100) := by
  intro n
  induction n with
  | zero => intro t w _ _ hq; exact ⟨he, hq⟩
  | succ n ih =>
    intro t w ht hr hq
    obtain ⟨a1, a2, a3, a4⟩ := cStay_keep w xs ys sd qi t (q + t) aim
    have hr2 := a2 rc hne
    unfold cCrL
    split
    · have hb : 0 ≤ (cStay w xs ys sd qi t (q + t) aim).2.1 qi ∧ (cStay w xs ys sd qi t (q + t) aim).2.1 qi ≤ 100 := by rw [a3]; omega
      split
      · exact ⟨⟨by simp, by simp⟩, hb⟩
      · split
        · exact ih (t + 1) _ (by omega) (by rw [hr2]; exact hr) hb
        · exact ⟨⟨by simp, by simp⟩, hb⟩
    · exact ⟨he, hq⟩
def cI (w : gS) : Prop := rdI w 19 20 13 14 ∧ (∀ j, j < 288 → w.2.1 9 j = 0 ∨ w.2.1 9 j = 1) ∧ (∀ j, j < 36 → -9 ≤ w.2.1 10 j ∧ w.2.1 10 j ≤ 9) ∧ (∀ j, j < 36 → -9 ≤ w.2.1 11 j ∧ w.2.1 11 j ≤ 9)
theorem cCross_keep (u : gS) (x y q aim : Int) : (∀ k, k ≠ 17 ∧ k ≠ 18 → (cCross u 17 18 19 20 11 12 13 14 x y q aim).2.2.1 k = u.2.1 k) ∧ (∀ i, i ≠ 11 ∧ i ≠ 12 → (cCross u 17 18 19 20 11 12 13 14 x y q aim).2.1 i = u.1 i) ∧ (cCross u 17 18 19 20 11 12 13 14 x y q aim).2.2.2 = u.2.2 := by
  unfold cCross cCrE
  obtain ⟨b1, b2, b3⟩ := cCrL_keep 17 18 19 11 13 q aim (if u.1 14 = 0 then 3 else 1) 101 0 (cCr0 u 17 18 11 x y)
  refine ⟨fun k hk => (b1 k hk).trans ?_, fun i hi => ?_, b3⟩
  · simp [cCr0, va_up, hk.1, hk.2]
  · have e : ∀ (g : gS) (v : Int), (sI g 12 v).1 i = g.1 i := fun g v => by simp [va_up, hi.2]
    rw [e, b2 i hi.1]
    simp [cCr0, va_up, hi.1]
theorem cCross_res (u : gS) (x y q aim : Int) (hI : cI u) : (0 ≤ (cCross u 17 18 19 20 11 12 13 14 x y q aim).1 ∧ (cCross u 17 18 19 20 11 12 13 14 x y q aim).1 ≤ 3) ∧ (0 ≤ (cCross u 17 18 19 20 11 12 13 14 x y q aim).2.1 11 ∧ (cCross u 17 18 19 20 11 12 13 14 x y q aim).2.1 11 ≤ 100) := by
  obtain ⟨⟨-, -, r3, -, -⟩, -, -, -⟩ := hI
  have hr : (cCr0 u 17 18 11 x y).1 13 = u.1 13 := rfl
  have hq : (cCr0 u 17 18 11 x y).1 11 = 0 := rfl
  obtain ⟨c1, c2⟩ := cCrL_res 17 18 19 11 13 q aim (if u.1 14 = 0 then 3 else 1) (by split <;> omega) (by decide) 101 0 (cCr0 u 17 18 11 x y) (by omega) (by rw [hr]; omega) (by rw [hq]; omega)
  unfold cCross cCrE
  refine ⟨c1, ?_⟩
  have e : ∀ (g : gS) (v : Int), (sI g 12 v).1 11 = g.1 11 := fun g v => by simp [va_up]
  rw [e]
  exact c2
theorem cI_cross {u : gS} (x y q aim : Int) (hI : cI u) : cI (cCross u 17 18 19 20 11 12 13 14 x y q aim).2 := by
  obtain ⟨b1, b2, b3⟩ := cCross_keep u x y q aim
  unfold cI rdI at hI ⊢
  rw [b1 19 (by decide), b1 20 (by decide), b1 9 (by decide), b1 10 (by decide), b1 11 (by decide), b2 13 (by decide), b2 14 (by decide)]
  exact hI
def cBestI (x y q : Int) : Nat → Int → Int → Int → gS → Int × Int × gS
  | 0, _, fw, sa, w => (fw, sa, w)
  | n + 1, a, fw, sa, w => if a < 8 then (if (cCross w 17 18 19 20 11 12 13 14 x y q a).1 = 0 ∧ (cCross w 17 18 19 20 11 12 13 14 x y q a).2.1 11 < fw then cBestI x y q n (a + 1) ((cCross w 17 18 19 20 11 12 13 14 x y q a).2.1 11) (10 * q + a) (cCross w 17 18 19 20 11 12 13 14 x y q a).2 else cBestI x y q n (a + 1) fw sa (cCross w 17 18 19 20 11 12 13 14 x y q a).2) else (fw, sa, w)
def cBestO (x y : Int) : Nat → Int → Int → Int → gS → Int × gS
  | 0, _, _, sa, w => (sa, w)
  | n + 1, q, fw, sa, w => if q < 48 then cBestO x y n (q + 1) (cBestI x y q 9 0 fw sa w).1 (cBestI x y q 9 0 fw sa w).2.1 (cBestI x y q 9 0 fw sa w).2.2 else (sa, w)
def cRdT (u : gS) (K S9 L9 F9 : Nat → Int) (s : Int) : gS := cReady u 19 20 10 13 14 (K s.toNat) (s.toNat : Int) (S9 s.toNat) (L9 s.toNat) (F9 s.toNat) (u.1 1)
def cBest (u : gS) (K S9 L9 F9 : Nat → Int) (s x y : Int) : Int × gS := if (0 ≤ s ∧ s ≤ u.1 0 - 1) ∧ ((0 ≤ x ∧ x ≤ 239) ∧ (0 ≤ y ∧ y ≤ 119)) then (if spDry (u.2.1 9) x y = 0 then cBestO x y 49 0 101 (-4) (cRdT u K S9 L9 F9 s) else (-4, u)) else (-1, u)
def cEndsI (x y en q : Int) : Nat → Int → Int → gS → Int × gS
  | 0, _, k, w => (k, w)
  | n + 1, a, k, w => if a < 8 then (if (cCross w 17 18 19 20 11 12 13 14 x y q a).1 = en then cEndsI x y en q n (a + 1) (k + 1) (cCross w 17 18 19 20 11 12 13 14 x y q a).2 else cEndsI x y en q n (a + 1) k (cCross w 17 18 19 20 11 12 13 14 x y q a).2) else (k, w)
def cEndsO (x y en : Int) : Nat → Int → Int → gS → Int × gS
  | 0, _, k, w => (k, w)
  | n + 1, q, k, w => if q < 48 then cEndsO x y en n (q + 1) (cEndsI x y en q 9 0 k w).1 (cEndsI x y en q 9 0 k w).2 else (k, w)
def cEnds (u : gS) (K S9 L9 F9 : Nat → Int) (s x y en : Int) : Int × gS := if (0 ≤ s ∧ s ≤ u.1 0 - 1) ∧ ((0 ≤ x ∧ x ≤ 239) ∧ (0 ≤ y ∧ y ≤ 119)) ∧ (0 ≤ en ∧ en ≤ 3) then (if spDry (u.2.1 9) x y = 0 then cEndsO x y en 49 0 0 (cRdT u K S9 L9 F9 s) else (-4, u)) else (-1, u)
