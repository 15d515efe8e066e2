def stI (w : gS) : Prop := (∀ j, j < 10 → 0 ≤ w.2.1 34 j ∧ w.2.1 34 j ≤ 3) ∧ (∀ j, j < 10 → 0 ≤ w.2.1 35 j ∧ w.2.1 35 j ≤ 20) ∧ (∀ j, j < 10 → 0 ≤ w.2.1 36 j ∧ w.2.1 36 j ≤ 400) ∧ (∀ j, j < 10 → 0 ≤ w.2.1 37 j ∧ w.2.1 37 j ≤ 40) ∧ (∀ j, j < 36 → -9 ≤ w.2.1 32 j ∧ w.2.1 32 j ≤ 9) ∧ (∀ j, j < 36 → -9 ≤ w.2.1 33 j ∧ w.2.1 33 j ≤ 9) ∧ (∀ j, j < 288 → w.2.1 31 j = 0 ∨ w.2.1 31 j = 1) ∧ (0 ≤ w.1 21 ∧ w.1 21 ≤ 20) ∧ (0 ≤ w.1 23 ∧ w.1 23 ≤ 10)
theorem mStep_keep (row s q aim : Int) : ∀ (n : Nat) (t a : Int) (w : gS), (mStep row s q aim n t a w).2.1 = w.1 ∧ (∀ k, k ≠ 38 ∧ k ≠ 39 ∧ k ≠ 40 ∧ k ≠ 41 → (mStep row s q aim n t a w).2.2.1 k = w.2.1 k) ∧ (mStep row s q aim n t a w).2.2.2 = w.2.2 := by
  have hB : ∀ (w : gS) (t a X Y : Int) (k : Nat), k ≠ 38 ∧ k ≠ 39 ∧ k ≠ 40 ∧ k ≠ 41 → (stB w row t a X Y).2.1 k = w.2.1 k := by
    intro w t a X Y k hk
    simp [stB, va_up, hk.1, hk.2.1, hk.2.2.1]
  have hD : ∀ (w : gS) (t a X Y C : Int) (k : Nat), k ≠ 38 ∧ k ≠ 39 ∧ k ≠ 40 ∧ k ≠ 41 → (stD w row t a X Y C).2.1 k = w.2.1 k := by
    intro w t a X Y C k hk
    simp [stD, stB, va_up, hk.1, hk.2.1, hk.2.2.1, hk.2.2.2]
  intro n
  induction n with
  | zero => intro t a w; exact ⟨rfl, fun _ _ => rfl, rfl⟩
  | succ n ih =>
    intro t a w
    unfold mStep
    split
    · split
      · split
        · split
          · exact ⟨rfl, fun k hk => hD w t a _ _ _ k hk, rfl⟩
          · obtain ⟨h1, h2, h3⟩ := ih (t + 1) (a + 1) (stD w row t a (stX w s q aim t a) (stY w s q aim t a) (stC w row s t))
            exact ⟨h1, fun k hk => (h2 k hk).trans (hD w t a _ _ _ k hk), h3⟩
        · exact ⟨rfl, fun k hk => hD w t a _ _ _ k hk, rfl⟩
      · exact ⟨rfl, fun k hk => hB w t a _ _ k hk, rfl⟩
    · exact ⟨rfl, fun _ _ => rfl, rfl⟩
theorem mStep_res (row s q aim : Int) : ∀ (n : Nat) (t a : Int) (w : gS), 0 ≤ (mStep row s q aim n t a w).1 ∧ (mStep row s q aim n t a w).1 ≤ 3 := by
  intro n
  induction n with
  | zero => intro t a w; simp [mStep]
  | succ n ih =>
    intro t a w
    unfold mStep
    (repeat split) <;> first | exact ih _ _ _ | simp
theorem mStep_q (row s q aim : Int) : ∀ (n : Nat) (t a : Int) (w : gS), 0 ≤ t → (0 ≤ w.2.1 40 row.toNat ∧ w.2.1 40 row.toNat ≤ 100) → 0 ≤ (mStep row s q aim n t a w).2.2.1 40 row.toNat ∧ (mStep row s q aim n t a w).2.2.1 40 row.toNat ≤ 100 := by
  have hB : ∀ (w : gS) (t a X Y : Int), (stB w row t a X Y).2.1 40 row.toNat = t + 1 := by
    intro w t a X Y
    simp [stB, va_up]
  have hD : ∀ (w : gS) (t a X Y C : Int), (stD w row t a X Y C).2.1 40 row.toNat = t + 1 := by
    intro w t a X Y C
    simp [stD, stB, va_up]
  intro n
  induction n with
  | zero => intro t a w _ h; exact h
  | succ n ih =>
    intro t a w ht h
    unfold mStep
    split
    · split
      · split
        · split
          · rw [hD]; omega
          · exact ih _ _ _ (by omega) (by rw [hD]; omega)
        · rw [hD]; omega
      · rw [hB]; omega
    · exact h
theorem mStepA_keep (u : gS) (row s x y q aim : Int) : (mStepA u row s x y q aim).2.1 = u.1 ∧ (∀ k, k ≠ 38 ∧ k ≠ 39 ∧ k ≠ 40 ∧ k ≠ 41 → (mStepA u row s x y q aim).2.2.1 k = u.2.1 k) ∧ (mStepA u row s x y q aim).2.2.2 = u.2.2 := by
  obtain ⟨h1, h2, h3⟩ := mStep_keep row s q aim 101 0 (101 * row) (mSt0 u row x y)
  refine ⟨h1, fun k hk => (h2 k hk).trans ?_, h3⟩
  simp [mSt0, va_up, hk.1, hk.2.1, hk.2.2.1, hk.2.2.2]
theorem mStepA_res (u : gS) (row s x y q aim : Int) : 0 ≤ (mStepA u row s x y q aim).1 ∧ (mStepA u row s x y q aim).1 ≤ 3 := mStep_res _ _ _ _ _ _ _ _
theorem mStepA_q (u : gS) (row s x y q aim : Int) : 0 ≤ (mStepA u row s x y q aim).2.2.1 40 row.toNat ∧ (mStepA u row s x y q aim).2.2.1 40 row.toNat ≤ 100 := by
  refine mStep_q row s q aim 101 0 (101 * row) (mSt0 u row x y) (by omega) ?_
  simp [mSt0, va_up]
theorem stI_step {w : gS} (row s x y q aim : Int) (h : stI w) : stI (mStepA w row s x y q aim).2 := by
  obtain ⟨h1, h2, h3⟩ := mStepA_keep w row s x y q aim
  unfold stI at h ⊢
  rw [h1, h2 34 (by decide), h2 35 (by decide), h2 36 (by decide), h2 37 (by decide), h2 32 (by decide), h2 33 (by decide), h2 31 (by decide)]
  exact h
def mSwim (u : gS) (s x y q aim : Int) : Int × gS := if (0 ≤ s ∧ s ≤ u.1 23 - 1) ∧ ((0 ≤ x ∧ x ≤ 239) ∧ (0 ≤ y ∧ y ≤ 119)) ∧ (0 ≤ q ∧ q ≤ 47) ∧ (0 ≤ aim ∧ aim ≤ 7) then (if spDry (u.2.1 31) x y = 0 then mStepA (sI u 24 s) 0 s x y q aim else (-4, u)) else (-1, u)
def mBestI (s x y q : Int) : Nat → Int → Int → Int → gS → Int × Int × gS
  | 0, _, sa, fw, w => (sa, fw, w)
  | n + 1, a, sa, fw, w => if a < 8 then (if (mStepA w 1 s x y q a).1 = 0 then (if sa = -4 ∨ (mStepA w 1 s x y q a).2.2.1 40 1 < fw then mBestI s x y q n (a + 1) (10 * q + a) ((mStepA w 1 s x y q a).2.2.1 40 1) (mStepA w 1 s x y q a).2 else mBestI s x y q n (a + 1) sa fw (mStepA w 1 s x y q a).2) else mBestI s x y q n (a + 1) sa fw (mStepA w 1 s x y q a).2) else (sa, fw, w)
def mBestO (s x y : Int) : Nat → Int → Int → Int → gS → Int × gS
  | 0, _, sa, _, w => (sa, w)
  | n + 1, q, sa, fw, w => if q < 48 then mBestO s x y n (q + 1) (mBestI s x y q 9 0 sa fw w).1 (mBestI s x y q 9 0 sa fw w).2.1 (mBestI s x y q 9 0 sa fw w).2.2 else (sa, w)
def mBest (u : gS) (s x y : Int) : Int × gS := if (0 ≤ s ∧ s ≤ u.1 23 - 1) ∧ ((0 ≤ x ∧ x ≤ 239) ∧ (0 ≤ y ∧ y ≤ 119)) then (if spDry (u.2.1 31) x y = 0 then mBestO s x y 49 0 (-4) 0 u else (-4, u)) else (-1, u)
def mEndsI (s x y en q : Int) : Nat → Int → Int → gS → Int × gS
  | 0, _, k, w => (k, w)
  | n + 1, a, k, w => if a < 8 then (if (mStepA w 1 s x y q a).1 = en then mEndsI s x y en q n (a + 1) (k + 1) (mStepA w 1 s x y q a).2 else mEndsI s x y en q n (a + 1) (k + 0) (mStepA w 1 s x y q a).2) else (k, w)
def mEndsO (s x y en : Int) : Nat → Int → Int → gS → Int × gS
  | 0, _, k, w => (k, w)
  | n + 1, q, k, w => if q < 48 then mEndsO s x y en n (q + 1) (mEndsI s x y en q 9 0 k w).1 (mEndsI s x y en q 9 0 k w).2 else (k, w)
def mEnds (u : gS) (s x y en : Int) : Int × gS := if (0 ≤ s ∧ s ≤ u.1 23 - 1) ∧ ((0 ≤ x ∧ x ≤ 239) ∧ (0 ≤ y ∧ y ≤ 119)) ∧ (0 ≤ en ∧ en ≤ 3) then (if spDry (u.2.1 31) x y = 0 then mEndsO s x y en 49 0 0 u else (-4, u)) else (-1, u)
