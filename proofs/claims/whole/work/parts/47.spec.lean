/-- who can on which day, and who doesn't count, of the reference -/
def mCan (u : gS) : Nat → Nat → Bool := fun s e => decide (u.2.1 49 e = 1) && tb (u.2.1 52 s) e
def mGone (u : gS) (p : Int) : Nat → Bool := fun s => !(decide (u.2.1 54 s = 0) && decide (0 < u.2.1 51 s) && decide (u.2.1 50 s = p))
def mMost (u : gS) (p d : Int) : Int := (mx (mCan u) (16 - d.toNat) d.toNat (mGone u p) : Nat)
def mNp (u : gS) (H A B C : Nat → Int) : gS := sF (sF (sF (sF u 53 H) 55 A) 56 B) 57 C
theorem mNp_self (u : gS) : mNp u (u.2.1 53) (u.2.1 55) (u.2.1 56) (u.2.1 57) = u := by
  unfold mNp
  simp only [sF]
  refine Prod.ext rfl (Prod.ext ?_ rfl)
  funext j
  simp only [va_up]
  by_cases h1 : j = 57
  · simp [h1]
  · by_cases h2 : j = 56
    · simp [h2]
    · by_cases h3 : j = 55
      · simp [h3]
      · by_cases h4 : j = 53
        · simp [h4]
        · simp [h1, h2, h3, h4]
theorem mNp_53 (u : gS) (H A B C H' : Nat → Int) : sF (mNp u H A B C) 53 H' = mNp u H' A B C := by
  unfold mNp
  simp only [sF]
  refine Prod.ext rfl (Prod.ext ?_ rfl)
  funext j
  simp only [va_up]
  by_cases h : j = 53 <;> simp [h]
theorem mNp_55 (u : gS) (H A B C A' : Nat → Int) : sF (mNp u H A B C) 55 A' = mNp u H A' B C := by
  unfold mNp
  simp only [sF]
  refine Prod.ext rfl (Prod.ext ?_ rfl)
  funext j
  simp only [va_up]
  by_cases h : j = 55 <;> simp [h]
theorem mNp_56 (u : gS) (H A B C B' : Nat → Int) : sF (mNp u H A B C) 56 B' = mNp u H A B' C := by
  unfold mNp
  simp only [sF]
  refine Prod.ext rfl (Prod.ext ?_ rfl)
  funext j
  simp only [va_up]
  by_cases h : j = 56 <;> simp [h]
theorem mNp_57 (u : gS) (H A B C C' : Nat → Int) : sF (mNp u H A B C) 57 C' = mNp u H A B C' := by
  unfold mNp
  simp only [sF, up_up]
theorem mNp_mNp (u : gS) (H A B C H' A' B' C' : Nat → Int) : mNp (mNp u H A B C) H' A' B' C' = mNp u H' A' B' C' := by
  rw [show mNp (mNp u H A B C) H' A' B' C' = sF (sF (sF (sF (mNp u H A B C) 53 H') 55 A') 56 B') 57 C' from rfl, mNp_53, mNp_55, mNp_56, mNp_57]
theorem mNp_1 (u : gS) (f : Nat → Int) : sF u 55 f = mNp u (u.2.1 53) f (u.2.1 56) (u.2.1 57) := by
  have h := mNp_55 u (u.2.1 53) (u.2.1 55) (u.2.1 56) (u.2.1 57) f
  rw [mNp_self] at h
  exact h
theorem mNp_2 (u : gS) (f : Nat → Int) : sF u 53 f = mNp u f (u.2.1 55) (u.2.1 56) (u.2.1 57) := by
  have h := mNp_53 u (u.2.1 53) (u.2.1 55) (u.2.1 56) (u.2.1 57) f
  rw [mNp_self] at h
  exact h
theorem mCan_i (u : gS) {s : Nat} {t : Int} (h1 : 0 ≤ t) (h2 : t < 32) : mCan u s t.toNat = true ↔ u.2.1 49 t.toNat = 1 ∧ bAnd (bShr (u.2.1 52 s) t) 1 = 1 := by
  rw [bShr_1 h1 h2]
  unfold mCan
  cases tb (u.2.1 52 s) t.toNat with
  | true => simp
  | false => simp
theorem mGone_i (u : gS) (p : Int) (s : Nat) : mGone u p s = false ↔ u.2.1 54 s = 0 ∧ 0 < u.2.1 51 s ∧ u.2.1 50 s = p := by
  unfold mGone
  simp [and_assoc]
theorem z01_up {A : Nat → Int} {e : Nat} (h : ∀ j, j < 16 → A j = 0 ∨ A j = 1) : ∀ j, j < 16 → va_up A e 1 j = 0 ∨ va_up A e 1 j = 1 := fun j hj => by
  by_cases k : j = e
  · rw [k, up_s]
    exact Or.inr rfl
  · rw [up_n _ _ k]
    exact h j hj
theorem part_up {can : Nat → Nat → Bool} {d n t : Nat} {A : Nat → Int} {wh : Nat} (h : ∀ f, mtIn d n f → f < t → can wh f = true → A f = 1) : ∀ f, mtIn d n f → f < t + 1 → can wh f = true → va_up A t 1 f = 1 := fun f hf ht hc => by
  by_cases k : f = t
  · rw [k, up_s]
  · rw [up_n _ _ k]
    exact h f hf (by omega) hc
theorem part_sk {can : Nat → Nat → Bool} {d n t : Nat} {A : Nat → Int} {wh : Nat} (h : ∀ f, mtIn d n f → f < t → can wh f = true → A f = 1) (h2 : can wh t = true → A t = 1) : ∀ f, mtIn d n f → f < t + 1 → can wh f = true → A f = 1 := fun f hf ht hc => by
  by_cases k : f = t
  · subst k
    exact h2 hc
  · exact h f hf (by omega) hc
