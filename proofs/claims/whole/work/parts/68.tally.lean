/-! STROKES, RELAYS: both sides agree -/
def rTal (u : gS) : Prop := (u.1 15 = u.1 26 ∧ 0 ≤ u.1 15 ∧ u.1 15 ≤ 60 ∧ ∀ j : Nat, (j : Int) < u.1 15 → u.2.1 22 j = u.2.1 46 j) ∧ (u.1 16 = u.1 27 ∧ 0 ≤ u.1 16 ∧ u.1 16 ≤ 6 ∧ ∀ j : Nat, (j : Int) < u.1 16 → u.2.1 23 j = u.2.1 47 j) ∧ (u.1 17 = u.1 28 ∧ 0 ≤ u.1 17 ∧ u.1 17 ≤ 40 ∧ ∀ j : Nat, (j : Int) < u.1 17 → u.2.1 24 j = u.2.1 48 j)
theorem spStop_congr {F G : Nat → Int} {c f k : Int} (h : ∀ j : Nat, (j : Int) < c → F j = G j) : ∀ (n : Nat) (i run : Int), 0 ≤ i → spStop F c f k n i run = spStop G c f k n i run
  | 0, _, _, _ => rfl
  | n + 1, i, run, hi => by
    unfold spStop
    by_cases hc : i < c
    · rw [if_pos hc, if_pos hc, h i.toNat (by omega), spStop_congr h n (i + 1) (run + 1) (by omega), spStop_congr h n (i + 1) 0 (by omega)]
    · rw [if_neg hc, if_neg hc]
theorem spFloor_congr {F G : Nat → Int} {c k : Int} (h : ∀ j : Nat, (j : Int) < c → F j = G j) : ∀ (n : Nat) (f : Int), spFloor F c k n f = spFloor G c k n f
  | 0, _ => rfl
  | n + 1, f => by
    unfold spFloor
    rw [spStop_congr h 61 0 0 (by decide), spFloor_congr h n (f + 1)]
theorem mVoidL_congr {T T' O O' : Nat → Int} {t o : Int} (ho : 0 < o) (h1 : ∀ j : Nat, (j : Int) < t → T j = T' j) (h2 : ∀ j : Nat, (j : Int) < o → O j = O' j) : ∀ (n : Nat) (i : Int), 0 ≤ i → mVoidL T O t o n i = mVoidL T' O' t o n i
  | 0, _, _ => rfl
  | n + 1, i, hi => by
    unfold mVoidL
    by_cases hc : i < t
    · have hm := Int.emod_nonneg i (show o ≠ 0 by omega)
      have hl := Int.emod_lt_of_pos i ho
      rw [if_pos hc, if_pos hc, h1 i.toNat (by omega), h2 (i % o).toNat (by omega), mVoidL_congr ho h1 h2 n (i + 1) (by omega)]
    · rw [if_neg hc, if_neg hc]
theorem stop_eq {u : gS} (h : rTal u) (f k : Int) : cStop u f k = mStop u f k := by
  unfold cStop mStop
  rw [← h.1.1, spStop_congr h.1.2.2.2 61 0 0 (by decide)]
theorem floor_eq {u : gS} (h : rTal u) (k : Int) : cFloor u k = mFloor u k := by
  unfold cFloor mFloor
  rw [← h.1.1, spFloor_congr h.1.2.2.2 101 0]
theorem voided_eq {u : gS} (h : rTal u) : cVoided u = mVoided u := by
  unfold cVoided mVoided
  rw [← h.2.1.1, ← h.2.2.1]
  by_cases h0 : u.1 16 = 0
  · rw [if_pos h0, if_pos h0]
  · rw [if_neg h0, if_neg h0, mVoidL_congr (by have := h.2.1.2.1; omega) h.2.2.2.2.2 h.2.1.2.2.2 41 0 (by decide)]
