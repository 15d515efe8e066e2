theorem gO_0 (ad : Nat → Nat) (I : Nat → Int) (v : Int) : ∀ j, j < 9 → j ≠ 0 → gObj ad (va_up I 0 v) j = gObj ad I j := by
  intro j hj hn
  rcases (show j = 0 ∨ j = 1 ∨ j = 2 ∨ j = 3 ∨ j = 4 ∨ j = 5 ∨ j = 6 ∨ j = 7 ∨ j = 8 by omega) with rfl | rfl | rfl | rfl | rfl | rfl | rfl | rfl | rfl <;> first | exact absurd rfl hn | rfl
theorem gO_1 (ad : Nat → Nat) (I : Nat → Int) (v : Int) : ∀ j, j < 9 → j ≠ 0 → gObj ad (va_up I 1 v) j = gObj ad I j := by
  intro j hj hn
  rcases (show j = 0 ∨ j = 1 ∨ j = 2 ∨ j = 3 ∨ j = 4 ∨ j = 5 ∨ j = 6 ∨ j = 7 ∨ j = 8 by omega) with rfl | rfl | rfl | rfl | rfl | rfl | rfl | rfl | rfl <;> first | exact absurd rfl hn | rfl
theorem gO_2 (ad : Nat → Nat) (I : Nat → Int) (v : Int) : ∀ j, j < 9 → j ≠ 0 → gObj ad (va_up I 2 v) j = gObj ad I j := by
  intro j hj hn
  rcases (show j = 0 ∨ j = 1 ∨ j = 2 ∨ j = 3 ∨ j = 4 ∨ j = 5 ∨ j = 6 ∨ j = 7 ∨ j = 8 by omega) with rfl | rfl | rfl | rfl | rfl | rfl | rfl | rfl | rfl <;> first | exact absurd rfl hn | rfl
theorem gO_3 (ad : Nat → Nat) (I : Nat → Int) (v : Int) : ∀ j, j < 9 → j ≠ 0 → gObj ad (va_up I 3 v) j = gObj ad I j := by
  intro j hj hn
  rcases (show j = 0 ∨ j = 1 ∨ j = 2 ∨ j = 3 ∨ j = 4 ∨ j = 5 ∨ j = 6 ∨ j = 7 ∨ j = 8 by omega) with rfl | rfl | rfl | rfl | rfl | rfl | rfl | rfl | rfl <;> first | exact absurd rfl hn | rfl
theorem gO_4 (ad : Nat → Nat) (I : Nat → Int) (v : Int) : ∀ j, j < 9 → j ≠ 1 → gObj ad (va_up I 4 v) j = gObj ad I j := by
  intro j hj hn
  rcases (show j = 0 ∨ j = 1 ∨ j = 2 ∨ j = 3 ∨ j = 4 ∨ j = 5 ∨ j = 6 ∨ j = 7 ∨ j = 8 by omega) with rfl | rfl | rfl | rfl | rfl | rfl | rfl | rfl | rfl <;> first | exact absurd rfl hn | rfl
theorem gO_5 (ad : Nat → Nat) (I : Nat → Int) (v : Int) : ∀ j, j < 9 → j ≠ 2 → gObj ad (va_up I 5 v) j = gObj ad I j := by
  intro j hj hn
  rcases (show j = 0 ∨ j = 1 ∨ j = 2 ∨ j = 3 ∨ j = 4 ∨ j = 5 ∨ j = 6 ∨ j = 7 ∨ j = 8 by omega) with rfl | rfl | rfl | rfl | rfl | rfl | rfl | rfl | rfl <;> first | exact absurd rfl hn | rfl
theorem gO_6 (ad : Nat → Nat) (I : Nat → Int) (v : Int) : ∀ j, j < 9 → j ≠ 2 → gObj ad (va_up I 6 v) j = gObj ad I j := by
  intro j hj hn
  rcases (show j = 0 ∨ j = 1 ∨ j = 2 ∨ j = 3 ∨ j = 4 ∨ j = 5 ∨ j = 6 ∨ j = 7 ∨ j = 8 by omega) with rfl | rfl | rfl | rfl | rfl | rfl | rfl | rfl | rfl <;> first | exact absurd rfl hn | rfl
theorem gO_7 (ad : Nat → Nat) (I : Nat → Int) (v : Int) : ∀ j, j < 9 → j ≠ 2 → gObj ad (va_up I 7 v) j = gObj ad I j := by
  intro j hj hn
  rcases (show j = 0 ∨ j = 1 ∨ j = 2 ∨ j = 3 ∨ j = 4 ∨ j = 5 ∨ j = 6 ∨ j = 7 ∨ j = 8 by omega) with rfl | rfl | rfl | rfl | rfl | rfl | rfl | rfl | rfl <;> first | exact absurd rfl hn | rfl
theorem gO_8 (ad : Nat → Nat) (I : Nat → Int) (v : Int) : ∀ j, j < 9 → j ≠ 2 → gObj ad (va_up I 8 v) j = gObj ad I j := by
  intro j hj hn
  rcases (show j = 0 ∨ j = 1 ∨ j = 2 ∨ j = 3 ∨ j = 4 ∨ j = 5 ∨ j = 6 ∨ j = 7 ∨ j = 8 by omega) with rfl | rfl | rfl | rfl | rfl | rfl | rfl | rfl | rfl <;> first | exact absurd rfl hn | rfl
theorem gO_9 (ad : Nat → Nat) (I : Nat → Int) (v : Int) : ∀ j, j < 9 → j ≠ 2 → gObj ad (va_up I 9 v) j = gObj ad I j := by
  intro j hj hn
  rcases (show j = 0 ∨ j = 1 ∨ j = 2 ∨ j = 3 ∨ j = 4 ∨ j = 5 ∨ j = 6 ∨ j = 7 ∨ j = 8 by omega) with rfl | rfl | rfl | rfl | rfl | rfl | rfl | rfl | rfl <;> first | exact absurd rfl hn | rfl
theorem gO_10 (ad : Nat → Nat) (I : Nat → Int) (v : Int) : ∀ j, j < 9 → j ≠ 3 → gObj ad (va_up I 10 v) j = gObj ad I j := by
  intro j hj hn
  rcases (show j = 0 ∨ j = 1 ∨ j = 2 ∨ j = 3 ∨ j = 4 ∨ j = 5 ∨ j = 6 ∨ j = 7 ∨ j = 8 by omega) with rfl | rfl | rfl | rfl | rfl | rfl | rfl | rfl | rfl <;> first | exact absurd rfl hn | rfl
theorem gO_11 (ad : Nat → Nat) (I : Nat → Int) (v : Int) : ∀ j, j < 9 → j ≠ 3 → gObj ad (va_up I 11 v) j = gObj ad I j := by
  intro j hj hn
  rcases (show j = 0 ∨ j = 1 ∨ j = 2 ∨ j = 3 ∨ j = 4 ∨ j = 5 ∨ j = 6 ∨ j = 7 ∨ j = 8 by omega) with rfl | rfl | rfl | rfl | rfl | rfl | rfl | rfl | rfl <;> first | exact absurd rfl hn | rfl
theorem gO_12 (ad : Nat → Nat) (I : Nat → Int) (v : Int) : ∀ j, j < 9 → j ≠ 3 → gObj ad (va_up I 12 v) j = gObj ad I j := by
  intro j hj hn
  rcases (show j = 0 ∨ j = 1 ∨ j = 2 ∨ j = 3 ∨ j = 4 ∨ j = 5 ∨ j = 6 ∨ j = 7 ∨ j = 8 by omega) with rfl | rfl | rfl | rfl | rfl | rfl | rfl | rfl | rfl <;> first | exact absurd rfl hn | rfl
theorem gO_13 (ad : Nat → Nat) (I : Nat → Int) (v : Int) : ∀ j, j < 9 → j ≠ 3 → gObj ad (va_up I 13 v) j = gObj ad I j := by
  intro j hj hn
  rcases (show j = 0 ∨ j = 1 ∨ j = 2 ∨ j = 3 ∨ j = 4 ∨ j = 5 ∨ j = 6 ∨ j = 7 ∨ j = 8 by omega) with rfl | rfl | rfl | rfl | rfl | rfl | rfl | rfl | rfl <;> first | exact absurd rfl hn | rfl
theorem gO_14 (ad : Nat → Nat) (I : Nat → Int) (v : Int) : ∀ j, j < 9 → j ≠ 3 → gObj ad (va_up I 14 v) j = gObj ad I j := by
  intro j hj hn
  rcases (show j = 0 ∨ j = 1 ∨ j = 2 ∨ j = 3 ∨ j = 4 ∨ j = 5 ∨ j = 6 ∨ j = 7 ∨ j = 8 by omega) with rfl | rfl | rfl | rfl | rfl | rfl | rfl | rfl | rfl <;> first | exact absurd rfl hn | rfl
theorem gO_15 (ad : Nat → Nat) (I : Nat → Int) (v : Int) : ∀ j, j < 9 → j ≠ 4 → gObj ad (va_up I 15 v) j = gObj ad I j := by
  intro j hj hn
  rcases (show j = 0 ∨ j = 1 ∨ j = 2 ∨ j = 3 ∨ j = 4 ∨ j = 5 ∨ j = 6 ∨ j = 7 ∨ j = 8 by omega) with rfl | rfl | rfl | rfl | rfl | rfl | rfl | rfl | rfl <;> first | exact absurd rfl hn | rfl
theorem gO_16 (ad : Nat → Nat) (I : Nat → Int) (v : Int) : ∀ j, j < 9 → j ≠ 5 → gObj ad (va_up I 16 v) j = gObj ad I j := by
  intro j hj hn
  rcases (show j = 0 ∨ j = 1 ∨ j = 2 ∨ j = 3 ∨ j = 4 ∨ j = 5 ∨ j = 6 ∨ j = 7 ∨ j = 8 by omega) with rfl | rfl | rfl | rfl | rfl | rfl | rfl | rfl | rfl <;> first | exact absurd rfl hn | rfl
theorem gO_17 (ad : Nat → Nat) (I : Nat → Int) (v : Int) : ∀ j, j < 9 → j ≠ 6 → gObj ad (va_up I 17 v) j = gObj ad I j := by
  intro j hj hn
  rcases (show j = 0 ∨ j = 1 ∨ j = 2 ∨ j = 3 ∨ j = 4 ∨ j = 5 ∨ j = 6 ∨ j = 7 ∨ j = 8 by omega) with rfl | rfl | rfl | rfl | rfl | rfl | rfl | rfl | rfl <;> first | exact absurd rfl hn | rfl
theorem gO_18 (ad : Nat → Nat) (I : Nat → Int) (v : Int) : ∀ j, j < 9 → j ≠ 7 → gObj ad (va_up I 18 v) j = gObj ad I j := by
  intro j hj hn
  rcases (show j = 0 ∨ j = 1 ∨ j = 2 ∨ j = 3 ∨ j = 4 ∨ j = 5 ∨ j = 6 ∨ j = 7 ∨ j = 8 by omega) with rfl | rfl | rfl | rfl | rfl | rfl | rfl | rfl | rfl <;> first | exact absurd rfl hn | rfl
theorem gO_19 (ad : Nat → Nat) (I : Nat → Int) (v : Int) : ∀ j, j < 9 → j ≠ 7 → gObj ad (va_up I 19 v) j = gObj ad I j := by
  intro j hj hn
  rcases (show j = 0 ∨ j = 1 ∨ j = 2 ∨ j = 3 ∨ j = 4 ∨ j = 5 ∨ j = 6 ∨ j = 7 ∨ j = 8 by omega) with rfl | rfl | rfl | rfl | rfl | rfl | rfl | rfl | rfl <;> first | exact absurd rfl hn | rfl
theorem gO_20 (ad : Nat → Nat) (I : Nat → Int) (v : Int) : ∀ j, j < 9 → j ≠ 8 → gObj ad (va_up I 20 v) j = gObj ad I j := by
  intro j hj hn
  rcases (show j = 0 ∨ j = 1 ∨ j = 2 ∨ j = 3 ∨ j = 4 ∨ j = 5 ∨ j = 6 ∨ j = 7 ∨ j = 8 by omega) with rfl | rfl | rfl | rfl | rfl | rfl | rfl | rfl | rfl <;> first | exact absurd rfl hn | rfl
theorem gO_21 (ad : Nat → Nat) (I : Nat → Int) (v : Int) : ∀ j, j < 9 → j ≠ 8 → gObj ad (va_up I 21 v) j = gObj ad I j := by
  intro j hj hn
  rcases (show j = 0 ∨ j = 1 ∨ j = 2 ∨ j = 3 ∨ j = 4 ∨ j = 5 ∨ j = 6 ∨ j = 7 ∨ j = 8 by omega) with rfl | rfl | rfl | rfl | rfl | rfl | rfl | rfl | rfl <;> first | exact absurd rfl hn | rfl
theorem gO_22 (ad : Nat → Nat) (I : Nat → Int) (v : Int) : ∀ j, j < 9 → j ≠ 8 → gObj ad (va_up I 22 v) j = gObj ad I j := by
  intro j hj hn
  rcases (show j = 0 ∨ j = 1 ∨ j = 2 ∨ j = 3 ∨ j = 4 ∨ j = 5 ∨ j = 6 ∨ j = 7 ∨ j = 8 by omega) with rfl | rfl | rfl | rfl | rfl | rfl | rfl | rfl | rfl <;> first | exact absurd rfl hn | rfl
theorem gO_23 (ad : Nat → Nat) (I : Nat → Int) (v : Int) : ∀ j, j < 9 → j ≠ 8 → gObj ad (va_up I 23 v) j = gObj ad I j := by
  intro j hj hn
  rcases (show j = 0 ∨ j = 1 ∨ j = 2 ∨ j = 3 ∨ j = 4 ∨ j = 5 ∨ j = 6 ∨ j = 7 ∨ j = 8 by omega) with rfl | rfl | rfl | rfl | rfl | rfl | rfl | rfl | rfl <;> first | exact absurd rfl hn | rfl
theorem gO_24 (ad : Nat → Nat) (I : Nat → Int) (v : Int) : ∀ j, j < 9 → j ≠ 8 → gObj ad (va_up I 24 v) j = gObj ad I j := by
  intro j hj hn
  rcases (show j = 0 ∨ j = 1 ∨ j = 2 ∨ j = 3 ∨ j = 4 ∨ j = 5 ∨ j = 6 ∨ j = 7 ∨ j = 8 by omega) with rfl | rfl | rfl | rfl | rfl | rfl | rfl | rfl | rfl <;> first | exact absurd rfl hn | rfl
theorem gO_25 (ad : Nat → Nat) (I : Nat → Int) (v : Int) : ∀ j, j < 9 → j ≠ 8 → gObj ad (va_up I 25 v) j = gObj ad I j := by
  intro j hj hn
  rcases (show j = 0 ∨ j = 1 ∨ j = 2 ∨ j = 3 ∨ j = 4 ∨ j = 5 ∨ j = 6 ∨ j = 7 ∨ j = 8 by omega) with rfl | rfl | rfl | rfl | rfl | rfl | rfl | rfl | rfl <;> first | exact absurd rfl hn | rfl
theorem gO_26 (ad : Nat → Nat) (I : Nat → Int) (v : Int) : ∀ j, j < 9 → j ≠ 8 → gObj ad (va_up I 26 v) j = gObj ad I j := by
  intro j hj hn
  rcases (show j = 0 ∨ j = 1 ∨ j = 2 ∨ j = 3 ∨ j = 4 ∨ j = 5 ∨ j = 6 ∨ j = 7 ∨ j = 8 by omega) with rfl | rfl | rfl | rfl | rfl | rfl | rfl | rfl | rfl <;> first | exact absurd rfl hn | rfl
theorem gO_27 (ad : Nat → Nat) (I : Nat → Int) (v : Int) : ∀ j, j < 9 → j ≠ 8 → gObj ad (va_up I 27 v) j = gObj ad I j := by
  intro j hj hn
  rcases (show j = 0 ∨ j = 1 ∨ j = 2 ∨ j = 3 ∨ j = 4 ∨ j = 5 ∨ j = 6 ∨ j = 7 ∨ j = 8 by omega) with rfl | rfl | rfl | rfl | rfl | rfl | rfl | rfl | rfl <;> first | exact absurd rfl hn | rfl
theorem gO_28 (ad : Nat → Nat) (I : Nat → Int) (v : Int) : ∀ j, j < 9 → j ≠ 8 → gObj ad (va_up I 28 v) j = gObj ad I j := by
  intro j hj hn
  rcases (show j = 0 ∨ j = 1 ∨ j = 2 ∨ j = 3 ∨ j = 4 ∨ j = 5 ∨ j = 6 ∨ j = 7 ∨ j = 8 by omega) with rfl | rfl | rfl | rfl | rfl | rfl | rfl | rfl | rfl <;> first | exact absurd rfl hn | rfl
theorem z_max {a b : Int} (a1 : -2147483648 ≤ a) (a2 : a < 2147483648) (b1 : -2147483648 ≤ b) (b2 : b < 2147483648) : (if zI a < zI b then zI b else zI a) = zI (if a < b then b else a) := by
  by_cases h : a < b
  · rw [if_pos h, if_pos ((zI_lt a1 a2 b1 b2).mpr h)]
  · rw [if_neg h, if_neg (fun q => h ((zI_lt a1 a2 b1 b2).mp q))]
theorem z_abs {a : Int} (a1 : -2147483648 ≤ a) (a2 : a < 2147483648) : (if 0 ≤ zI a then zI a else 0 - zI a) = zI (if 0 ≤ a then a else 0 - a) := by
  have e0 : (0 : Int32) = zI 0 := rfl
  rw [e0, zI_sub]
  by_cases h : 0 ≤ a
  · rw [if_pos h, if_pos ((zI_le (by omega) (by omega) a1 a2).mpr h)]
  · rw [if_neg h, if_neg (fun q => h ((zI_le (by omega) (by omega) a1 a2).mp q))]
theorem up_s {α : Type} (f : Nat → α) (k : Nat) (v : α) : va_up f k v k = v := if_pos rfl
theorem up_n {α : Type} (f : Nat → α) {k j : Nat} (v : α) (h : j ≠ k) : va_up f k v j = f j := if_neg h
