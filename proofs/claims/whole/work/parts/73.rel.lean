def mI (u : gS) : Prop := (0 ≤ u.1 21 ∧ u.1 21 ≤ 20) ∧ (1 ≤ u.1 22 ∧ u.1 22 ≤ 60) ∧ (0 ≤ u.1 23 ∧ u.1 23 ≤ 10) ∧ (-1 ≤ u.1 24 ∧ u.1 24 ≤ 9) ∧ (0 ≤ u.1 25 ∧ u.1 25 ≤ 8) ∧ (0 ≤ u.1 26 ∧ u.1 26 ≤ 60) ∧ (0 ≤ u.1 27 ∧ u.1 27 ≤ 6) ∧ (0 ≤ u.1 28 ∧ u.1 28 ≤ 40) ∧ (∀ j, j < 288 → u.2.1 31 j = 0 ∨ u.2.1 31 j = 1) ∧ (∀ j, j < 36 → -9 ≤ u.2.1 32 j ∧ u.2.1 32 j ≤ 9) ∧ (∀ j, j < 36 → -9 ≤ u.2.1 33 j ∧ u.2.1 33 j ≤ 9) ∧ (∀ j, j < 10 → 0 ≤ u.2.1 34 j ∧ u.2.1 34 j ≤ 3) ∧ (∀ j, j < 10 → 0 ≤ u.2.1 35 j ∧ u.2.1 35 j ≤ 20) ∧ (∀ j, j < 10 → 0 ≤ u.2.1 36 j ∧ u.2.1 36 j ≤ 400) ∧ (∀ j, j < 10 → 0 ≤ u.2.1 37 j ∧ u.2.1 37 j ≤ 40) ∧ (∀ j, j < 202 → -1000 ≤ u.2.1 38 j ∧ u.2.1 38 j ≤ 1000) ∧ (∀ j, j < 202 → -1000 ≤ u.2.1 39 j ∧ u.2.1 39 j ≤ 1000) ∧ (∀ j, j < 2 → 0 ≤ u.2.1 40 j ∧ u.2.1 40 j ≤ 100) ∧ (∀ j, j < 2 → 0 ≤ u.2.1 41 j ∧ u.2.1 41 j ≤ 100000) ∧ (∀ j, j < 8 → 0 ≤ u.2.1 42 j ∧ u.2.1 42 j ≤ 239) ∧ (∀ j, j < 8 → 0 ≤ u.2.1 43 j ∧ u.2.1 43 j ≤ 239) ∧ (∀ j, j < 8 → -20 ≤ u.2.1 44 j ∧ u.2.1 44 j ≤ 20) ∧ (∀ j, j < 8 → -20 ≤ u.2.1 45 j ∧ u.2.1 45 j ≤ 20) ∧ (∀ j, j < 60 → 0 ≤ u.2.1 46 j ∧ u.2.1 46 j ≤ 99) ∧ (∀ j, j < 6 → 0 ≤ u.2.1 47 j ∧ u.2.1 47 j ≤ 15) ∧ (∀ j, j < 40 → 0 ≤ u.2.1 48 j ∧ u.2.1 48 j ≤ 15) ∧ (∀ j, j < 16 → u.2.1 49 j = 0 ∨ u.2.1 49 j = 1) ∧ (∀ j, j < 10 → 0 ≤ u.2.1 50 j ∧ u.2.1 50 j ≤ 3) ∧ (∀ j, j < 10 → 0 ≤ u.2.1 51 j ∧ u.2.1 51 j ≤ 4) ∧ (∀ j, j < 16 → -1 ≤ u.2.1 53 j ∧ u.2.1 53 j ≤ 9) ∧ (∀ j, j < 10 → u.2.1 54 j = 0 ∨ u.2.1 54 j = 1) ∧ (∀ j : Nat, u.1 23 ≤ (j : Int) → j < 10 → u.2.1 51 j = 0) ∧ (∀ j, j < 8 → 0 ≤ u.2.1 58 j ∧ u.2.1 58 j ≤ 4) ∧ (∀ j, j < 8 → 0 ≤ u.2.1 59 j ∧ u.2.1 59 j ≤ 9) ∧ (∀ j, j < 8 → 0 ≤ u.2.1 60 j ∧ u.2.1 60 j ≤ 3) ∧ (∀ j, j < 8 → 0 ≤ u.2.1 61 j ∧ u.2.1 61 j ≤ 100000) ∧ (∀ j, j < 8 → 0 ≤ u.2.1 62 j ∧ u.2.1 62 j ≤ 202)
theorem mI.i21 {u : gS} (h : mI u) : 0 ≤ u.1 21 ∧ u.1 21 ≤ 20 := h.1
theorem mI.i22 {u : gS} (h : mI u) : 1 ≤ u.1 22 ∧ u.1 22 ≤ 60 := h.2.1
theorem mI.i23 {u : gS} (h : mI u) : 0 ≤ u.1 23 ∧ u.1 23 ≤ 10 := h.2.2.1
theorem mI.i24 {u : gS} (h : mI u) : -1 ≤ u.1 24 ∧ u.1 24 ≤ 9 := h.2.2.2.1
theorem mI.i25 {u : gS} (h : mI u) : 0 ≤ u.1 25 ∧ u.1 25 ≤ 8 := h.2.2.2.2.1
theorem mI.i26 {u : gS} (h : mI u) : 0 ≤ u.1 26 ∧ u.1 26 ≤ 60 := h.2.2.2.2.2.1
theorem mI.i27 {u : gS} (h : mI u) : 0 ≤ u.1 27 ∧ u.1 27 ≤ 6 := h.2.2.2.2.2.2.1
theorem mI.i28 {u : gS} (h : mI u) : 0 ≤ u.1 28 ∧ u.1 28 ≤ 40 := h.2.2.2.2.2.2.2.1
theorem mI.b31 {u : gS} (h : mI u) : ∀ j, j < 288 → u.2.1 31 j = 0 ∨ u.2.1 31 j = 1 := h.2.2.2.2.2.2.2.2.1
theorem mI.i32 {u : gS} (h : mI u) : ∀ j, j < 36 → -9 ≤ u.2.1 32 j ∧ u.2.1 32 j ≤ 9 := h.2.2.2.2.2.2.2.2.2.1
theorem mI.i33 {u : gS} (h : mI u) : ∀ j, j < 36 → -9 ≤ u.2.1 33 j ∧ u.2.1 33 j ≤ 9 := h.2.2.2.2.2.2.2.2.2.2.1
theorem mI.i34 {u : gS} (h : mI u) : ∀ j, j < 10 → 0 ≤ u.2.1 34 j ∧ u.2.1 34 j ≤ 3 := h.2.2.2.2.2.2.2.2.2.2.2.1
theorem mI.i35 {u : gS} (h : mI u) : ∀ j, j < 10 → 0 ≤ u.2.1 35 j ∧ u.2.1 35 j ≤ 20 := h.2.2.2.2.2.2.2.2.2.2.2.2.1
theorem mI.i36 {u : gS} (h : mI u) : ∀ j, j < 10 → 0 ≤ u.2.1 36 j ∧ u.2.1 36 j ≤ 400 := h.2.2.2.2.2.2.2.2.2.2.2.2.2.1
theorem mI.i37 {u : gS} (h : mI u) : ∀ j, j < 10 → 0 ≤ u.2.1 37 j ∧ u.2.1 37 j ≤ 40 := h.2.2.2.2.2.2.2.2.2.2.2.2.2.2.1
theorem mI.i38 {u : gS} (h : mI u) : ∀ j, j < 202 → -1000 ≤ u.2.1 38 j ∧ u.2.1 38 j ≤ 1000 := h.2.2.2.2.2.2.2.2.2.2.2.2.2.2.2.1
theorem mI.i39 {u : gS} (h : mI u) : ∀ j, j < 202 → -1000 ≤ u.2.1 39 j ∧ u.2.1 39 j ≤ 1000 := h.2.2.2.2.2.2.2.2.2.2.2.2.2.2.2.2.1
theorem mI.i40 {u : gS} (h : mI u) : ∀ j, j < 2 → 0 ≤ u.2.1 40 j ∧ u.2.1 40 j ≤ 100 := h.2.2.2.2.2.2.2.2.2.2.2.2.2.2.2.2.2.1
theorem mI.i41 {u : gS} (h : mI u) : ∀ j, j < 2 → 0 ≤ u.2.1 41 j ∧ u.2.1 41 j ≤ 100000 := h.2.2.2.2.2.2.2.2.2.2.2.2.2.2.2.2.2.2.1
theorem mI.i42 {u : gS} (h : mI u) : ∀ j, j < 8 → 0 ≤ u.2.1 42 j ∧ u.2.1 42 j ≤ 239 := h.2.2.2.2.2.2.2.2.2.2.2.2.2.2.2.2.2.2.2.1
theorem mI.i43 {u : gS} (h : mI u) : ∀ j, j < 8 → 0 ≤ u.2.1 43 j ∧ u.2.1 43 j ≤ 239 := h.2.2.2.2.2.2.2.2.2.2.2.2.2.2.2.2.2.2.2.2.1
theorem mI.i44 {u : gS} (h : mI u) : ∀ j, j < 8 → -20 ≤ u.2.1 44 j ∧ u.2.1 44 j ≤ 20 := h.2.2.2.2.2.2.2.2.2.2.2.2.2.2.2.2.2.2.2.2.2.1
theorem mI.i45 {u : gS} (h : mI u) : ∀ j, j < 8 → -20 ≤ u.2.1 45 j ∧ u.2.1 45 j ≤ 20 := h.2.2.2.2.2.2.2.2.2.2.2.2.2.2.2.2.2.2.2.2.2.2.1
theorem mI.i46 {u : gS} (h : mI u) : ∀ j, j < 60 → 0 ≤ u.2.1 46 j ∧ u.2.1 46 j ≤ 99 := h.2.2.2.2.2.2.2.2.2.2.2.2.2.2.2.2.2.2.2.2.2.2.2.1
theorem mI.i47 {u : gS} (h : mI u) : ∀ j, j < 6 → 0 ≤ u.2.1 47 j ∧ u.2.1 47 j ≤ 15 := h.2.2.2.2.2.2.2.2.2.2.2.2.2.2.2.2.2.2.2.2.2.2.2.2.1
theorem mI.i48 {u : gS} (h : mI u) : ∀ j, j < 40 → 0 ≤ u.2.1 48 j ∧ u.2.1 48 j ≤ 15 := h.2.2.2.2.2.2.2.2.2.2.2.2.2.2.2.2.2.2.2.2.2.2.2.2.2.1
theorem mI.b49 {u : gS} (h : mI u) : ∀ j, j < 16 → u.2.1 49 j = 0 ∨ u.2.1 49 j = 1 := h.2.2.2.2.2.2.2.2.2.2.2.2.2.2.2.2.2.2.2.2.2.2.2.2.2.2.1
theorem mI.i50 {u : gS} (h : mI u) : ∀ j, j < 10 → 0 ≤ u.2.1 50 j ∧ u.2.1 50 j ≤ 3 := h.2.2.2.2.2.2.2.2.2.2.2.2.2.2.2.2.2.2.2.2.2.2.2.2.2.2.2.1
theorem mI.i51 {u : gS} (h : mI u) : ∀ j, j < 10 → 0 ≤ u.2.1 51 j ∧ u.2.1 51 j ≤ 4 := h.2.2.2.2.2.2.2.2.2.2.2.2.2.2.2.2.2.2.2.2.2.2.2.2.2.2.2.2.1
theorem mI.i53 {u : gS} (h : mI u) : ∀ j, j < 16 → -1 ≤ u.2.1 53 j ∧ u.2.1 53 j ≤ 9 := h.2.2.2.2.2.2.2.2.2.2.2.2.2.2.2.2.2.2.2.2.2.2.2.2.2.2.2.2.2.1
theorem mI.b54 {u : gS} (h : mI u) : ∀ j, j < 10 → u.2.1 54 j = 0 ∨ u.2.1 54 j = 1 := h.2.2.2.2.2.2.2.2.2.2.2.2.2.2.2.2.2.2.2.2.2.2.2.2.2.2.2.2.2.2.1
theorem mI.z51 {u : gS} (h : mI u) : ∀ j : Nat, u.1 23 ≤ (j : Int) → j < 10 → u.2.1 51 j = 0 := h.2.2.2.2.2.2.2.2.2.2.2.2.2.2.2.2.2.2.2.2.2.2.2.2.2.2.2.2.2.2.2.1
theorem mI.i58 {u : gS} (h : mI u) : ∀ j, j < 8 → 0 ≤ u.2.1 58 j ∧ u.2.1 58 j ≤ 4 := h.2.2.2.2.2.2.2.2.2.2.2.2.2.2.2.2.2.2.2.2.2.2.2.2.2.2.2.2.2.2.2.2.1
theorem mI.i59 {u : gS} (h : mI u) : ∀ j, j < 8 → 0 ≤ u.2.1 59 j ∧ u.2.1 59 j ≤ 9 := h.2.2.2.2.2.2.2.2.2.2.2.2.2.2.2.2.2.2.2.2.2.2.2.2.2.2.2.2.2.2.2.2.2.1
theorem mI.i60 {u : gS} (h : mI u) : ∀ j, j < 8 → 0 ≤ u.2.1 60 j ∧ u.2.1 60 j ≤ 3 := h.2.2.2.2.2.2.2.2.2.2.2.2.2.2.2.2.2.2.2.2.2.2.2.2.2.2.2.2.2.2.2.2.2.2.1
theorem mI.i61 {u : gS} (h : mI u) : ∀ j, j < 8 → 0 ≤ u.2.1 61 j ∧ u.2.1 61 j ≤ 100000 := h.2.2.2.2.2.2.2.2.2.2.2.2.2.2.2.2.2.2.2.2.2.2.2.2.2.2.2.2.2.2.2.2.2.2.2.1
theorem mI.i62 {u : gS} (h : mI u) : ∀ j, j < 8 → 0 ≤ u.2.1 62 j ∧ u.2.1 62 j ≤ 202 := h.2.2.2.2.2.2.2.2.2.2.2.2.2.2.2.2.2.2.2.2.2.2.2.2.2.2.2.2.2.2.2.2.2.2.2.2
/-- what lies on the d-th shelf is what the reference has there -/
def slX (cy : Nat → ClassId) (u : gS) (d : Nat) : Prop := ∃ (sp li fd : Int) (b : Nat) (g : Nat → Int), slAt cy u d (u.2.1 58 d) (u.2.1 60 d) (u.2.1 59 d) sp li fd b (u.2.1 62 d).toNat g ∧ (u.2.1 58 d = 1 → cHeft (u.2.1 60 d) sp li fd = u.2.1 61 d) ∧ (3 ≤ u.2.1 58 d → ∀ j, j < (u.2.1 62 d).toNat → g j = u.2.1 63 (202 * d + j))
/-- rows of two shelves have items of their own -/
def dB (u : gS) : Prop := ∀ d e, d < 8 → e < 8 → d ≠ e → ∀ (a a' : Nat) (k k' : Value) (b : Nat), u.2.2.1 30 d = some a → u.2.2.1 30 e = some a' → u.2.2.2.2 a = .inr (4, [k, .ref b]) → u.2.2.2.2 a' = .inr (4, [k', .ref b]) → False
/-- no shelf holds a swimmer itself -/
def dS (u : gS) : Prop := ∀ (j d a : Nat), (j : Int) < u.1 0 → d < 8 → u.2.2.1 12 j = some a → u.2.2.1 30 d = some a → False
/-- THE RELATION of the class's state and the reference's -/
def Rel (cy : Nat → ClassId) (u : gS) : Prop := (mI u) ∧ (u.1 0 = u.1 23) ∧ (u.1 1 = u.1 21) ∧ (u.1 2 = u.1 22) ∧ (u.1 3 = u.1 25) ∧ (u.1 4 = spCnt (u.2.1 31) 288 289 0 0) ∧ (0 ≤ u.1 6 ∧ u.1 6 ≤ 100) ∧ (rdI u 15 16 8 9) ∧ (rdI u 19 20 13 14) ∧ (∀ j, j < 288 → u.2.1 9 j = u.2.1 31 j) ∧ (∀ j, j < 36 → u.2.1 10 j = u.2.1 32 j) ∧ (∀ j, j < 36 → u.2.1 11 j = u.2.1 33 j) ∧ (∀ j, j < 101 → 0 ≤ u.2.1 13 j ∧ u.2.1 13 j ≤ 239) ∧ (∀ j, j < 101 → 0 ≤ u.2.1 14 j ∧ u.2.1 14 j ≤ 119) ∧ (rLat u) ∧ (rTal u) ∧ (∀ j, j < 60 → 0 ≤ u.2.1 22 j ∧ u.2.1 22 j ≤ 99) ∧ (∀ j, j < 6 → 0 ≤ u.2.1 23 j ∧ u.2.1 23 j ≤ 15) ∧ (∀ j, j < 40 → 0 ≤ u.2.1 24 j ∧ u.2.1 24 j ≤ 15) ∧ (0 ≤ u.1 18 ∧ u.1 18 ≤ 65535) ∧ (∀ j, j < 10 → u.2.1 25 j = 0 ∨ u.2.1 25 j = 1) ∧ (∀ j, j < 10 → 0 ≤ u.2.1 26 j ∧ u.2.1 26 j ≤ 3) ∧ (∀ j, j < 10 → 0 ≤ u.2.1 27 j ∧ u.2.1 27 j ≤ 4) ∧ (rN u) ∧ (∀ j : Nat, (j : Int) < u.1 0 → ∃ a, swAt u j a (u.2.1 34 j) (u.2.1 35 j) (u.2.1 36 j) (u.2.1 37 j)) ∧ (∀ j : Nat, (j : Int) < u.1 3 → ∃ a, shAt u j a (u.2.1 42 j) (u.2.1 43 j) (u.2.1 44 j) (u.2.1 45 j)) ∧ (dS u) ∧ (∀ d, d < 8 → slX cy u d) ∧ (dB u)
theorem Rel.m {cy : Nat → ClassId} {u : gS} (h : Rel cy u) : mI u := h.1
theorem Rel.e0 {cy : Nat → ClassId} {u : gS} (h : Rel cy u) : u.1 0 = u.1 23 := h.2.1
theorem Rel.e1 {cy : Nat → ClassId} {u : gS} (h : Rel cy u) : u.1 1 = u.1 21 := h.2.2.1
theorem Rel.e2 {cy : Nat → ClassId} {u : gS} (h : Rel cy u) : u.1 2 = u.1 22 := h.2.2.2.1
theorem Rel.e3 {cy : Nat → ClassId} {u : gS} (h : Rel cy u) : u.1 3 = u.1 25 := h.2.2.2.2.1
theorem Rel.e4 {cy : Nat → ClassId} {u : gS} (h : Rel cy u) : u.1 4 = spCnt (u.2.1 31) 288 289 0 0 := h.2.2.2.2.2.1
theorem Rel.c6 {cy : Nat → ClassId} {u : gS} (h : Rel cy u) : 0 ≤ u.1 6 ∧ u.1 6 ≤ 100 := h.2.2.2.2.2.2.1
theorem Rel.rd1 {cy : Nat → ClassId} {u : gS} (h : Rel cy u) : rdI u 15 16 8 9 := h.2.2.2.2.2.2.2.1
theorem Rel.rd2 {cy : Nat → ClassId} {u : gS} (h : Rel cy u) : rdI u 19 20 13 14 := h.2.2.2.2.2.2.2.2.1
theorem Rel.f9 {cy : Nat → ClassId} {u : gS} (h : Rel cy u) : ∀ j, j < 288 → u.2.1 9 j = u.2.1 31 j := h.2.2.2.2.2.2.2.2.2.1
theorem Rel.f10 {cy : Nat → ClassId} {u : gS} (h : Rel cy u) : ∀ j, j < 36 → u.2.1 10 j = u.2.1 32 j := h.2.2.2.2.2.2.2.2.2.2.1
theorem Rel.f11 {cy : Nat → ClassId} {u : gS} (h : Rel cy u) : ∀ j, j < 36 → u.2.1 11 j = u.2.1 33 j := h.2.2.2.2.2.2.2.2.2.2.2.1
theorem Rel.c13 {cy : Nat → ClassId} {u : gS} (h : Rel cy u) : ∀ j, j < 101 → 0 ≤ u.2.1 13 j ∧ u.2.1 13 j ≤ 239 := h.2.2.2.2.2.2.2.2.2.2.2.2.1
theorem Rel.c14 {cy : Nat → ClassId} {u : gS} (h : Rel cy u) : ∀ j, j < 101 → 0 ≤ u.2.1 14 j ∧ u.2.1 14 j ≤ 119 := h.2.2.2.2.2.2.2.2.2.2.2.2.2.1
theorem Rel.lat {cy : Nat → ClassId} {u : gS} (h : Rel cy u) : rLat u := h.2.2.2.2.2.2.2.2.2.2.2.2.2.2.1
theorem Rel.tal {cy : Nat → ClassId} {u : gS} (h : Rel cy u) : rTal u := h.2.2.2.2.2.2.2.2.2.2.2.2.2.2.2.1
theorem Rel.c22 {cy : Nat → ClassId} {u : gS} (h : Rel cy u) : ∀ j, j < 60 → 0 ≤ u.2.1 22 j ∧ u.2.1 22 j ≤ 99 := h.2.2.2.2.2.2.2.2.2.2.2.2.2.2.2.2.1
theorem Rel.c23 {cy : Nat → ClassId} {u : gS} (h : Rel cy u) : ∀ j, j < 6 → 0 ≤ u.2.1 23 j ∧ u.2.1 23 j ≤ 15 := h.2.2.2.2.2.2.2.2.2.2.2.2.2.2.2.2.2.1
theorem Rel.c24 {cy : Nat → ClassId} {u : gS} (h : Rel cy u) : ∀ j, j < 40 → 0 ≤ u.2.1 24 j ∧ u.2.1 24 j ≤ 15 := h.2.2.2.2.2.2.2.2.2.2.2.2.2.2.2.2.2.2.1
theorem Rel.c18 {cy : Nat → ClassId} {u : gS} (h : Rel cy u) : 0 ≤ u.1 18 ∧ u.1 18 ≤ 65535 := h.2.2.2.2.2.2.2.2.2.2.2.2.2.2.2.2.2.2.2.1
theorem Rel.b25 {cy : Nat → ClassId} {u : gS} (h : Rel cy u) : ∀ j, j < 10 → u.2.1 25 j = 0 ∨ u.2.1 25 j = 1 := h.2.2.2.2.2.2.2.2.2.2.2.2.2.2.2.2.2.2.2.2.1
theorem Rel.c26 {cy : Nat → ClassId} {u : gS} (h : Rel cy u) : ∀ j, j < 10 → 0 ≤ u.2.1 26 j ∧ u.2.1 26 j ≤ 3 := h.2.2.2.2.2.2.2.2.2.2.2.2.2.2.2.2.2.2.2.2.2.1
theorem Rel.c27 {cy : Nat → ClassId} {u : gS} (h : Rel cy u) : ∀ j, j < 10 → 0 ≤ u.2.1 27 j ∧ u.2.1 27 j ≤ 4 := h.2.2.2.2.2.2.2.2.2.2.2.2.2.2.2.2.2.2.2.2.2.2.1
theorem Rel.n {cy : Nat → ClassId} {u : gS} (h : Rel cy u) : rN u := h.2.2.2.2.2.2.2.2.2.2.2.2.2.2.2.2.2.2.2.2.2.2.2.1
theorem Rel.sw {cy : Nat → ClassId} {u : gS} (h : Rel cy u) : ∀ j : Nat, (j : Int) < u.1 0 → ∃ a, swAt u j a (u.2.1 34 j) (u.2.1 35 j) (u.2.1 36 j) (u.2.1 37 j) := h.2.2.2.2.2.2.2.2.2.2.2.2.2.2.2.2.2.2.2.2.2.2.2.2.1
theorem Rel.sh {cy : Nat → ClassId} {u : gS} (h : Rel cy u) : ∀ j : Nat, (j : Int) < u.1 3 → ∃ a, shAt u j a (u.2.1 42 j) (u.2.1 43 j) (u.2.1 44 j) (u.2.1 45 j) := h.2.2.2.2.2.2.2.2.2.2.2.2.2.2.2.2.2.2.2.2.2.2.2.2.2.1
theorem Rel.dS {cy : Nat → ClassId} {u : gS} (h : Rel cy u) : dS u := h.2.2.2.2.2.2.2.2.2.2.2.2.2.2.2.2.2.2.2.2.2.2.2.2.2.2.1
theorem Rel.sl {cy : Nat → ClassId} {u : gS} (h : Rel cy u) : ∀ d, d < 8 → slX cy u d := h.2.2.2.2.2.2.2.2.2.2.2.2.2.2.2.2.2.2.2.2.2.2.2.2.2.2.2.1
theorem Rel.dB {cy : Nat → ClassId} {u : gS} (h : Rel cy u) : dB u := h.2.2.2.2.2.2.2.2.2.2.2.2.2.2.2.2.2.2.2.2.2.2.2.2.2.2.2.2
def sM (u v : gS) : Prop := (∀ i, 20 ≤ i → v.1 i = u.1 i) ∧ ∀ k, 31 ≤ k → v.2.1 k = u.2.1 k
theorem sM.rf (u : gS) : sM u u := ⟨fun _ _ => rfl, fun _ _ => rfl⟩
theorem sM.i {u v : gS} (h : sM u v) {k : Nat} (hk : k < 20) (x : Int) : sM u (sI v k x) := ⟨fun i hi => (up_n _ _ (by omega)).trans (h.1 i hi), h.2⟩
theorem sM.f {u v : gS} (h : sM u v) {k : Nat} (hk : k < 31) (x : Nat → Int) : sM u (sF v k x) := ⟨h.1, fun i hi => (up_n _ _ (by omega)).trans (h.2 i hi)⟩
theorem mI.kept {u v : gS} (h : mI u) (hs : sM u v) : mI v := by
  obtain ⟨a, b⟩ := hs
  unfold mI at h ⊢
  simp only [a 21 (by decide), a 22 (by decide), a 23 (by decide), a 24 (by decide), a 25 (by decide), a 26 (by decide), a 27 (by decide), a 28 (by decide), b 31 (by decide), b 32 (by decide), b 33 (by decide), b 34 (by decide), b 35 (by decide), b 36 (by decide), b 37 (by decide), b 38 (by decide), b 39 (by decide), b 40 (by decide), b 41 (by decide), b 42 (by decide), b 43 (by decide), b 44 (by decide), b 45 (by decide), b 46 (by decide), b 47 (by decide), b 48 (by decide), b 49 (by decide), b 50 (by decide), b 51 (by decide), b 53 (by decide), b 54 (by decide), b 58 (by decide), b 59 (by decide), b 60 (by decide), b 61 (by decide), b 62 (by decide)]
  exact h
theorem mI.st {u : gS} (h : mI u) : stI u := ⟨h.i34, h.i35, h.i36, h.i37, h.i32, h.i33, h.b31, h.i21, h.i23⟩
/-- the pool has grown -/
def pE (u w : gS) : Prop := ∀ a, a ∈ u.2.2.2.1 → a ∈ w.2.2.2.1 ∧ w.2.2.2.2 a = u.2.2.2.2 a
theorem pE_push {u w : gS} {q : Nat} {e : va_E} (hq : q ∉ u.2.2.2.1) (h1 : w.2.2.2.1 = u.2.2.2.1 ++ [q]) (h2 : w.2.2.2.2 = va_up u.2.2.2.2 q e) : pE u w := fun a ha => ⟨by rw [h1]; exact List.mem_append_left _ ha, by rw [h2]; exact up_n _ _ (fun h => hq (h ▸ ha))⟩
theorem swAt.ext {u w : gS} {j a : Nat} {k sp li fd : Int} (h : swAt u j a k sp li fd) (h1 : w.2.2.1 12 j = u.2.2.1 12 j) (hp : a ∈ w.2.2.2.1 ∧ w.2.2.2.2 a = u.2.2.2.2 a) : swAt w j a k sp li fd := ⟨h1.trans h.1, hp.1, hp.2.trans h.2.2.1, h.2.2.2⟩
theorem shAt.ext {u w : gS} {j a : Nat} {x y e n : Int} (h : shAt u j a x y e n) (h1 : w.2.2.1 21 j = u.2.2.1 21 j) (hp : a ∈ w.2.2.2.1 ∧ w.2.2.2.2 a = u.2.2.2.2 a) : shAt w j a x y e n := ⟨h1.trans h.1, hp.1, hp.2.trans h.2.2.1, h.2.2.2⟩
theorem slAt.ext {cy : Nat → ClassId} {u w : gS} {d : Nat} {k kd nm sp li fd : Int} {b n : Nat} {g : Nat → Int} (h : slAt cy u d k kd nm sp li fd b n g) (h1 : w.2.2.1 30 d = u.2.2.1 30 d) (ha : ∀ a, u.2.2.1 30 d = some a → a ∈ u.2.2.2.1 → a ∈ w.2.2.2.1 ∧ w.2.2.2.2 a = u.2.2.2.2 a) (hb : ∀ a, u.2.2.1 30 d = some a → u.2.2.2.2 a = .inr (4, [.int (zI k), .ref b]) → b ∈ u.2.2.2.1 → u.2.2.2.2 b = .inl (cy 1, n, .inl (fun j => zI (g j))) → b ∈ w.2.2.2.1 ∧ w.2.2.2.2 b = u.2.2.2.2 b) : slAt cy w d k kd nm sp li fd b n g := by
  rcases h with ⟨a1, a2⟩ | ⟨a, a1, a2, a3, a4, a5, a6, a7, a8⟩ | ⟨a, a1, a2, a3, a4, a5, a6, a7, a8⟩
  · exact Or.inl ⟨h1.trans a1, a2⟩
  · exact Or.inr (Or.inl ⟨a, h1.trans a1, (ha a a1 a2).1, a3, a4, a5, a6, a7, (ha a a1 a2).2.trans a8⟩)
  · exact Or.inr (Or.inr ⟨a, h1.trans a1, (ha a a1 a2).1, a3, (ha a a1 a2).2.trans a4, (hb a a1 a4 a5 a6).1, (hb a a1 a4 a5 a6).2.trans a6, a7, a8⟩)
theorem slX.ext {cy : Nat → ClassId} {u w : gS} {d : Nat} (h : slX cy u d) (h1 : w.2.2.1 30 d = u.2.2.1 30 d) (hp : pE u w) (h58 : w.2.1 58 d = u.2.1 58 d) (h59 : w.2.1 59 d = u.2.1 59 d) (h60 : w.2.1 60 d = u.2.1 60 d) (h61 : w.2.1 61 d = u.2.1 61 d) (h62 : w.2.1 62 d = u.2.1 62 d) (h63 : ∀ j, j < (u.2.1 62 d).toNat → w.2.1 63 (202 * d + j) = u.2.1 63 (202 * d + j)) : slX cy w d := by
  obtain ⟨sp, li, fd, b, g, a1, a2, a3⟩ := h
  refine ⟨sp, li, fd, b, g, ?_, ?_, ?_⟩
  · rw [h58, h59, h60, h62]
    exact a1.ext h1 (fun a _ ha => hp a ha) (fun _ _ _ hb _ => hp b hb)
  · rw [h58, h60, h61]
    exact a2
  · rw [h58, h62]
    intro h3 j hj
    rw [h63 j hj]
    exact a3 h3 j hj
theorem slX.mem {cy : Nat → ClassId} {u : gS} {d a : Nat} (h : slX cy u d) (h1 : u.2.2.1 30 d = some a) : a ∈ u.2.2.2.1 := by
  obtain ⟨sp, li, fd, b, g, a1, -, -⟩ := h
  rcases a1 with ⟨a1, a2⟩ | ⟨a', a1, a2, -⟩ | ⟨a', a1, a2, -⟩
  · rw [a1] at h1
    cases h1
  · rw [a1] at h1
    cases h1
    exact a2
  · rw [a1] at h1
    cases h1
    exact a2
theorem dB.ext {cy : Nat → ClassId} {u w : gS} (h : dB u) (hs : ∀ d, d < 8 → slX cy u d) (h30 : w.2.2.1 30 = u.2.2.1 30) (hp : pE u w) : dB w := fun d e hd he hne a a' k k' b h1 h2 h3 h4 => by
  rw [h30] at h1 h2
  rw [(hp a ((hs d hd).mem h1)).2] at h3
  rw [(hp a' ((hs e he).mem h2)).2] at h4
  exact h d e hd he hne a a' k k' b h1 h2 h3 h4
/-- the shelves' numbers as functions, as the class's contracts take them -/
theorem rel_sl {cy : Nat → ClassId} {u : gS} (h : ∀ d, d < 8 → slX cy u d) : ∃ (SP LI FD : Nat → Int) (BA : Nat → Nat) (GG : Nat → Nat → Int), (∀ d, d < 8 → slAt cy u d (u.2.1 58 d) (u.2.1 60 d) (u.2.1 59 d) (SP d) (LI d) (FD d) (BA d) (u.2.1 62 d).toNat (GG d)) ∧ (∀ d, d < 8 → u.2.1 58 d = 1 → cHeft (u.2.1 60 d) (SP d) (LI d) (FD d) = u.2.1 61 d) ∧ (∀ d, d < 8 → 3 ≤ u.2.1 58 d → ∀ j, j < (u.2.1 62 d).toNat → GG d j = u.2.1 63 (202 * d + j)) := by
  have h2 : ∀ d : Nat, ∃ y : Int × Int × Int × Nat × (Nat → Int), d < 8 → (slAt cy u d (u.2.1 58 d) (u.2.1 60 d) (u.2.1 59 d) y.1 y.2.1 y.2.2.1 y.2.2.2.1 (u.2.1 62 d).toNat y.2.2.2.2 ∧ (u.2.1 58 d = 1 → cHeft (u.2.1 60 d) y.1 y.2.1 y.2.2.1 = u.2.1 61 d) ∧ (3 ≤ u.2.1 58 d → ∀ j, j < (u.2.1 62 d).toNat → y.2.2.2.2 j = u.2.1 63 (202 * d + j))) := fun d => by
    by_cases hd : d < 8
    · obtain ⟨sp, li, fd, b, g, a⟩ := h d hd
      exact ⟨(sp, li, fd, b, g), fun _ => a⟩
    · exact ⟨(0, 0, 0, 0, fun _ => 0), fun q => absurd q hd⟩
  obtain ⟨f, hf⟩ := Classical.axiomOfChoice h2
  exact ⟨fun d => (f d).1, fun d => (f d).2.1, fun d => (f d).2.2.1, fun d => (f d).2.2.2.1, fun d => (f d).2.2.2.2, fun d hd => (hf d hd).1, fun d hd => (hf d hd).2.1, fun d hd => (hf d hd).2.2⟩
theorem sF_self (u : gS) (k : Nat) : sF u k (u.2.1 k) = u := by
  simp only [sF, up_self]
theorem up_at {α : Type} {f : Nat → α} {k : Nat} {v : α} (h : f k = v) : va_up f k v = f := by
  rw [← h, up_self]
