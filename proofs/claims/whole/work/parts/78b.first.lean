def u00 : gS := (fun i => if i = 1 then 5 else if i = 2 then 20 else if i = 21 then 5 else if i = 22 then 20 else if i = 24 then -1 else 0, fun _ _ => 0, fun _ _ => none, [], fun _ => .inr (0, []))
theorem spCnt_0 (m : Int) : ∀ (n : Nat) (c k : Int), spCnt (fun _ => 0) m n c k = k
  | 0, c, k => rfl
  | n + 1, c, k => by
    unfold spCnt
    rw [if_pos rfl, spCnt_0 m n]
    split <;> omega
theorem Rel_0 (cy : Nat → ClassId) : Rel cy u00 := ⟨⟨(by show (0 : Int) ≤ 5 ∧ (5 : Int) ≤ 20; decide), (by show (1 : Int) ≤ 20 ∧ (20 : Int) ≤ 60; decide), (by show (0 : Int) ≤ 0 ∧ (0 : Int) ≤ 10; decide), (by show (-1 : Int) ≤ -1 ∧ (-1 : Int) ≤ 9; decide), (by show (0 : Int) ≤ 0 ∧ (0 : Int) ≤ 8; decide), (by show (0 : Int) ≤ 0 ∧ (0 : Int) ≤ 60; decide), (by show (0 : Int) ≤ 0 ∧ (0 : Int) ≤ 6; decide), (by show (0 : Int) ≤ 0 ∧ (0 : Int) ≤ 40; decide), fun _ _ => Or.inl rfl, fun _ _ => (by show (-9 : Int) ≤ 0 ∧ (0 : Int) ≤ 9; decide), fun _ _ => (by show (-9 : Int) ≤ 0 ∧ (0 : Int) ≤ 9; decide), fun _ _ => (by show (0 : Int) ≤ 0 ∧ (0 : Int) ≤ 3; decide), fun _ _ => (by show (0 : Int) ≤ 0 ∧ (0 : Int) ≤ 20; decide), fun _ _ => (by show (0 : Int) ≤ 0 ∧ (0 : Int) ≤ 400; decide), fun _ _ => (by show (0 : Int) ≤ 0 ∧ (0 : Int) ≤ 40; decide), fun _ _ => (by show (-1000 : Int) ≤ 0 ∧ (0 : Int) ≤ 1000; decide), fun _ _ => (by show (-1000 : Int) ≤ 0 ∧ (0 : Int) ≤ 1000; decide), fun _ _ => (by show (0 : Int) ≤ 0 ∧ (0 : Int) ≤ 100; decide), fun _ _ => (by show (0 : Int) ≤ 0 ∧ (0 : Int) ≤ 100000; decide), fun _ _ => (by show (0 : Int) ≤ 0 ∧ (0 : Int) ≤ 239; decide), fun _ _ => (by show (0 : Int) ≤ 0 ∧ (0 : Int) ≤ 239; decide), fun _ _ => (by show (-20 : Int) ≤ 0 ∧ (0 : Int) ≤ 20; decide), fun _ _ => (by show (-20 : Int) ≤ 0 ∧ (0 : Int) ≤ 20; decide), fun _ _ => (by show (0 : Int) ≤ 0 ∧ (0 : Int) ≤ 99; decide), fun _ _ => (by show (0 : Int) ≤ 0 ∧ (0 : Int) ≤ 15; decide), fun _ _ => (by show (0 : Int) ≤ 0 ∧ (0 : Int) ≤ 15; decide), fun _ _ => Or.inl rfl, fun _ _ => (by show (0 : Int) ≤ 0 ∧ (0 : Int) ≤ 3; decide), fun _ _ => (by show (0 : Int) ≤ 0 ∧ (0 : Int) ≤ 4; decide), fun _ _ => (by show (-1 : Int) ≤ 0 ∧ (0 : Int) ≤ 9; decide), fun _ _ => Or.inl rfl, fun _ _ _ => rfl, fun _ _ => (by show (0 : Int) ≤ 0 ∧ (0 : Int) ≤ 4; decide), fun _ _ => (by show (0 : Int) ≤ 0 ∧ (0 : Int) ≤ 9; decide), fun _ _ => (by show (0 : Int) ≤ 0 ∧ (0 : Int) ≤ 3; decide), fun _ _ => (by show (0 : Int) ≤ 0 ∧ (0 : Int) ≤ 100000; decide), fun _ _ => (by show (0 : Int) ≤ 0 ∧ (0 : Int) ≤ 202; decide)⟩, rfl, rfl, rfl, rfl, (spCnt_0 288 289 0 0).symm, (by show (0 : Int) ≤ 0 ∧ (0 : Int) ≤ 100; decide), ⟨fun _ _ => (by show (0 : Int) ≤ 0 ∧ (0 : Int) ≤ 24; decide), fun _ _ => (by show (0 : Int) ≤ 0 ∧ (0 : Int) ≤ 100000; decide), (by show (0 : Int) ≤ 0 ∧ (0 : Int) ≤ 100; decide), Or.inl rfl, rfl⟩, ⟨fun _ _ => (by show (0 : Int) ≤ 0 ∧ (0 : Int) ≤ 24; decide), fun _ _ => (by show (0 : Int) ≤ 0 ∧ (0 : Int) ≤ 100000; decide), (by show (0 : Int) ≤ 0 ∧ (0 : Int) ≤ 100; decide), Or.inl rfl, rfl⟩, fun _ _ => rfl, fun _ _ => rfl, fun _ _ => rfl, fun _ _ => (by show (0 : Int) ≤ 0 ∧ (0 : Int) ≤ 239; decide), fun _ _ => (by show (0 : Int) ≤ 0 ∧ (0 : Int) ≤ 119; decide), Or.inl ⟨rfl, rfl⟩, ⟨⟨rfl, Int.le_refl 0, (by show (0 : Int) ≤ 60; decide), fun _ _ => rfl⟩, ⟨rfl, Int.le_refl 0, (by show (0 : Int) ≤ 6; decide), fun _ _ => rfl⟩, ⟨rfl, Int.le_refl 0, (by show (0 : Int) ≤ 40; decide), fun _ _ => rfl⟩⟩, fun _ _ => (by show (0 : Int) ≤ 0 ∧ (0 : Int) ≤ 99; decide), fun _ _ => (by show (0 : Int) ≤ 0 ∧ (0 : Int) ≤ 15; decide), fun _ _ => (by show (0 : Int) ≤ 0 ∧ (0 : Int) ≤ 15; decide), (by show (0 : Int) ≤ 0 ∧ (0 : Int) ≤ 65535; decide), fun _ _ => Or.inl rfl, fun _ _ => (by show (0 : Int) ≤ 0 ∧ (0 : Int) ≤ 3; decide), fun _ _ => (by show (0 : Int) ≤ 0 ∧ (0 : Int) ≤ 4; decide), ⟨fun d _ => tb_0 d, fun s _ => (by show (0 : Int) = 1 ↔ (0 : Int) < 0; decide), fun _ _ => ⟨rfl, rfl, rfl⟩⟩, fun j hj => absurd (show (j : Int) < 0 from hj) (by omega), fun j hj => absurd (show (j : Int) < 0 from hj) (by omega), fun j _ _ hj => absurd (show (j : Int) < 0 from hj) (by omega), fun d hd => ⟨0, 0, 0, 0, fun _ => 0, Or.inl ⟨rfl, rfl⟩, fun e => absurd (show (0 : Int) = 1 from e) (by decide), fun e => absurd (show (3 : Int) ≤ 0 from e) (by decide)⟩, fun _ _ _ _ _ a _ _ _ _ h1 => (by cases (show (none : Option Nat) = some a from h1))⟩
/-- the cells by their numbers, out of the pool of those that were made -/
theorem gW_of {D : va_G} {cy : Nat → ClassId} {jf : Nat → Int64} {A : Nat → Prop} {u0 : gS} {H : Heap} {L pi : List Nat} {E : Nat → va_E} (hin : ∀ k, k < 65 → pi.getD k 0 < L.length) (hnd : ∀ i, i < 65 → ∀ j, j < 65 → pi.getD i 0 = pi.getD j 0 → i = j) (hpool : u0.2.2.2.1 = []) (hE : ∀ k, k < 65 → E (L.getD (pi.getD k 0) 0) = gCell cy (fun k => L.getD (pi.getD k 0) 0) jf u0 k) (hP : va_P D vwCl (va_pl L E) H) (hD : va_D A (va_pl L E)) : gH D cy (fun k => L.getD (pi.getD k 0) 0) jf A u0 H := by
  have key : ∀ (k : Nat) (q : Nat × va_E), (gW cy (fun k => L.getD (pi.getD k 0) 0) jf u0)[k]? = some q → k < 65 ∧ (va_pl L E)[pi.getD k 0]? = some q := fun k q hq => by
    have hk : k < 65 := by
      have h1 := (List.getElem?_eq_some_iff.mp hq).1
      rw [gW, List.length_append, gFx_len, hpool] at h1
      simpa [va_pl] using h1
    refine ⟨hk, ?_⟩
    rw [g_at _ _ _ _ hk] at hq
    cases hq
    have hi := hin k hk
    have e9 : L.getD (pi.getD k 0) 0 = L[pi.getD k 0]'hi := by
      rw [List.getD_eq_getElem?_getD, List.getElem?_eq_getElem hi]
      rfl
    show (L.map (fun a => (a, E a)))[pi.getD k 0]? = _
    rw [← hE k hk, List.getElem?_map, List.getElem?_eq_getElem hi, e9]
    rfl
  exact ⟨fun k q hq => hP _ q (key k q hq).2, fun i j p q hi hj he => hnd i (key i p hi).1 j (key j q hj).1 (hD.1 _ _ p q (key i p hi).2 (key j q hj).2 he), fun k q hq => hD.2 _ q (key k q hq).2⟩
def pi0 : List Nat := 0 :: 1 :: 6 :: 11 :: 17 :: 19 :: 21 :: 23 :: 30 :: 2 :: 3 :: 4 :: 5 :: 7 :: 8 :: 9 :: 10 :: 12 :: 13 :: 14 :: 15 :: 16 :: 18 :: 20 :: 22 :: 24 :: 25 :: 26 :: 27 :: 28 :: 29 :: 31 :: 32 :: 33 :: 34 :: 35 :: 36 :: 37 :: 38 :: 39 :: 40 :: 41 :: 42 :: 43 :: 44 :: 45 :: 46 :: 47 :: 48 :: 49 :: 50 :: 51 :: 52 :: 53 :: 54 :: 55 :: 56 :: 57 :: 58 :: 59 :: 60 :: 61 :: 62 :: 63 :: 64 :: []
theorem pi0_in : ∀ k, k < 65 → pi0.getD k 0 < 65 := by decide +kernel
theorem pi0_nd : ∀ i, i < 65 → ∀ j, j < 65 → pi0.getD i 0 = pi0.getD j 0 → i = j := by decide +kernel
set_option maxHeartbeats 4000000 in
set_option maxRecDepth 100000 in
theorem first_E {cy : Nat → ClassId} {E : Nat → va_E} {a0 o1 b6 b7 b8 b17 o52 b62 b63 b64 b65 o85 b100 b101 b102 b103 b133 o187 b208 o247 b270 o313 b338 o385 b412 b413 b414 b415 b416 b471 m0 d1 d7 d15 d35 d47 d61 d77 d95 d115 d137 d161 d200 d228 d258 d290 d324 d360 d398 d438 d480 d524 d570 d618 d668 d720 d774 d830 d888 d948 d1010 d1074 d1140 d1208 q64 : Nat} (h_a0 : E a0 = .inr (10, [.ref o1, .ref b17, .int (zI 0), .int (zI 5), .int (zI 20), .ref o52, .ref o85, .ref b133, .int (zI 0), .ref o187, .ref o247, .ref o313, .ref o385, .ref b471])) (h_o1 : E o1 = .inr (7, [.ref b6, .int (zI 0), .ref b7, .ref b8])) (h_o52 : E o52 = .inr (8, [.int (zI 0), .int (zI 0), .int (zI 0), .ref b62, .ref b63, .ref b64, .ref b65, .int (zI 0), .int (zI 0)])) (h_o85 : E o85 = .inr (8, [.int (zI 0), .int (zI 0), .int (zI 0), .ref b100, .ref b101, .ref b102, .ref b103, .int (zI 0), .int (zI 0)])) (h_o187 : E o187 = .inr (9, [.ref b208, .int (zI 0)])) (h_o247 : E o247 = .inr (9, [.ref b270, .int (zI 0)])) (h_o313 : E o313 = .inr (9, [.ref b338, .int (zI 0)])) (h_o385 : E o385 = .inr (1, [.int (zI 0), .ref b412, .ref b413, .ref b414, .ref b415, .ref b416, .int (zI 0)])) (h_m0 : E m0 = .inr (11, (.int (zI 0) :: .ref d1 :: .ref d7 :: .ref d15 :: .int (zI 5) :: .int (zI 20) :: .int (zI 0) :: .ref d35 :: .ref d47 :: .ref d61 :: .ref d77 :: .ref d95 :: .ref d115 :: .ref d137 :: .ref d161 :: .int (zI ((-1))) :: .int (zI 0) :: .ref d200 :: .ref d228 :: .ref d258 :: .ref d290 :: .int (zI 0) :: .ref d324 :: .int (zI 0) :: .ref d360 :: .int (zI 0) :: .ref d398 :: .ref d438 :: .ref d480 :: .ref d524 :: .ref d570 :: .ref d618 :: .ref d668 :: .ref d720 :: .ref d774 :: .ref d830 :: .ref d888 :: .ref d948 :: .ref d1010 :: .ref d1074 :: .ref d1140 :: .ref d1208 :: []))) (h_b6 : E b6 = .inl (cy 2, 288, .inl (fun _ => zI 0))) (h_b7 : E b7 = .inl (cy 0, 36, .inl (fun _ => zI 0))) (h_b8 : E b8 = .inl (cy 0, 36, .inl (fun _ => zI 0))) (h_b17 : E b17 = .inl (cy 4, 10, .inr (.inr (.inr (.inr (fun _ => none)))))) (h_b62 : E b62 = .inl (cy 0, 101, .inl (fun _ => zI 0))) (h_b63 : E b63 = .inl (cy 0, 101, .inl (fun _ => zI 0))) (h_b64 : E b64 = .inl (cy 0, 100, .inl (fun _ => zI 0))) (h_b65 : E b65 = .inl (cy 0, 101, .inl (fun _ => zI 0))) (h_b100 : E b100 = .inl (cy 0, 101, .inl (fun _ => zI 0))) (h_b101 : E b101 = .inl (cy 0, 101, .inl (fun _ => zI 0))) (h_b102 : E b102 = .inl (cy 0, 100, .inl (fun _ => zI 0))) (h_b103 : E b103 = .inl (cy 0, 101, .inl (fun _ => zI 0))) (h_b133 : E b133 = .inl (cy 5, 8, .inr (.inr (.inr (.inr (fun _ => none)))))) (h_b208 : E b208 = .inl (cy 0, 60, .inl (fun _ => zI 0))) (h_b270 : E b270 = .inl (cy 0, 6, .inl (fun _ => zI 0))) (h_b338 : E b338 = .inl (cy 0, 40, .inl (fun _ => zI 0))) (h_b412 : E b412 = .inl (cy 2, 10, .inl (fun _ => zI 0))) (h_b413 : E b413 = .inl (cy 0, 10, .inl (fun _ => zI 0))) (h_b414 : E b414 = .inl (cy 0, 10, .inl (fun _ => zI 0))) (h_b415 : E b415 = .inl (cy 0, 10, .inl (fun _ => zI 0))) (h_b416 : E b416 = .inl (cy 0, 16, .inl (fun _ => zI 0))) (h_b471 : E b471 = .inl (cy 3, 8, .inr (.inr (.inr (.inr (fun _ => none)))))) (h_d1 : E d1 = .inl (cy 2, 288, .inl (fun _ => zI 0))) (h_d7 : E d7 = .inl (cy 0, 36, .inl (fun _ => zI 0))) (h_d15 : E d15 = .inl (cy 0, 36, .inl (fun _ => zI 0))) (h_d35 : E d35 = .inl (cy 0, 10, .inl (fun _ => zI 0))) (h_d47 : E d47 = .inl (cy 0, 10, .inl (fun _ => zI 0))) (h_d61 : E d61 = .inl (cy 0, 10, .inl (fun _ => zI 0))) (h_d77 : E d77 = .inl (cy 0, 10, .inl (fun _ => zI 0))) (h_d95 : E d95 = .inl (cy 0, 202, .inl (fun _ => zI 0))) (h_d115 : E d115 = .inl (cy 0, 202, .inl (fun _ => zI 0))) (h_d137 : E d137 = .inl (cy 0, 2, .inl (fun _ => zI 0))) (h_d161 : E d161 = .inl (cy 0, 2, .inl (fun _ => zI 0))) (h_d200 : E d200 = .inl (cy 0, 8, .inl (fun _ => zI 0))) (h_d228 : E d228 = .inl (cy 0, 8, .inl (fun _ => zI 0))) (h_d258 : E d258 = .inl (cy 0, 8, .inl (fun _ => zI 0))) (h_d290 : E d290 = .inl (cy 0, 8, .inl (fun _ => zI 0))) (h_d324 : E d324 = .inl (cy 0, 60, .inl (fun _ => zI 0))) (h_d360 : E d360 = .inl (cy 0, 6, .inl (fun _ => zI 0))) (h_d398 : E d398 = .inl (cy 0, 40, .inl (fun _ => zI 0))) (h_d438 : E d438 = .inl (cy 2, 16, .inl (fun _ => zI 0))) (h_d480 : E d480 = .inl (cy 0, 10, .inl (fun _ => zI 0))) (h_d524 : E d524 = .inl (cy 0, 10, .inl (fun _ => zI 0))) (h_d570 : E d570 = .inl (cy 0, 10, .inl (fun _ => zI 0))) (h_d618 : E d618 = .inl (cy 0, 16, .inl (fun _ => zI 0))) (h_d668 : E d668 = .inl (cy 2, 10, .inl (fun _ => zI 0))) (h_d720 : E d720 = .inl (cy 2, 16, .inl (fun _ => zI 0))) (h_d774 : E d774 = .inl (cy 0, 16, .inl (fun _ => zI 0))) (h_d830 : E d830 = .inl (cy 0, 16, .inl (fun _ => zI 0))) (h_d888 : E d888 = .inl (cy 0, 8, .inl (fun _ => zI 0))) (h_d948 : E d948 = .inl (cy 0, 8, .inl (fun _ => zI 0))) (h_d1010 : E d1010 = .inl (cy 0, 8, .inl (fun _ => zI 0))) (h_d1074 : E d1074 = .inl (cy 0, 8, .inl (fun _ => zI 0))) (h_d1140 : E d1140 = .inl (cy 0, 8, .inl (fun _ => zI 0))) (h_d1208 : E d1208 = .inl (cy 0, 1616, .inl (fun _ => zI 0))) (h_q64 : E q64 = .inl (cy 6, 1, .inr (.inl (fun _ => 0)))) : ∀ k, k < 65 → E ((a0 :: o1 :: b6 :: b7 :: b8 :: b17 :: o52 :: b62 :: b63 :: b64 :: b65 :: o85 :: b100 :: b101 :: b102 :: b103 :: b133 :: o187 :: b208 :: o247 :: b270 :: o313 :: b338 :: o385 :: b412 :: b413 :: b414 :: b415 :: b416 :: b471 :: m0 :: d1 :: d7 :: d15 :: d35 :: d47 :: d61 :: d77 :: d95 :: d115 :: d137 :: d161 :: d200 :: d228 :: d258 :: d290 :: d324 :: d360 :: d398 :: d438 :: d480 :: d524 :: d570 :: d618 :: d668 :: d720 :: d774 :: d830 :: d888 :: d948 :: d1010 :: d1074 :: d1140 :: d1208 :: q64 :: [] : List Nat).getD (pi0.getD k 0) 0) = gCell cy (fun k => (a0 :: o1 :: b6 :: b7 :: b8 :: b17 :: o52 :: b62 :: b63 :: b64 :: b65 :: o85 :: b100 :: b101 :: b102 :: b103 :: b133 :: o187 :: b208 :: o247 :: b270 :: o313 :: b338 :: o385 :: b412 :: b413 :: b414 :: b415 :: b416 :: b471 :: m0 :: d1 :: d7 :: d15 :: d35 :: d47 :: d61 :: d77 :: d95 :: d115 :: d137 :: d161 :: d200 :: d228 :: d258 :: d290 :: d324 :: d360 :: d398 :: d438 :: d480 :: d524 :: d570 :: d618 :: d668 :: d720 :: d774 :: d830 :: d888 :: d948 :: d1010 :: d1074 :: d1140 :: d1208 :: q64 :: [] : List Nat).getD (pi0.getD k 0) 0) (fun _ => 0) u00 k := by
  intro k hk
  match k, hk with
  | 0, _ => exact h_a0
  | 1, _ => exact h_o1
  | 2, _ => exact h_o52
  | 3, _ => exact h_o85
  | 4, _ => exact h_o187
  | 5, _ => exact h_o247
  | 6, _ => exact h_o313
  | 7, _ => exact h_o385
  | 8, _ => exact h_m0
  | 9, _ => exact h_b6
  | 10, _ => exact h_b7
  | 11, _ => exact h_b8
  | 12, _ => exact h_b17
  | 13, _ => exact h_b62
  | 14, _ => exact h_b63
  | 15, _ => exact h_b64
  | 16, _ => exact h_b65
  | 17, _ => exact h_b100
  | 18, _ => exact h_b101
  | 19, _ => exact h_b102
  | 20, _ => exact h_b103
  | 21, _ => exact h_b133
  | 22, _ => exact h_b208
  | 23, _ => exact h_b270
  | 24, _ => exact h_b338
  | 25, _ => exact h_b412
  | 26, _ => exact h_b413
  | 27, _ => exact h_b414
  | 28, _ => exact h_b415
  | 29, _ => exact h_b416
  | 30, _ => exact h_b471
  | 31, _ => exact h_d1
  | 32, _ => exact h_d7
  | 33, _ => exact h_d15
  | 34, _ => exact h_d35
  | 35, _ => exact h_d47
  | 36, _ => exact h_d61
  | 37, _ => exact h_d77
  | 38, _ => exact h_d95
  | 39, _ => exact h_d115
  | 40, _ => exact h_d137
  | 41, _ => exact h_d161
  | 42, _ => exact h_d200
  | 43, _ => exact h_d228
  | 44, _ => exact h_d258
  | 45, _ => exact h_d290
  | 46, _ => exact h_d324
  | 47, _ => exact h_d360
  | 48, _ => exact h_d398
  | 49, _ => exact h_d438
  | 50, _ => exact h_d480
  | 51, _ => exact h_d524
  | 52, _ => exact h_d570
  | 53, _ => exact h_d618
  | 54, _ => exact h_d668
  | 55, _ => exact h_d720
  | 56, _ => exact h_d774
  | 57, _ => exact h_d830
  | 58, _ => exact h_d888
  | 59, _ => exact h_d948
  | 60, _ => exact h_d1010
  | 61, _ => exact h_d1074
  | 62, _ => exact h_d1140
  | 63, _ => exact h_d1208
  | 64, _ => exact h_q64
  | k + 65, hk => exact absurd hk (by omega)
