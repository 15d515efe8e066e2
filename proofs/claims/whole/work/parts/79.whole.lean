set_option maxHeartbeats 4000000 in
set_option maxRecDepth 100000 in
/-- THE LAW, from its entry -/
theorem whole_start {p : Program} {e : Env} {s : State} {m : MethodId} {below : List Frame} {meth : Method} {c : Code} (l : Launch) (hl9 : l.stackTraces = false) {b L : Nat} {xs : Nat → Int32} (hL : L ≤ 3072) (C0 : lw_At p s m meth c b L xs) : W p l e room_1 s m #[Value.ref b] below meth c s.heap [] 0 0 (lw_Z below #[Value.ref b] s) (entryFrame m ([Value.ref b] : List Value).toArray 8) := by
  obtain ⟨hx, hb, hr, hml, hown, hts, hX, hbl, hlocks, hgv⟩ := C0
  have hb : c.code = cL_law := hb
  have hown : s.vm.findClass RL = some m.cls := hown
  have htw : ∀ w ∈ wsL_law, w.before #[Value.ref b] s = true := fun w h => hts w (wsL_law_in w h)
  obtain ⟨A, hAe⟩ : ∃ A : Nat → Prop, A = fun q => s.heap.size ≤ q := ⟨_, rfl⟩
  have hA : ∀ q : Nat, s.heap.size ≤ q → A q := fun q h => by rw [hAe]; exact h
  have hAs : ∀ q : Nat, A q → s.heap.size ≤ q := fun q h => by rw [hAe] at h; exact h
  have hAn : ∀ a : Nat, a < s.heap.size → ¬ A a := fun a h q => absurd (hAs a q) (by omega)
  have hbA : ¬ A b := hAn b hbl
  obtain ⟨cy, hcy⟩ := en_ty hts
  obtain ⟨D, hDc⟩ := en_cl hts
  have hK : va_K D vwCl (gTy cy) s := ⟨hDc, hcy⟩
  have hC : gC D cy A s := ⟨hK, hA, ⟨en_AIM_EAST hts hgv hAn, en_AIM_NORTH hts hgv hAn⟩, en_N hts hgv⟩
  have hTh : gT A s := en_T hts hgv hAn
  have hI : gI D cy A s := ⟨hK, hA, en_AO hts, en_I hts⟩
  have hX2 : va_X b L (fun j => zI ((xs j).toInt)) s s.heap := by
    have e : (fun j => zI ((xs j).toInt)) = xs := funext (fun j => zI_of (xs j))
    rw [e]
    exact hX
  have hE : lE p l s m meth c b L (fun j => (xs j).toInt) D cy A := ⟨hx, hb, hml, hown, htw, hX2, hbl, hbA, hC, hTh, hl9, fun j => zI_bnd (xs j), hL⟩
  have hS : va_S A s.heap s.heap [] := va_S.rf
  have hl := lv_entry ([.ref b]) (n := 8) (Nat.le_of_ble_eq_true rfl)
  rw [lg_entry_eq]
  generalize (lg_sl ([.ref b]) ++ List.replicate (8 - (lg_sl ([.ref b])).length) Slot.unset).toArray = ls at hl ⊢
  have hl : lv_has ls 8 [(0, .ref b)] := hl
  obtain ⟨v0, hv0⟩ : ∃ v : pS, v = ([], fun _ => .inr (0, [])) := ⟨_, rfl⟩
  have hG : pH D A v0 s.heap := by
    rw [hv0]
    exact ⟨fun k q h => by simp [va_pl] at h, fun i j p q h => by simp [va_pl] at h, fun k q h => by simp [va_pl] at h⟩
  refine va_new (ci := 10) (fs := [.null, .null, .int (zI 0), .int (zI 0), .int (zI 0), .null, .null, .null, .int (zI 0), .null, .null, .null, .null, .null]) (C := RX11) (T := TX11) (N := 14) hx hb hts inX11 tyX11 tyX11_ok hown (hts (.classLink RL 8 RX11) (List.mem_append_right _ (List.mem_of_getElem? (i := 22) (by decide +kernel)))) (hts (.instantiable RX11 14) (List.mem_append_right _ (List.mem_of_getElem? (i := 23) (by decide +kernel)))) (hts (.initialized RX11) (List.mem_append_right _ (List.mem_of_getElem? (i := 1) (by decide +kernel)))) hK hG.1 hG.2 hS hA rfl (fun j hj => by rcases (show j = 0 ∨ j = 1 ∨ j = 2 ∨ j = 3 ∨ j = 4 ∨ j = 5 ∨ j = 6 ∨ j = 7 ∨ j = 8 ∨ j = 9 ∨ j = 10 ∨ j = 11 ∨ j = 12 ∨ j = 13 by omega) with rfl | rfl | rfl | rfl | rfl | rfl | rfl | rfl | rfl | rfl | rfl | rfl | rfl | rfl <;> rfl) (by show _ ≤ 601024; omega) (by show _ ≤ 7293034; omega) dL_law_0 (fun a0 H hP hD hS => ?_)
  obtain ⟨v1, f1, f2, -, -, hG⟩ := p_push hP hD
  have f1 : v1.1 = [a0] := by rw [f1, hv0]; rfl
  refine lv_dup hx hb dL_law_3 rfl ?_
  refine p_callv (va_runI (As := []) (rest := [.ref a0]) ⟨hx, hb, hml, hown, htw⟩ (kX11_init l D cy A v1 a0 (by rw [f1]; exact List.mem_cons_self) f2) (cwI 0 htw gL_law_X11_init rfl rfl rfl (hts (.initialized RX11) (List.mem_append_right _ (List.mem_of_getElem? (i := 1) (by decide +kernel)))) (hts (.methodLink RL 21 yX11_init) (List.mem_append_right _ (List.mem_of_getElem? (i := 24) (by decide +kernel)))) (hts (.instanceMethod yX11_init) (List.mem_append_right _ (List.mem_of_getElem? (i := 25) (by decide +kernel)))) rfl (by decide +kernel) ⟨Nat.le_of_ble_eq_true rfl, Nat.le_of_ble_eq_true rfl⟩) (p_preS hG hI hS) rfl rfl hl.1 rfl (lv_room (Nat.le_of_ble_eq_true rfl)) dL_law_4 ⟨by show _ ≤ 601024; omega, by show _ ≤ 7293034; omega⟩) hS (fun v2 H locs hp2 hG hS => ?_)
  obtain ⟨o1, b6, b7, b8, b17, o52, b62, b63, b64, b65, o85, b100, b101, b102, b103, b133, o187, b208, o247, b270, o313, b338, o385, b412, b413, b414, b415, b416, b471, g1, -, ⟨k_a0, k_o1, k_b6, k_b7, k_b8, k_b17, k_o52, k_b62, k_b63, k_b64, k_b65, k_o85, k_b100, k_b101, k_b102, k_b103, k_b133, k_o187, k_b208, k_o247, k_b270, k_o313, k_b338, k_o385, k_b412, k_b413, k_b414, k_b415, k_b416, k_b471⟩, -⟩ := hp2
  have g1 : v2.1 = a0 :: o1 :: b6 :: b7 :: b8 :: b17 :: o52 :: b62 :: b63 :: b64 :: b65 :: o85 :: b100 :: b101 :: b102 :: b103 :: b133 :: o187 :: b208 :: o247 :: b270 :: o313 :: b338 :: o385 :: b412 :: b413 :: b414 :: b415 :: b416 :: b471 :: [] := by rw [g1, f1]; simp only [List.append_assoc, List.cons_append, List.nil_append]
  refine lv_astore_n (lv' := [(1, .ref a0), (0, .ref b)]) hx hb dL_law_7 rfl hl (by decide) rfl (fun ls hl => ?_)
  refine va_new (ci := 11) (fs := (.int (zI 0) :: .null :: .null :: .null :: .int (zI 0) :: .int (zI 0) :: .int (zI 0) :: .null :: .null :: .null :: .null :: .null :: .null :: .null :: .null :: .int (zI 0) :: .int (zI 0) :: .null :: .null :: .null :: .null :: .int (zI 0) :: .null :: .int (zI 0) :: .null :: .int (zI 0) :: .null :: .null :: .null :: .null :: .null :: .null :: .null :: .null :: .null :: .null :: .null :: .null :: .null :: .null :: .null :: .null :: [])) (C := RX12) (T := TX12) (N := 42) hx hb hts inX12 tyX12 tyX12_ok hown (hts (.classLink RL 22 RX12) (List.mem_append_right _ (List.mem_of_getElem? (i := 752) (by decide +kernel)))) (hts (.instantiable RX12 42) (List.mem_append_right _ (List.mem_of_getElem? (i := 753) (by decide +kernel)))) (hts (.initialized RX12) (List.mem_append_right _ (List.mem_of_getElem? (i := 6) (by decide +kernel)))) hK hG.1 hG.2 hS hA rfl (fun j hj => by rcases (show j = 0 ∨ j = 1 ∨ j = 2 ∨ j = 3 ∨ j = 4 ∨ j = 5 ∨ j = 6 ∨ j = 7 ∨ j = 8 ∨ j = 9 ∨ j = 10 ∨ j = 11 ∨ j = 12 ∨ j = 13 ∨ j = 14 ∨ j = 15 ∨ j = 16 ∨ j = 17 ∨ j = 18 ∨ j = 19 ∨ j = 20 ∨ j = 21 ∨ j = 22 ∨ j = 23 ∨ j = 24 ∨ j = 25 ∨ j = 26 ∨ j = 27 ∨ j = 28 ∨ j = 29 ∨ j = 30 ∨ j = 31 ∨ j = 32 ∨ j = 33 ∨ j = 34 ∨ j = 35 ∨ j = 36 ∨ j = 37 ∨ j = 38 ∨ j = 39 ∨ j = 40 ∨ j = 41 by omega) with rfl | rfl | rfl | rfl | rfl | rfl | rfl | rfl | rfl | rfl | rfl | rfl | rfl | rfl | rfl | rfl | rfl | rfl | rfl | rfl | rfl | rfl | rfl | rfl | rfl | rfl | rfl | rfl | rfl | rfl | rfl | rfl | rfl | rfl | rfl | rfl | rfl | rfl | rfl | rfl | rfl | rfl <;> rfl) (by show _ ≤ 601024; omega) (by show _ ≤ 7293034; omega) dL_law_8 (fun m0 H hP hD hS => ?_)
  obtain ⟨v3, f3, f4, f5, hm0, hG⟩ := p_push hP hD
  have f3 : v3.1 = a0 :: o1 :: b6 :: b7 :: b8 :: b17 :: o52 :: b62 :: b63 :: b64 :: b65 :: o85 :: b100 :: b101 :: b102 :: b103 :: b133 :: o187 :: b208 :: o247 :: b270 :: o313 :: b338 :: o385 :: b412 :: b413 :: b414 :: b415 :: b416 :: b471 :: m0 :: [] := by rw [f3, g1]; simp only [List.cons_append, List.nil_append]
  refine lv_dup hx hb dL_law_11 rfl ?_
  refine p_callv (va_runI (As := []) (rest := [.ref m0]) ⟨hx, hb, hml, hown, htw⟩ (kX12_init l D cy A v3 m0 (by rw [f3]; exact List.mem_of_getElem? (i := 30) rfl) f4) (cwI 0 htw gL_law_X12_init rfl rfl rfl (hts (.initialized RX12) (List.mem_append_right _ (List.mem_of_getElem? (i := 6) (by decide +kernel)))) (hts (.methodLink RL 24 yX12_init) (List.mem_append_right _ (List.mem_of_getElem? (i := 754) (by decide +kernel)))) (hts (.instanceMethod yX12_init) (List.mem_append_right _ (List.mem_of_getElem? (i := 755) (by decide +kernel)))) rfl (by decide +kernel) ⟨Nat.le_of_ble_eq_true rfl, Nat.le_of_ble_eq_true rfl⟩) (p_preS hG hI hS) rfl rfl hl.1 rfl (lv_room (Nat.le_of_ble_eq_true rfl)) dL_law_12 ⟨by show _ ≤ 601024; omega, by show _ ≤ 7293034; omega⟩) hS (fun v4 H locs hp4 hG hS => ?_)
  obtain ⟨d1, d7, d15, d35, d47, d61, d77, d95, d115, d137, d161, d200, d228, d258, d290, d324, d360, d398, d438, d480, d524, d570, d618, d668, d720, d774, d830, d888, d948, d1010, d1074, d1140, d1208, g4, g5, ⟨k_m0, k_d1, k_d7, k_d15, k_d35, k_d47, k_d61, k_d77, k_d95, k_d115, k_d137, k_d161, k_d200, k_d228, k_d258, k_d290, k_d324, k_d360, k_d398, k_d438, k_d480, k_d524, k_d570, k_d618, k_d668, k_d720, k_d774, k_d830, k_d888, k_d948, k_d1010, k_d1074, k_d1140, k_d1208⟩, g6⟩ := hp4
  have g4 : v4.1 = a0 :: o1 :: b6 :: b7 :: b8 :: b17 :: o52 :: b62 :: b63 :: b64 :: b65 :: o85 :: b100 :: b101 :: b102 :: b103 :: b133 :: o187 :: b208 :: o247 :: b270 :: o313 :: b338 :: o385 :: b412 :: b413 :: b414 :: b415 :: b416 :: b471 :: m0 :: d1 :: d7 :: d15 :: d35 :: d47 :: d61 :: d77 :: d95 :: d115 :: d137 :: d161 :: d200 :: d228 :: d258 :: d290 :: d324 :: d360 :: d398 :: d438 :: d480 :: d524 :: d570 :: d618 :: d668 :: d720 :: d774 :: d830 :: d888 :: d948 :: d1010 :: d1074 :: d1140 :: d1208 :: [] := by rw [g4, f3]; simp only [List.append_assoc, List.cons_append, List.nil_append]
  refine lv_astore_n (lv' := [(2, .ref m0), (1, .ref a0), (0, .ref b)]) hx hb dL_law_15 rfl hl (by decide) rfl (fun ls hl => ?_)
  refine z_iconst hx hb dL_law_16 ?_
  refine va_newa (ty := .long) (a0 := (1, .inr (.inl (fun _ => 0)))) (N' := 1) hx hb (hts (.arrayClass .long) (List.mem_append_right _ (List.mem_of_getElem? (i := 1110) (by decide +kernel)))) rfl hK hG.1 hG.2 hS hA (fun _ => rfl) (by decide) (by decide) (by decide) (by show _ ≤ 601024; omega) (by show _ ≤ 7293034; omega) dL_law_17 (fun q64 cA H hK9 hP hD hS => ?_)
  have ecA : cA = cy 6 := Option.some.inj ((va_nm_long (hK9.2 7 (cA, .long) rfl).2).symm.trans (va_nm_long (hK.2 6 (cy 6, .long) rfl).2))
  rw [ecA] at hP hD
  obtain ⟨v5, h1, h2, h3, -, hG⟩ := p_push hP hD
  have h1 : v5.1 = a0 :: o1 :: b6 :: b7 :: b8 :: b17 :: o52 :: b62 :: b63 :: b64 :: b65 :: o85 :: b100 :: b101 :: b102 :: b103 :: b133 :: o187 :: b208 :: o247 :: b270 :: o313 :: b338 :: o385 :: b412 :: b413 :: b414 :: b415 :: b416 :: b471 :: m0 :: d1 :: d7 :: d15 :: d35 :: d47 :: d61 :: d77 :: d95 :: d115 :: d137 :: d161 :: d200 :: d228 :: d258 :: d290 :: d324 :: d360 :: d398 :: d438 :: d480 :: d524 :: d570 :: d618 :: d668 :: d720 :: d774 :: d830 :: d888 :: d948 :: d1010 :: d1074 :: d1140 :: d1208 :: q64 :: [] := by rw [h1, g4]; simp only [List.cons_append, List.nil_append]
  have hne : ∀ x, x ∈ v2.1 → x ≠ m0 := fun x hx9 e9 => hm0 (e9 ▸ hx9)
  have s1 : ∀ x, x ∈ v2.1 → v5.2 x = v2.2 x := fun x hx9 => by
    have m3 : x ∈ v3.1 := by rw [f3]; rw [g1] at hx9; have m9 := List.mem_append_left [m0] hx9; simp only [List.cons_append, List.nil_append] at m9; exact m9
    have m4 : x ∈ v4.1 := by rw [g4]; rw [f3] at m3; have m9 := List.mem_append_left (d1 :: d7 :: d15 :: d35 :: d47 :: d61 :: d77 :: d95 :: d115 :: d137 :: d161 :: d200 :: d228 :: d258 :: d290 :: d324 :: d360 :: d398 :: d438 :: d480 :: d524 :: d570 :: d618 :: d668 :: d720 :: d774 :: d830 :: d888 :: d948 :: d1010 :: d1074 :: d1140 :: d1208 :: []) m3; simp only [List.cons_append, List.nil_append] at m9; exact m9
    rw [h3 x m4, g6 x m3 (hne x hx9), f5 x hx9]
  have hfE := first_E (cy := cy) (E := v5.2) ((s1 a0 (by rw [g1]; exact List.mem_of_getElem? (i := 0) rfl)).trans k_a0) ((s1 o1 (by rw [g1]; exact List.mem_of_getElem? (i := 1) rfl)).trans k_o1) ((s1 o52 (by rw [g1]; exact List.mem_of_getElem? (i := 6) rfl)).trans k_o52) ((s1 o85 (by rw [g1]; exact List.mem_of_getElem? (i := 11) rfl)).trans k_o85) ((s1 o187 (by rw [g1]; exact List.mem_of_getElem? (i := 17) rfl)).trans k_o187) ((s1 o247 (by rw [g1]; exact List.mem_of_getElem? (i := 19) rfl)).trans k_o247) ((s1 o313 (by rw [g1]; exact List.mem_of_getElem? (i := 21) rfl)).trans k_o313) ((s1 o385 (by rw [g1]; exact List.mem_of_getElem? (i := 23) rfl)).trans k_o385) ((h3 m0 (by rw [g4]; exact List.mem_of_getElem? (i := 30) rfl)).trans k_m0) ((s1 b6 (by rw [g1]; exact List.mem_of_getElem? (i := 2) rfl)).trans k_b6) ((s1 b7 (by rw [g1]; exact List.mem_of_getElem? (i := 3) rfl)).trans k_b7) ((s1 b8 (by rw [g1]; exact List.mem_of_getElem? (i := 4) rfl)).trans k_b8) ((s1 b17 (by rw [g1]; exact List.mem_of_getElem? (i := 5) rfl)).trans k_b17) ((s1 b62 (by rw [g1]; exact List.mem_of_getElem? (i := 7) rfl)).trans k_b62) ((s1 b63 (by rw [g1]; exact List.mem_of_getElem? (i := 8) rfl)).trans k_b63) ((s1 b64 (by rw [g1]; exact List.mem_of_getElem? (i := 9) rfl)).trans k_b64) ((s1 b65 (by rw [g1]; exact List.mem_of_getElem? (i := 10) rfl)).trans k_b65) ((s1 b100 (by rw [g1]; exact List.mem_of_getElem? (i := 12) rfl)).trans k_b100) ((s1 b101 (by rw [g1]; exact List.mem_of_getElem? (i := 13) rfl)).trans k_b101) ((s1 b102 (by rw [g1]; exact List.mem_of_getElem? (i := 14) rfl)).trans k_b102) ((s1 b103 (by rw [g1]; exact List.mem_of_getElem? (i := 15) rfl)).trans k_b103) ((s1 b133 (by rw [g1]; exact List.mem_of_getElem? (i := 16) rfl)).trans k_b133) ((s1 b208 (by rw [g1]; exact List.mem_of_getElem? (i := 18) rfl)).trans k_b208) ((s1 b270 (by rw [g1]; exact List.mem_of_getElem? (i := 20) rfl)).trans k_b270) ((s1 b338 (by rw [g1]; exact List.mem_of_getElem? (i := 22) rfl)).trans k_b338) ((s1 b412 (by rw [g1]; exact List.mem_of_getElem? (i := 24) rfl)).trans k_b412) ((s1 b413 (by rw [g1]; exact List.mem_of_getElem? (i := 25) rfl)).trans k_b413) ((s1 b414 (by rw [g1]; exact List.mem_of_getElem? (i := 26) rfl)).trans k_b414) ((s1 b415 (by rw [g1]; exact List.mem_of_getElem? (i := 27) rfl)).trans k_b415) ((s1 b416 (by rw [g1]; exact List.mem_of_getElem? (i := 28) rfl)).trans k_b416) ((s1 b471 (by rw [g1]; exact List.mem_of_getElem? (i := 29) rfl)).trans k_b471) ((h3 d1 (by rw [g4]; exact List.mem_of_getElem? (i := 31) rfl)).trans k_d1) ((h3 d7 (by rw [g4]; exact List.mem_of_getElem? (i := 32) rfl)).trans k_d7) ((h3 d15 (by rw [g4]; exact List.mem_of_getElem? (i := 33) rfl)).trans k_d15) ((h3 d35 (by rw [g4]; exact List.mem_of_getElem? (i := 34) rfl)).trans k_d35) ((h3 d47 (by rw [g4]; exact List.mem_of_getElem? (i := 35) rfl)).trans k_d47) ((h3 d61 (by rw [g4]; exact List.mem_of_getElem? (i := 36) rfl)).trans k_d61) ((h3 d77 (by rw [g4]; exact List.mem_of_getElem? (i := 37) rfl)).trans k_d77) ((h3 d95 (by rw [g4]; exact List.mem_of_getElem? (i := 38) rfl)).trans k_d95) ((h3 d115 (by rw [g4]; exact List.mem_of_getElem? (i := 39) rfl)).trans k_d115) ((h3 d137 (by rw [g4]; exact List.mem_of_getElem? (i := 40) rfl)).trans k_d137) ((h3 d161 (by rw [g4]; exact List.mem_of_getElem? (i := 41) rfl)).trans k_d161) ((h3 d200 (by rw [g4]; exact List.mem_of_getElem? (i := 42) rfl)).trans k_d200) ((h3 d228 (by rw [g4]; exact List.mem_of_getElem? (i := 43) rfl)).trans k_d228) ((h3 d258 (by rw [g4]; exact List.mem_of_getElem? (i := 44) rfl)).trans k_d258) ((h3 d290 (by rw [g4]; exact List.mem_of_getElem? (i := 45) rfl)).trans k_d290) ((h3 d324 (by rw [g4]; exact List.mem_of_getElem? (i := 46) rfl)).trans k_d324) ((h3 d360 (by rw [g4]; exact List.mem_of_getElem? (i := 47) rfl)).trans k_d360) ((h3 d398 (by rw [g4]; exact List.mem_of_getElem? (i := 48) rfl)).trans k_d398) ((h3 d438 (by rw [g4]; exact List.mem_of_getElem? (i := 49) rfl)).trans k_d438) ((h3 d480 (by rw [g4]; exact List.mem_of_getElem? (i := 50) rfl)).trans k_d480) ((h3 d524 (by rw [g4]; exact List.mem_of_getElem? (i := 51) rfl)).trans k_d524) ((h3 d570 (by rw [g4]; exact List.mem_of_getElem? (i := 52) rfl)).trans k_d570) ((h3 d618 (by rw [g4]; exact List.mem_of_getElem? (i := 53) rfl)).trans k_d618) ((h3 d668 (by rw [g4]; exact List.mem_of_getElem? (i := 54) rfl)).trans k_d668) ((h3 d720 (by rw [g4]; exact List.mem_of_getElem? (i := 55) rfl)).trans k_d720) ((h3 d774 (by rw [g4]; exact List.mem_of_getElem? (i := 56) rfl)).trans k_d774) ((h3 d830 (by rw [g4]; exact List.mem_of_getElem? (i := 57) rfl)).trans k_d830) ((h3 d888 (by rw [g4]; exact List.mem_of_getElem? (i := 58) rfl)).trans k_d888) ((h3 d948 (by rw [g4]; exact List.mem_of_getElem? (i := 59) rfl)).trans k_d948) ((h3 d1010 (by rw [g4]; exact List.mem_of_getElem? (i := 60) rfl)).trans k_d1010) ((h3 d1074 (by rw [g4]; exact List.mem_of_getElem? (i := 61) rfl)).trans k_d1074) ((h3 d1140 (by rw [g4]; exact List.mem_of_getElem? (i := 62) rfl)).trans k_d1140) ((h3 d1208 (by rw [g4]; exact List.mem_of_getElem? (i := 63) rfl)).trans k_d1208) (h2)
  have hGW := gW_of (u0 := u00) (jf := fun _ => 0) (by exact pi0_in) pi0_nd rfl hfE (by rw [← h1]; exact hG.1) (by rw [← h1]; exact hG.2)
  obtain ⟨ad, had⟩ : ∃ ad : Nat → Nat, ad = fun k => (a0 :: o1 :: b6 :: b7 :: b8 :: b17 :: o52 :: b62 :: b63 :: b64 :: b65 :: o85 :: b100 :: b101 :: b102 :: b103 :: b133 :: o187 :: b208 :: o247 :: b270 :: o313 :: b338 :: o385 :: b412 :: b413 :: b414 :: b415 :: b416 :: b471 :: m0 :: d1 :: d7 :: d15 :: d35 :: d47 :: d61 :: d77 :: d95 :: d115 :: d137 :: d161 :: d200 :: d228 :: d258 :: d290 :: d324 :: d360 :: d398 :: d438 :: d480 :: d524 :: d570 :: d618 :: d668 :: d720 :: d774 :: d830 :: d888 :: d948 :: d1010 :: d1074 :: d1140 :: d1208 :: q64 :: [] : List Nat).getD (pi0.getD k 0) 0 := ⟨_, rfl⟩
  rw [← had] at hGW
  have d0 : a0 = ad 0 := by rw [had]; rfl
  have d8 : m0 = ad 8 := by rw [had]; rfl
  have d64 : q64 = ad 64 := by rw [had]; rfl
  refine lv_astore_n (lv' := [(3, .ref q64), (2, .ref m0), (1, .ref a0), (0, .ref b)]) hx hb dL_law_19 rfl hl (by decide) rfl (fun ls hl => ?_)
  refine z_iconst hx hb dL_law_20 ?_
  refine lv_istore (lv' := [(4, .int (zI 0)), (3, .ref q64), (2, .ref m0), (1, .ref a0), (0, .ref b)]) hx hb dL_law_21 hl (by decide) rfl (fun ls hl => ?_)
  refine W.widen (k := 100 + 0) (n := 5000 + 50 * 0) (by omega) (by omega) ?_
  refine law_loop hE hr hlocks hAs (L + 1) 0 u00 (fun _ => 0) H locs ls (by omega) (by omega) (Rel_0 cy) hGW hS ?_
  have hl := lv_sub hl [4, 3, 2, 1, 0] rfl
  rw [d0, d8, d64] at hl
  exact hl
set_option maxHeartbeats 4000000 in
theorem lw_walk (l : Launch) (hl9 : l.stackTraces = false) (b : Addr) (xs : List Int32) : MetFree l x (headSpec (Jvm.Cond.code x code maxLocals ret :: tables_1) room_1) (lw_P b xs) (fun _ _ _ _ _ => True) lw_Q := by
  refine MetFree.of_bodyS (code := code) (maxLocals := maxLocals) (ret := ret) (by decide) ?_ ?_
  · intro args s m h hn
    obtain ⟨meth, c, h1, h2, h3, h4, h5, h6, -, -⟩ := Cond.code_spec hn (atoms_spec (ws := Jvm.Cond.code x code maxLocals ret :: tables_1) h _ List.mem_cons_self)
    exact ⟨meth, c, h1, h2, h3, h4, h5, h6⟩
  · intro p e s m args below meth c s₁ B hml0 hP _
    obtain ⟨rfl, hx, hbd, hgv⟩ := hP
    obtain ⟨scr, harrAt, hlist, hof, hsmall⟩ := hx
    obtain ⟨hcb, hkn, -, -⟩ := State.arrayAt?_spec harrAt
    have hown : s.vm.findClass R_law = some m.cls := findClass_of_methodNamed B.named
    have hts0 : ∀ c ∈ (Jvm.Cond.code x code maxLocals ret :: tables_1), c.before #[Value.ref b] s = true := atoms_spec (ws := Jvm.Cond.code x code maxLocals ret :: tables_1) B.pre
    have hts : ∀ w ∈ lw_tbl, w.before #[Value.ref b] s = true := k2_hts_sels lw_privs (fun w hw => hts0 w (List.mem_cons_of_mem _ hw)) lw_privs_ok
    have hml : c.maxLocals = 8 := B.maxLocals_eq (hts0 _ List.mem_cons_self)
    have X₀ : Stand p l e room_1 s m #[Value.ref b] below meth c s₁ [] 0 0 := Stand.of_body B
    have hh0 : s₁.heap = s.heap := by rw [B.state]; rfl
    have hsz : scr.slots.size = xs.length := by rw [← Array.length_toList, hlist, List.length_map]
    have hval : ∀ j : Nat, j < xs.length → scr.slots[j]? = some (.int (xs.getD j 0)) := fun j hj => by
      rw [← Array.getElem?_toList, hlist]
      simp [hj]
    have hbl : b < s.heap.size := (Array.getElem?_eq_some_iff.mp hcb).1
    have hX : va_X b xs.length (fun j => xs.getD j 0) s s.heap := ⟨scr, hcb, hof, hkn, hsz, hval⟩
    have K : W p l e room_1 s m #[Value.ref b] below meth c s₁.heap [] 0 0 (lw_Z below #[Value.ref b] s) (entryFrame m ([Value.ref b] : List Value).toArray 8) := by
      rw [hh0]
      exact whole_start l hl9 hbd ⟨B.exec, B.bytes, B.returns, hml, hown, hts, hX, hbl, B.notSynchronized, hgv⟩
    obtain ⟨t, a1, o, b1, b2, b3⟩ := K s₁ rfl X₀
    exact ⟨t, o, a1, b1, b2, b3⟩
theorem lw_pre_spec {args : Array Value} {s : State} (h : (Jvm.Cond.and given_1 narrow_1).before args s = true) (hr : rest_1_c.before args s = true) : ∃ (b : Addr) (xs : List Int32), lw_P b xs args s := by
  have hs := flat_of_before _ h
  have hq := flat_of_before _ hr
  have hc : (Cond.count 1).before args s = true := hs _ (by decide +kernel)
  have harr : (Cond.arrayOf (.arg 0) .int).before args s = true := hs _ (by decide +kernel)
  have hle : (Cond.le (.length (.arg 0)) (.int 3072)).before args s = true := hs _ (by decide +kernel)
  have hlen : (Cond.isInt (.length (.arg 0))).before args s = true := hq _ (by decide +kernel)
  have hall : (Cond.all (.arg 0) (.isInt (.elem (.arg 0) (.index 0)))).before args s = true := hq _ (by decide +kernel)
  obtain ⟨b, xs, hb, hx⟩ := State.ints_of_pre rfl harr hlen hall
  have hsm : xs.length < 2 ^ 31 := hx.choose_spec.2.2.2
  have hev : (Term.length (.arg 0)).eval args s none [] s = some (.int xs.length.toInt32) := hx.length_eval hb
  have hv := Cond.le_ints hev (show (Term.int 3072).eval args s none [] s = some (.int 3072) from rfl)
  have hd : xs.length.toInt32 ≤ 3072 := by
    simpa [Cond.before, Cond.holds, hv] using hle
  have hN : xs.length ≤ 3072 := (Int32.ofNat_le_ofNat hsm (by decide)).mp (show Int32.ofNat xs.length ≤ Int32.ofNat 3072 from hd)
  exact ⟨b, xs, Cond.one_arg hc (show args[0]? = some (.ref b) from hb), hx, hN, h⟩
theorem lw_comes (l : Launch) (hl9 : l.stackTraces = false) : Comes l x (Jvm.Cond.code x code maxLocals ret :: tables_1) room_1 (fun tb e args s => Calls_1 tb e args s ∧ rest_1 tb e args s ∧ Pre_1 tb e args s)
    (fun _ _ args s o t => lw_Q args s o t) := by
  intro p e ha hc hk s m args below hf hfit hheap happ hpre
  obtain ⟨b, xs, hP⟩ := lw_pre_spec hpre.2.2 hpre.2.1
  obtain ⟨k, o, h1, h2, h3, hQ⟩ := lw_walk l hl9 b xs p e ha hc hk s m args below hf ((Spec.applies_iff_loose hf).mp happ).1 hP trivial
  exact ⟨k, o, h1, h2, h3, hQ⟩
theorem lw_frame {s t : State} {o : Outcome} {args : Array Value} (h : Framed s o t [] 601024 7293034) :
    Framed s o t (fieldLocs frame_1_writes args s ++ arrayLocs frame_1_arrays args s ++ staticLocs frame_1_statics s) 601024 7293034 := h
theorem lw_limb (L : Cond) (hL : ∀ (args : Array Value) (s t : State), L.after args s (.returned (some (.int 1))) t = true) :
    ArmFor flags0 classFile x code maxLocals ret World_1 tables_1 room_1 Calls_1 rest_1 Pre_1
      (fun tb e a s o t => postC L tb e a s o t ∧ Framed s o t (fieldLocs frame_1_writes a s ++ arrayLocs frame_1_arrays a s ++ staticLocs frame_1_statics s) 601024 7293034) := by
  intro l hfl _ _ p e ha hc hk s m args below hf hfit hheap happ hpre
  obtain ⟨k, o, h1, h2, h3, rfl, hF⟩ := lw_comes l (by unfold Launch.stackTraces; rw [hfl]; decide +kernel) p e ha hc hk s m args below hf hfit hheap happ hpre
  exact ⟨k, _, h1, h2, h3, hL args s _, lw_frame hF⟩
theorem i_vc : Claimed_1_1 ∧ Claimed_1_2 := ⟨lw_limb limb_1_1 (fun args s t => by simp [limb_1_1, Cond.after, Cond.holds, Cond.value]), lw_limb limb_1_2 (fun args s t => Cond.after_iff.mpr (by
  first | (rw [show limb_1_2 = Cond.eq .result (.int 1) from rfl, Cond.eq_ints (x := 1) (y := 1) rfl rfl]; simp; done) | (simp [limb_1_2, Cond.value, Term.eval]; done)))⟩
