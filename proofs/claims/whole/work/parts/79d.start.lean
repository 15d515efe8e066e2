set_option maxHeartbeats 1600000 in
set_option maxRecDepth 100000 in
theorem start_A {p : Program} {l : Launch} {e : Env} {s : State} {m : MethodId} {below : List Frame} {meth : Method} {c : Code} {b L : Nat} {ys : Nat → Int} {D : va_G} {cy : Nat → ClassId} {A : Nat → Prop} (hE : lE p l s m meth c b L ys D cy A) (hr : meth.sig.returnType = ret) (hlocks : meth.locks = false) (hA : ∀ q : Nat, s.heap.size ≤ q → A q) (hAs : ∀ q : Nat, A q → s.heap.size ≤ q) (hts : ∀ w ∈ lw_tbl, w.before #[Value.ref b] s = true) (hI : gI D cy A s) {ls : Array Slot} (hl : lv_has ls 8 [(0, .ref b)]) : W p l e room_1 s m #[Value.ref b] below meth c s.heap [] 0 0 (lw_Z below #[Value.ref b] s) (F0 m 0 ls []) := by
  have hE2 := hE
  obtain ⟨hx, hb, hml, hown, htw, hX, hbl, hbA, hC, hTh, hl9, hys, hL⟩ := hE2
  have hK := hC.1
  have hS : va_S A s.heap s.heap [] := va_S.rf
  obtain ⟨v0, hv0⟩ : ∃ v : pS, v = ([], fun _ => .inr (0, [])) := ⟨_, rfl⟩
  have hG : pH D A v0 s.heap := by
    rw [hv0]
    exact ⟨fun k q h => by simp [va_pl] at h, fun i j p q h => by simp [va_pl] at h, fun k q h => by simp [va_pl] at h⟩
  refine va_new (ci := 10) (fs := [.null, .null, .int (zI 0), .int (zI 0), .int (zI 0), .null, .null, .null, .int (zI 0), .null, .null, .null, .null, .null]) (C := RX11) (T := TX11) (N := 14) hx hb hts inX11 tyX11 tyX11_ok hown (hts (.classLink RL 8 RX11) (List.mem_append_right _ (List.mem_of_getElem? (i := 22) (by decide +kernel)))) (hts (.instantiable RX11 14) (List.mem_append_right _ (List.mem_of_getElem? (i := 23) (by decide +kernel)))) (hts (.initialized RX11) (List.mem_append_right _ (List.mem_of_getElem? (i := 1) (by decide +kernel)))) hK hG.1 hG.2 hS hA rfl (fun j hj => by rcases (show j = 0 ∨ j = 1 ∨ j = 2 ∨ j = 3 ∨ j = 4 ∨ j = 5 ∨ j = 6 ∨ j = 7 ∨ j = 8 ∨ j = 9 ∨ j = 10 ∨ j = 11 ∨ j = 12 ∨ j = 13 by omega) with rfl | rfl | rfl | rfl | rfl | rfl | rfl | rfl | rfl | rfl | rfl | rfl | rfl | rfl <;> rfl) (by show _ ≤ 601024; omega) (by show _ ≤ 7293034; omega) dL_law_0 (fun a0 H hP hD hS => ?_)
  obtain ⟨v1, f1, f2, -, -, hG⟩ := p_push hP hD
  have f1 : v1.1 = [a0] := by rw [f1, hv0]; rfl
  refine lv_dup hx hb dL_law_3 rfl ?_
  refine p_callv (va_runI (As := []) (rest := [.ref a0]) ⟨hx, hb, hml, hown, htw⟩ (kX11_init l D cy A v1 a0 (by rw [f1]; exact List.mem_cons_self) f2) (cwI 0 htw gL_law_X11_init rfl rfl rfl (hts (.initialized RX11) (List.mem_append_right _ (List.mem_of_getElem? (i := 1) (by decide +kernel)))) (hts (.methodLink RL 21 yX11_init) (List.mem_append_right _ (List.mem_of_getElem? (i := 24) (by decide +kernel)))) (hts (.instanceMethod yX11_init) (List.mem_append_right _ (List.mem_of_getElem? (i := 25) (by decide +kernel)))) rfl (by decide +kernel) ⟨Nat.le_of_ble_eq_true rfl, Nat.le_of_ble_eq_true rfl⟩) (p_preS hG hI hS) rfl rfl hl.1 rfl (lv_room (Nat.le_of_ble_eq_true rfl)) dL_law_4 ⟨by show _ ≤ 601024; omega, by show _ ≤ 7293034; omega⟩) hS (fun v2 H locs hp2 hG hS => ?_)
  have hcp : cPool cy v2 a0 := by
    obtain ⟨o1, b6, b7, b8, b17, o52, b62, b63, b64, b65, o85, b100, b101, b102, b103, b133, o187, b208, o247, b270, o313, b338, o385, b412, b413, b414, b415, b416, b471, g1, -, ⟨k_a0, k_o1, k_b6, k_b7, k_b8, k_b17, k_o52, k_b62, k_b63, k_b64, k_b65, k_o85, k_b100, k_b101, k_b102, k_b103, k_b133, k_o187, k_b208, k_o247, k_b270, k_o313, k_b338, k_o385, k_b412, k_b413, k_b414, k_b415, k_b416, k_b471⟩, -⟩ := hp2
    exact ⟨o1, b6, b7, b8, b17, o52, b62, b63, b64, b65, o85, b100, b101, b102, b103, b133, o187, b208, o247, b270, o313, b338, o385, b412, b413, b414, b415, b416, b471, by rw [g1, f1]; simp only [List.append_assoc, List.cons_append, List.nil_append], k_a0, k_o1, k_b6, k_b7, k_b8, k_b17, k_o52, k_b62, k_b63, k_b64, k_b65, k_o85, k_b100, k_b101, k_b102, k_b103, k_b133, k_o187, k_b208, k_o247, k_b270, k_o313, k_b338, k_o385, k_b412, k_b413, k_b414, k_b415, k_b416, k_b471⟩
  clear hp2
  refine lv_astore_n (lv' := [(1, .ref a0), (0, .ref b)]) hx hb dL_law_7 rfl hl (by decide) rfl (fun ls hl => ?_)
  exact start_B hE hr hlocks hA hAs hts hI hcp hG hS hl (by omega) (by omega)
