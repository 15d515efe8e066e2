set_option maxHeartbeats 8000000 in
set_option maxRecDepth 100000 in
theorem kX11_init (l : Launch) (D : va_G) (cy : Nat → ClassId) (A : Nat → Prop) (u : pS) (a : Nat) (ha_a : a ∈ u.1) (hE_a : u.2 a = .inr (10, [.null, .null, .int (zI 0), .int (zI 0), .int (zI 0), .null, .null, .null, .int (zI 0), .null, .null, .null, .null, .null])) : Met l yX11_init wsX11_init ({ frames := 2, cells := 29, slots := 1463, locals := 60 }) (va_Pc [.ref a] (pB D cy A u)) (va_Qv (fun v : pS => ∃ o1 b6 b7 b8 b17 o52 b62 b63 b64 b65 o85 b100 b101 b102 b103 b133 o187 b208 o247 b270 o313 b338 o385 b412 b413 b414 b415 b416 b471, v.1 = (((((((((((((((((((((((((((((u.1 ++ [o1]) ++ [b6]) ++ [b7]) ++ [b8]) ++ [b17]) ++ [o52]) ++ [b62]) ++ [b63]) ++ [b64]) ++ [b65]) ++ [o85]) ++ [b100]) ++ [b101]) ++ [b102]) ++ [b103]) ++ [b133]) ++ [o187]) ++ [b208]) ++ [o247]) ++ [b270]) ++ [o313]) ++ [b338]) ++ [o385]) ++ [b412]) ++ [b413]) ++ [b414]) ++ [b415]) ++ [b416]) ++ [b471]) ∧ (o1 ∉ u.1 ∧ b6 ∉ (u.1 ++ [o1]) ∧ b7 ∉ ((u.1 ++ [o1]) ++ [b6]) ∧ b8 ∉ (((u.1 ++ [o1]) ++ [b6]) ++ [b7]) ∧ b17 ∉ ((((u.1 ++ [o1]) ++ [b6]) ++ [b7]) ++ [b8]) ∧ o52 ∉ (((((u.1 ++ [o1]) ++ [b6]) ++ [b7]) ++ [b8]) ++ [b17]) ∧ b62 ∉ ((((((u.1 ++ [o1]) ++ [b6]) ++ [b7]) ++ [b8]) ++ [b17]) ++ [o52]) ∧ b63 ∉ (((((((u.1 ++ [o1]) ++ [b6]) ++ [b7]) ++ [b8]) ++ [b17]) ++ [o52]) ++ [b62]) ∧ b64 ∉ ((((((((u.1 ++ [o1]) ++ [b6]) ++ [b7]) ++ [b8]) ++ [b17]) ++ [o52]) ++ [b62]) ++ [b63]) ∧ b65 ∉ (((((((((u.1 ++ [o1]) ++ [b6]) ++ [b7]) ++ [b8]) ++ [b17]) ++ [o52]) ++ [b62]) ++ [b63]) ++ [b64]) ∧ o85 ∉ ((((((((((u.1 ++ [o1]) ++ [b6]) ++ [b7]) ++ [b8]) ++ [b17]) ++ [o52]) ++ [b62]) ++ [b63]) ++ [b64]) ++ [b65]) ∧ b100 ∉ (((((((((((u.1 ++ [o1]) ++ [b6]) ++ [b7]) ++ [b8]) ++ [b17]) ++ [o52]) ++ [b62]) ++ [b63]) ++ [b64]) ++ [b65]) ++ [o85]) ∧ b101 ∉ ((((((((((((u.1 ++ [o1]) ++ [b6]) ++ [b7]) ++ [b8]) ++ [b17]) ++ [o52]) ++ [b62]) ++ [b63]) ++ [b64]) ++ [b65]) ++ [o85]) ++ [b100]) ∧ b102 ∉ (((((((((((((u.1 ++ [o1]) ++ [b6]) ++ [b7]) ++ [b8]) ++ [b17]) ++ [o52]) ++ [b62]) ++ [b63]) ++ [b64]) ++ [b65]) ++ [o85]) ++ [b100]) ++ [b101]) ∧ b103 ∉ ((((((((((((((u.1 ++ [o1]) ++ [b6]) ++ [b7]) ++ [b8]) ++ [b17]) ++ [o52]) ++ [b62]) ++ [b63]) ++ [b64]) ++ [b65]) ++ [o85]) ++ [b100]) ++ [b101]) ++ [b102]) ∧ b133 ∉ (((((((((((((((u.1 ++ [o1]) ++ [b6]) ++ [b7]) ++ [b8]) ++ [b17]) ++ [o52]) ++ [b62]) ++ [b63]) ++ [b64]) ++ [b65]) ++ [o85]) ++ [b100]) ++ [b101]) ++ [b102]) ++ [b103]) ∧ o187 ∉ ((((((((((((((((u.1 ++ [o1]) ++ [b6]) ++ [b7]) ++ [b8]) ++ [b17]) ++ [o52]) ++ [b62]) ++ [b63]) ++ [b64]) ++ [b65]) ++ [o85]) ++ [b100]) ++ [b101]) ++ [b102]) ++ [b103]) ++ [b133]) ∧ b208 ∉ (((((((((((((((((u.1 ++ [o1]) ++ [b6]) ++ [b7]) ++ [b8]) ++ [b17]) ++ [o52]) ++ [b62]) ++ [b63]) ++ [b64]) ++ [b65]) ++ [o85]) ++ [b100]) ++ [b101]) ++ [b102]) ++ [b103]) ++ [b133]) ++ [o187]) ∧ o247 ∉ ((((((((((((((((((u.1 ++ [o1]) ++ [b6]) ++ [b7]) ++ [b8]) ++ [b17]) ++ [o52]) ++ [b62]) ++ [b63]) ++ [b64]) ++ [b65]) ++ [o85]) ++ [b100]) ++ [b101]) ++ [b102]) ++ [b103]) ++ [b133]) ++ [o187]) ++ [b208]) ∧ b270 ∉ (((((((((((((((((((u.1 ++ [o1]) ++ [b6]) ++ [b7]) ++ [b8]) ++ [b17]) ++ [o52]) ++ [b62]) ++ [b63]) ++ [b64]) ++ [b65]) ++ [o85]) ++ [b100]) ++ [b101]) ++ [b102]) ++ [b103]) ++ [b133]) ++ [o187]) ++ [b208]) ++ [o247]) ∧ o313 ∉ ((((((((((((((((((((u.1 ++ [o1]) ++ [b6]) ++ [b7]) ++ [b8]) ++ [b17]) ++ [o52]) ++ [b62]) ++ [b63]) ++ [b64]) ++ [b65]) ++ [o85]) ++ [b100]) ++ [b101]) ++ [b102]) ++ [b103]) ++ [b133]) ++ [o187]) ++ [b208]) ++ [o247]) ++ [b270]) ∧ b338 ∉ (((((((((((((((((((((u.1 ++ [o1]) ++ [b6]) ++ [b7]) ++ [b8]) ++ [b17]) ++ [o52]) ++ [b62]) ++ [b63]) ++ [b64]) ++ [b65]) ++ [o85]) ++ [b100]) ++ [b101]) ++ [b102]) ++ [b103]) ++ [b133]) ++ [o187]) ++ [b208]) ++ [o247]) ++ [b270]) ++ [o313]) ∧ o385 ∉ ((((((((((((((((((((((u.1 ++ [o1]) ++ [b6]) ++ [b7]) ++ [b8]) ++ [b17]) ++ [o52]) ++ [b62]) ++ [b63]) ++ [b64]) ++ [b65]) ++ [o85]) ++ [b100]) ++ [b101]) ++ [b102]) ++ [b103]) ++ [b133]) ++ [o187]) ++ [b208]) ++ [o247]) ++ [b270]) ++ [o313]) ++ [b338]) ∧ b412 ∉ (((((((((((((((((((((((u.1 ++ [o1]) ++ [b6]) ++ [b7]) ++ [b8]) ++ [b17]) ++ [o52]) ++ [b62]) ++ [b63]) ++ [b64]) ++ [b65]) ++ [o85]) ++ [b100]) ++ [b101]) ++ [b102]) ++ [b103]) ++ [b133]) ++ [o187]) ++ [b208]) ++ [o247]) ++ [b270]) ++ [o313]) ++ [b338]) ++ [o385]) ∧ b413 ∉ ((((((((((((((((((((((((u.1 ++ [o1]) ++ [b6]) ++ [b7]) ++ [b8]) ++ [b17]) ++ [o52]) ++ [b62]) ++ [b63]) ++ [b64]) ++ [b65]) ++ [o85]) ++ [b100]) ++ [b101]) ++ [b102]) ++ [b103]) ++ [b133]) ++ [o187]) ++ [b208]) ++ [o247]) ++ [b270]) ++ [o313]) ++ [b338]) ++ [o385]) ++ [b412]) ∧ b414 ∉ (((((((((((((((((((((((((u.1 ++ [o1]) ++ [b6]) ++ [b7]) ++ [b8]) ++ [b17]) ++ [o52]) ++ [b62]) ++ [b63]) ++ [b64]) ++ [b65]) ++ [o85]) ++ [b100]) ++ [b101]) ++ [b102]) ++ [b103]) ++ [b133]) ++ [o187]) ++ [b208]) ++ [o247]) ++ [b270]) ++ [o313]) ++ [b338]) ++ [o385]) ++ [b412]) ++ [b413]) ∧ b415 ∉ ((((((((((((((((((((((((((u.1 ++ [o1]) ++ [b6]) ++ [b7]) ++ [b8]) ++ [b17]) ++ [o52]) ++ [b62]) ++ [b63]) ++ [b64]) ++ [b65]) ++ [o85]) ++ [b100]) ++ [b101]) ++ [b102]) ++ [b103]) ++ [b133]) ++ [o187]) ++ [b208]) ++ [o247]) ++ [b270]) ++ [o313]) ++ [b338]) ++ [o385]) ++ [b412]) ++ [b413]) ++ [b414]) ∧ b416 ∉ (((((((((((((((((((((((((((u.1 ++ [o1]) ++ [b6]) ++ [b7]) ++ [b8]) ++ [b17]) ++ [o52]) ++ [b62]) ++ [b63]) ++ [b64]) ++ [b65]) ++ [o85]) ++ [b100]) ++ [b101]) ++ [b102]) ++ [b103]) ++ [b133]) ++ [o187]) ++ [b208]) ++ [o247]) ++ [b270]) ++ [o313]) ++ [b338]) ++ [o385]) ++ [b412]) ++ [b413]) ++ [b414]) ++ [b415]) ∧ b471 ∉ ((((((((((((((((((((((((((((u.1 ++ [o1]) ++ [b6]) ++ [b7]) ++ [b8]) ++ [b17]) ++ [o52]) ++ [b62]) ++ [b63]) ++ [b64]) ++ [b65]) ++ [o85]) ++ [b100]) ++ [b101]) ++ [b102]) ++ [b103]) ++ [b133]) ++ [o187]) ++ [b208]) ++ [o247]) ++ [b270]) ++ [o313]) ++ [b338]) ++ [o385]) ++ [b412]) ++ [b413]) ++ [b414]) ++ [b415]) ++ [b416])) ∧ (v.2 a = .inr (10, [.ref o1, .ref b17, .int (zI 0), .int (zI 5), .int (zI 20), .ref o52, .ref o85, .ref b133, .int (zI 0), .ref o187, .ref o247, .ref o313, .ref o385, .ref b471]) ∧ v.2 o1 = .inr (7, [.ref b6, .int (zI 0), .ref b7, .ref b8]) ∧ v.2 b6 = .inl (cy 2, 288, .inl (fun _ => zI 0)) ∧ v.2 b7 = .inl (cy 0, 36, .inl (fun _ => zI 0)) ∧ v.2 b8 = .inl (cy 0, 36, .inl (fun _ => zI 0)) ∧ v.2 b17 = .inl (cy 4, 10, .inr (.inr (.inr (.inr (fun _ => none))))) ∧ v.2 o52 = .inr (8, [.int (zI 0), .int (zI 0), .int (zI 0), .ref b62, .ref b63, .ref b64, .ref b65, .int (zI 0), .int (zI 0)]) ∧ v.2 b62 = .inl (cy 0, 101, .inl (fun _ => zI 0)) ∧ v.2 b63 = .inl (cy 0, 101, .inl (fun _ => zI 0)) ∧ v.2 b64 = .inl (cy 0, 100, .inl (fun _ => zI 0)) ∧ v.2 b65 = .inl (cy 0, 101, .inl (fun _ => zI 0)) ∧ v.2 o85 = .inr (8, [.int (zI 0), .int (zI 0), .int (zI 0), .ref b100, .ref b101, .ref b102, .ref b103, .int (zI 0), .int (zI 0)]) ∧ v.2 b100 = .inl (cy 0, 101, .inl (fun _ => zI 0)) ∧ v.2 b101 = .inl (cy 0, 101, .inl (fun _ => zI 0)) ∧ v.2 b102 = .inl (cy 0, 100, .inl (fun _ => zI 0)) ∧ v.2 b103 = .inl (cy 0, 101, .inl (fun _ => zI 0)) ∧ v.2 b133 = .inl (cy 5, 8, .inr (.inr (.inr (.inr (fun _ => none))))) ∧ v.2 o187 = .inr (9, [.ref b208, .int (zI 0)]) ∧ v.2 b208 = .inl (cy 0, 60, .inl (fun _ => zI 0)) ∧ v.2 o247 = .inr (9, [.ref b270, .int (zI 0)]) ∧ v.2 b270 = .inl (cy 0, 6, .inl (fun _ => zI 0)) ∧ v.2 o313 = .inr (9, [.ref b338, .int (zI 0)]) ∧ v.2 b338 = .inl (cy 0, 40, .inl (fun _ => zI 0)) ∧ v.2 o385 = .inr (1, [.int (zI 0), .ref b412, .ref b413, .ref b414, .ref b415, .ref b416, .int (zI 0)]) ∧ v.2 b412 = .inl (cy 2, 10, .inl (fun _ => zI 0)) ∧ v.2 b413 = .inl (cy 0, 10, .inl (fun _ => zI 0)) ∧ v.2 b414 = .inl (cy 0, 10, .inl (fun _ => zI 0)) ∧ v.2 b415 = .inl (cy 0, 10, .inl (fun _ => zI 0)) ∧ v.2 b416 = .inl (cy 0, 16, .inl (fun _ => zI 0)) ∧ v.2 b471 = .inl (cy 3, 8, .inr (.inr (.inr (.inr (fun _ => none)))))) ∧ ∀ x, x ∈ u.1 → x ≠ a → v.2 x = u.2 x) (pB D cy A) A) 29 1463 A := by
  refine Met.ofW (cc := cX11_init) (maxL := 1) (ret := none) (by decide) rfl ?_
  intro p e s m args below meth c s₁ B hml hv
  obtain ⟨rfl, hG, hI⟩ := hv
  have hx := B.exec
  have hb := B.bytes
  have hr := B.returns
  have hts := atoms_spec (ws := wsX11_init) B.pre
  have hown : s.vm.findClass RX11 = some m.cls := findClass_of_methodNamed B.named
  have hlocks := B.notSynchronized
  have hS : va_S A s.heap s.heap [] := va_S.rf
  have hin2 : meth.name = "<init>" := (name_of_methodNamed B.named B.method).1
  have hl := lv_entry ([.ref a]) (n := 1) (Nat.le_of_ble_eq_true rfl)
  rw [lg_entry_eq]
  generalize (lg_sl ([.ref a]) ++ List.replicate (1 - (lg_sl ([.ref a])).length) Slot.unset).toArray = ls at hl ⊢
  have hl : lv_has ls 1 [(0, .ref a)] := hl
  have hLu : u.1 = u.1 := rfl
  have hMu : ∀ x, x ∈ u.1 → x ∈ u.1 := fun _ h => h
  have hOu : ∀ x, x ∈ u.1 → x ≠ a → u.2 x = u.2 x := fun _ _ _ => rfl
  refine lv_aload_n hx hb dX11_init_0 rfl (lv_at hl 0 rfl) ?_
  refine W.objInit hx hb hown (hts (.methodLink RX11 1 objectInit) (List.mem_cons_of_mem _ (List.mem_append_left _ (List.mem_append_left _ (List.mem_append_left _ (List.mem_append_left _ (List.mem_append_left _ (List.mem_append_left _ (List.mem_of_getElem? (i := 0) rfl))))))))) (hts (.instanceMethod objectInit) (List.mem_cons_of_mem _ (List.mem_append_left _ (List.mem_append_left _ (List.mem_append_left _ (List.mem_append_left _ (List.mem_append_left _ (List.mem_append_left _ (List.mem_of_getElem? (i := 1) rfl))))))))) (hts (.code objectInit ⟨#[0xb1]⟩ 1 none) (List.mem_cons_of_mem _ (List.mem_append_left _ (List.mem_append_left _ (List.mem_append_left _ (List.mem_append_left _ (List.mem_append_left _ (List.mem_append_left _ (List.mem_of_getElem? (i := 2) rfl))))))))) rfl (by rw [hml]; exact hl.1) rfl dX11_init_1 (Nat.le_of_ble_eq_true rfl) (Nat.le_of_ble_eq_true rfl) ?_
  refine W.eq (g2 := F0 m 4 ls []) rfl ?_
  refine lv_aload_n hx hb dX11_init_4 rfl (lv_at hl 0 rfl) ?_
  refine va_new (ci := 7) (fs := [.null, .int (zI 0), .null, .null]) (C := RX8) (T := TX8) (N := 4) hx hb hts (fun _ h => (List.mem_cons_of_mem _ (List.mem_append_left _ (List.mem_append_left _ (List.mem_append_left _ (List.mem_append_left _ (List.mem_append_right _ h))))))) tyX8 tyX8_ok hown (hts (.classLink RX11 7 RX8) (List.mem_cons_of_mem _ (List.mem_append_left _ (List.mem_append_left _ (List.mem_append_left _ (List.mem_append_left _ (List.mem_append_left _ (List.mem_append_left _ (List.mem_of_getElem? (i := 3) rfl))))))))) (hts (.instantiable RX8 4) (List.mem_cons_of_mem _ (List.mem_append_left _ (List.mem_append_left _ (List.mem_append_left _ (List.mem_append_left _ (List.mem_append_left _ (List.mem_append_left _ (List.mem_of_getElem? (i := 4) rfl))))))))) (hts (.initialized RX8) (List.mem_cons_of_mem _ (List.mem_append_left _ (List.mem_append_left _ (List.mem_append_left _ (List.mem_append_left _ (List.mem_append_left _ (List.mem_append_left _ (List.mem_of_getElem? (i := 5) rfl))))))))) hI.1 hG.1 hG.2 hS hI.2.1 rfl (fun j hj => by rcases (show j = 0 ∨ j = 1 ∨ j = 2 ∨ j = 3 by omega) with rfl | rfl | rfl | rfl <;> rfl) (Nat.le_of_ble_eq_true rfl) (Nat.le_of_ble_eq_true rfl) dX11_init_5 (fun o1 H hP hD hS => ?_)
  obtain ⟨u2, hu2, hEo1, hpu2, hno1, hG⟩ := p_push hP hD
  have fo1 : o1 ∉ u.1 := by rw [← hLu]; exact hno1
  have hLu2 : u2.1 = (u.1 ++ [o1]) := by rw [hu2, hLu]
  have hMu2 : ∀ x, x ∈ u.1 → x ∈ u2.1 := fun x hx => by rw [hu2]; exact List.mem_append_left _ (hMu x hx)
  have hOu2 : ∀ x, x ∈ u.1 → x ≠ a → u2.2 x = u.2 x := fun x hx ne => (hpu2 x (hMu x hx)).trans (hOu x hx ne)
  have da_o1 : a ≠ o1 := fun h => hno1 (h ▸ ha_a)
  have mt3 : a ∈ u2.1 := (fun x hx => by rw [hu2]; exact List.mem_append_left _ hx : ∀ x, x ∈ u.1 → x ∈ u2.1) a ha_a
  have et3 : u2.2 a = .inr (10, [.null, .null, .int (zI 0), .int (zI 0), .int (zI 0), .null, .null, .null, .int (zI 0), .null, .null, .null, .null, .null]) := (hpu2 a ha_a).trans hE_a
  have mo1 : o1 ∈ u2.1 := by rw [hu2]; exact List.mem_append_right _ List.mem_cons_self
  refine lv_dup hx hb dX11_init_8 rfl ?_
  refine p_callv (va_runIN (As := []) (rest := [.ref o1, .ref a]) ⟨hx, hb, hml, hown, hts⟩ (kX8_init l D cy A u2 o1  mo1 hEo1) ⟨va_cnB 0 hts gX11_init_X8_init_n9 rfl rfl rfl hI.2.2.2.1 (hts (.initialized RX8) (List.mem_cons_of_mem _ (List.mem_append_left _ (List.mem_append_left _ (List.mem_append_left _ (List.mem_append_left _ (List.mem_append_left _ (List.mem_append_left _ (List.mem_of_getElem? (i := 5) rfl))))))))) (by decide +kernel) ⟨by decide, by decide⟩, rfl, (hts (.instanceMethod yX8_init) (List.mem_cons_of_mem _ (List.mem_append_left _ (List.mem_append_left _ (List.mem_append_left _ (List.mem_append_left _ (List.mem_append_left _ (List.mem_append_right _ (List.mem_append_left _ (List.mem_of_getElem? (i := 8) rfl))))))))))⟩ (p_preS hG hI hS) rfl rfl hl.1 rfl (lv_room (Nat.le_of_ble_eq_true rfl)) dX11_init_9 ⟨Nat.le_of_ble_eq_true rfl, Nat.le_of_ble_eq_true rfl⟩) hS (fun u4 H locs p_5 hG hS => ?_)
  obtain ⟨b6, b7, b8, hu4, ⟨hnb6, hnb7, hnb8⟩, ⟨hEou4, hEb6, hEb7, hEb8⟩, hpu4⟩ := p_5
  have da_b6 : a ≠ b6 := fun h => hnb6 (h ▸ mt3)
  have do1_b6 : o1 ≠ b6 := fun h => hnb6 (h ▸ mo1)
  have da_b7 : a ≠ b7 := fun h => hnb7 (h ▸ (List.mem_append_left _ mt3))
  have do1_b7 : o1 ≠ b7 := fun h => hnb7 (h ▸ (List.mem_append_left _ mo1))
  have db6_b7 : b6 ≠ b7 := fun h => hnb7 (h ▸ (List.mem_append_right _ List.mem_cons_self))
  have da_b8 : a ≠ b8 := fun h => hnb8 (h ▸ (List.mem_append_left _ (List.mem_append_left _ mt3)))
  have do1_b8 : o1 ≠ b8 := fun h => hnb8 (h ▸ (List.mem_append_left _ (List.mem_append_left _ mo1)))
  have db6_b8 : b6 ≠ b8 := fun h => hnb8 (h ▸ (List.mem_append_left _ (List.mem_append_right _ List.mem_cons_self)))
  have db7_b8 : b7 ≠ b8 := fun h => hnb8 (h ▸ (List.mem_append_right _ List.mem_cons_self))
  have fb6 : b6 ∉ (u.1 ++ [o1]) := by rw [← hLu2]; exact hnb6
  have fb7 : b7 ∉ ((u.1 ++ [o1]) ++ [b6]) := by rw [← hLu2]; exact hnb7
  have fb8 : b8 ∉ (((u.1 ++ [o1]) ++ [b6]) ++ [b7]) := by rw [← hLu2]; exact hnb8
  have hLu4 : u4.1 = ((((u.1 ++ [o1]) ++ [b6]) ++ [b7]) ++ [b8]) := by rw [hu4, hLu2]
  have hMu4 : ∀ x, x ∈ u.1 → x ∈ u4.1 := fun x hx => by rw [hu4]; exact (List.mem_append_left _ (List.mem_append_left _ (List.mem_append_left _ (hMu2 x hx))))
  have hOu4 : ∀ x, x ∈ u.1 → x ≠ a → u4.2 x = u.2 x := fun x hx ne => (hpu4 x (hMu2 x hx) (fun h => fo1 (h ▸ hx))).trans (hOu2 x hx ne)
  have mt9 : a ∈ u4.1 := (fun x hx => by rw [hu4]; exact (List.mem_append_left _ (List.mem_append_left _ (List.mem_append_left _ hx))) : ∀ x, x ∈ u2.1 → x ∈ u4.1) a mt3
  have et9 : u4.2 a = .inr (10, [.null, .null, .int (zI 0), .int (zI 0), .int (zI 0), .null, .null, .null, .int (zI 0), .null, .null, .null, .null, .null]) := (hpu4 a mt3 da_o1).trans et3
  have mt10 : o1 ∈ u4.1 := (fun x hx => by rw [hu4]; exact (List.mem_append_left _ (List.mem_append_left _ (List.mem_append_left _ hx))) : ∀ x, x ∈ u2.1 → x ∈ u4.1) o1 mo1
  have mb6 : b6 ∈ u4.1 := by rw [hu4]; exact (List.mem_append_left _ (List.mem_append_left _ (List.mem_append_right _ List.mem_cons_self)))
  have mb7 : b7 ∈ u4.1 := by rw [hu4]; exact (List.mem_append_left _ (List.mem_append_right _ List.mem_cons_self))
  have mb8 : b8 ∈ u4.1 := by rw [hu4]; exact (List.mem_append_right _ List.mem_cons_self)
  obtain ⟨k9, hk9⟩ := p_get D u4 mt9
  refine va_putF (C := RX11) (T := TX11) (N := 14) (ci := 10) (ty := tyX11 0) hx hb hts (fun _ h => (List.mem_cons_of_mem _ (List.mem_append_left _ (List.mem_append_left _ (List.mem_append_left _ (List.mem_append_right _ h)))))) tyX11 tyX11_ok nmX11 hown hI.1 hG.1 hG.2 hS k9 (hk9.trans (by rw [et9])) rfl 0 (by decide) (hts (.fieldLink RX11 10 "StraitSwim" "strait" "LStraitSwim$Strait;") (List.mem_cons_of_mem _ (List.mem_append_left _ (List.mem_append_left _ (List.mem_append_left _ (List.mem_append_left _ (List.mem_append_left _ (List.mem_append_left _ (List.mem_of_getElem? (i := 6) rfl))))))))) (fun _ h9 => h9) rfl hin2 rfl (tyX11_ok 0 (by decide)) rfl rfl (Nat.le_of_ble_eq_true rfl) dX11_init_12 (fun H locs hP hD hS => ?_)
  obtain ⟨u11, hu11, hEu11, hpu11, hG⟩ := p_set (e := .inr (10, [.ref o1, .null, .int (zI 0), .int (zI 0), .int (zI 0), .null, .null, .null, .int (zI 0), .null, .null, .null, .null, .null])) hG mt9 hk9 hP hD
  have mt12 : a ∈ u11.1 := (fun x hx => by rw [hu11]; exact hx : ∀ x, x ∈ u4.1 → x ∈ u11.1) a mt9
  have mt13 : o1 ∈ u11.1 := (fun x hx => by rw [hu11]; exact hx : ∀ x, x ∈ u4.1 → x ∈ u11.1) o1 mt10
  have et13 : u11.2 o1 = .inr (7, [.ref b6, .int (zI 0), .ref b7, .ref b8]) := (hpu11 o1 (fun h => (fun h9 => da_o1 h9.symm) h)).trans hEou4
  have mt14 : b6 ∈ u11.1 := (fun x hx => by rw [hu11]; exact hx : ∀ x, x ∈ u4.1 → x ∈ u11.1) b6 mb6
  have et14 : u11.2 b6 = .inl (cy 2, 288, .inl (fun _ => zI 0)) := (hpu11 b6 (fun h => (fun h9 => da_b6 h9.symm) h)).trans hEb6
  have mt15 : b7 ∈ u11.1 := (fun x hx => by rw [hu11]; exact hx : ∀ x, x ∈ u4.1 → x ∈ u11.1) b7 mb7
  have et15 : u11.2 b7 = .inl (cy 0, 36, .inl (fun _ => zI 0)) := (hpu11 b7 (fun h => (fun h9 => da_b7 h9.symm) h)).trans hEb7
  have mt16 : b8 ∈ u11.1 := (fun x hx => by rw [hu11]; exact hx : ∀ x, x ∈ u4.1 → x ∈ u11.1) b8 mb8
  have et16 : u11.2 b8 = .inl (cy 0, 36, .inl (fun _ => zI 0)) := (hpu11 b8 (fun h => (fun h9 => da_b8 h9.symm) h)).trans hEb8
  have hLu11 : u11.1 = ((((u.1 ++ [o1]) ++ [b6]) ++ [b7]) ++ [b8]) := by rw [hu11, hLu4]
  have hMu11 : ∀ x, x ∈ u.1 → x ∈ u11.1 := fun x hx => by rw [hu11]; exact hMu4 x hx
  have hOu11 : ∀ x, x ∈ u.1 → x ≠ a → u11.2 x = u.2 x := fun x hx ne => (hpu11 x ne).trans (hOu4 x hx ne)
  refine lv_aload_n hx hb dX11_init_15 rfl (lv_at hl 0 rfl) ?_
  refine z_bipush hx hb dX11_init_16 (by decide) ?_
  refine p_newQ (C := RX3) (k := 4) (z := 10) (M := 10) hx hb hown (hts (.classLink RX11 16 RX3) (List.mem_cons_of_mem _ (List.mem_append_left _ (List.mem_append_left _ (List.mem_append_left _ (List.mem_append_left _ (List.mem_append_left _ (List.mem_append_left _ (List.mem_of_getElem? (i := 7) rfl))))))))) hI.2.2.1.1 rfl hI hG hS (by omega) (by omega) (by omega) (Nat.le_of_ble_eq_true rfl) (Nat.le_of_ble_eq_true rfl) dX11_init_18 (fun b17 u18 H hu18 hEb17 hpu18 hnb17 hG hS => ?_)
  have hEb17 : u18.2 b17 = .inl (cy 4, 10, .inr (.inr (.inr (.inr (fun _ => none))))) := hEb17
  have fb17 : b17 ∉ ((((u.1 ++ [o1]) ++ [b6]) ++ [b7]) ++ [b8]) := by rw [← hLu11]; exact hnb17
  have hLu18 : u18.1 = (((((u.1 ++ [o1]) ++ [b6]) ++ [b7]) ++ [b8]) ++ [b17]) := by rw [hu18, hLu11]
  have hMu18 : ∀ x, x ∈ u.1 → x ∈ u18.1 := fun x hx => by rw [hu18]; exact List.mem_append_left _ (hMu11 x hx)
  have hOu18 : ∀ x, x ∈ u.1 → x ≠ a → u18.2 x = u.2 x := fun x hx ne => (hpu18 x (hMu11 x hx)).trans (hOu11 x hx ne)
  have da_b17 : a ≠ b17 := fun h => hnb17 (h ▸ mt12)
  have do1_b17 : o1 ≠ b17 := fun h => hnb17 (h ▸ mt13)
  have db6_b17 : b6 ≠ b17 := fun h => hnb17 (h ▸ mt14)
  have db7_b17 : b7 ≠ b17 := fun h => hnb17 (h ▸ mt15)
  have db8_b17 : b8 ≠ b17 := fun h => hnb17 (h ▸ mt16)
  have mt19 : a ∈ u18.1 := (fun x hx => by rw [hu18]; exact List.mem_append_left _ hx : ∀ x, x ∈ u11.1 → x ∈ u18.1) a mt12
  have et19 : u18.2 a = .inr (10, [.ref o1, .null, .int (zI 0), .int (zI 0), .int (zI 0), .null, .null, .null, .int (zI 0), .null, .null, .null, .null, .null]) := (hpu18 a mt12).trans hEu11
  have mt20 : o1 ∈ u18.1 := (fun x hx => by rw [hu18]; exact List.mem_append_left _ hx : ∀ x, x ∈ u11.1 → x ∈ u18.1) o1 mt13
  have et20 : u18.2 o1 = .inr (7, [.ref b6, .int (zI 0), .ref b7, .ref b8]) := (hpu18 o1 mt13).trans et13
  have mt21 : b6 ∈ u18.1 := (fun x hx => by rw [hu18]; exact List.mem_append_left _ hx : ∀ x, x ∈ u11.1 → x ∈ u18.1) b6 mt14
  have et21 : u18.2 b6 = .inl (cy 2, 288, .inl (fun _ => zI 0)) := (hpu18 b6 mt14).trans et14
  have mt22 : b7 ∈ u18.1 := (fun x hx => by rw [hu18]; exact List.mem_append_left _ hx : ∀ x, x ∈ u11.1 → x ∈ u18.1) b7 mt15
  have et22 : u18.2 b7 = .inl (cy 0, 36, .inl (fun _ => zI 0)) := (hpu18 b7 mt15).trans et15
  have mt23 : b8 ∈ u18.1 := (fun x hx => by rw [hu18]; exact List.mem_append_left _ hx : ∀ x, x ∈ u11.1 → x ∈ u18.1) b8 mt16
  have et23 : u18.2 b8 = .inl (cy 0, 36, .inl (fun _ => zI 0)) := (hpu18 b8 mt16).trans et16
  have mb17 : b17 ∈ u18.1 := by rw [hu18]; exact List.mem_append_right _ List.mem_cons_self
  obtain ⟨k9, hk9⟩ := p_get D u18 mt19
  refine va_putF (C := RX11) (T := TX11) (N := 14) (ci := 10) (ty := tyX11 1) hx hb hts (fun _ h => (List.mem_cons_of_mem _ (List.mem_append_left _ (List.mem_append_left _ (List.mem_append_left _ (List.mem_append_right _ h)))))) tyX11 tyX11_ok nmX11 hown hI.1 hG.1 hG.2 hS k9 (hk9.trans (by rw [et19])) rfl 1 (by decide) (hts (.fieldLink RX11 18 "StraitSwim" "swimmers" "[LStraitSwim$Plain;") (List.mem_cons_of_mem _ (List.mem_append_left _ (List.mem_append_left _ (List.mem_append_left _ (List.mem_append_left _ (List.mem_append_left _ (List.mem_append_left _ (List.mem_of_getElem? (i := 8) rfl))))))))) (fun _ h9 => h9) rfl hin2 rfl (tyX11_ok 1 (by decide)) rfl rfl (Nat.le_of_ble_eq_true rfl) dX11_init_21 (fun H locs hP hD hS => ?_)
  obtain ⟨u24, hu24, hEu24, hpu24, hG⟩ := p_set (e := .inr (10, [.ref o1, .ref b17, .int (zI 0), .int (zI 0), .int (zI 0), .null, .null, .null, .int (zI 0), .null, .null, .null, .null, .null])) hG mt19 hk9 hP hD
  have mt25 : a ∈ u24.1 := (fun x hx => by rw [hu24]; exact hx : ∀ x, x ∈ u18.1 → x ∈ u24.1) a mt19
  have mt26 : o1 ∈ u24.1 := (fun x hx => by rw [hu24]; exact hx : ∀ x, x ∈ u18.1 → x ∈ u24.1) o1 mt20
  have et26 : u24.2 o1 = .inr (7, [.ref b6, .int (zI 0), .ref b7, .ref b8]) := (hpu24 o1 (fun h => (fun h9 => da_o1 h9.symm) h)).trans et20
  have mt27 : b6 ∈ u24.1 := (fun x hx => by rw [hu24]; exact hx : ∀ x, x ∈ u18.1 → x ∈ u24.1) b6 mt21
  have et27 : u24.2 b6 = .inl (cy 2, 288, .inl (fun _ => zI 0)) := (hpu24 b6 (fun h => (fun h9 => da_b6 h9.symm) h)).trans et21
  have mt28 : b7 ∈ u24.1 := (fun x hx => by rw [hu24]; exact hx : ∀ x, x ∈ u18.1 → x ∈ u24.1) b7 mt22
  have et28 : u24.2 b7 = .inl (cy 0, 36, .inl (fun _ => zI 0)) := (hpu24 b7 (fun h => (fun h9 => da_b7 h9.symm) h)).trans et22
  have mt29 : b8 ∈ u24.1 := (fun x hx => by rw [hu24]; exact hx : ∀ x, x ∈ u18.1 → x ∈ u24.1) b8 mt23
  have et29 : u24.2 b8 = .inl (cy 0, 36, .inl (fun _ => zI 0)) := (hpu24 b8 (fun h => (fun h9 => da_b8 h9.symm) h)).trans et23
  have mt30 : b17 ∈ u24.1 := (fun x hx => by rw [hu24]; exact hx : ∀ x, x ∈ u18.1 → x ∈ u24.1) b17 mb17
  have et30 : u24.2 b17 = .inl (cy 4, 10, .inr (.inr (.inr (.inr (fun _ => none))))) := (hpu24 b17 (fun h => (fun h9 => da_b17 h9.symm) h)).trans hEb17
  have hLu24 : u24.1 = (((((u.1 ++ [o1]) ++ [b6]) ++ [b7]) ++ [b8]) ++ [b17]) := by rw [hu24, hLu18]
  have hMu24 : ∀ x, x ∈ u.1 → x ∈ u24.1 := fun x hx => by rw [hu24]; exact hMu18 x hx
  have hOu24 : ∀ x, x ∈ u.1 → x ≠ a → u24.2 x = u.2 x := fun x hx ne => (hpu24 x ne).trans (hOu18 x hx ne)
  refine lv_aload_n hx hb dX11_init_24 rfl (lv_at hl 0 rfl) ?_
  refine z_iconst hx hb dX11_init_25 ?_
  obtain ⟨k9, hk9⟩ := p_get D u24 mt25
  refine va_put (C := RX11) (T := TX11) (N := 14) (ci := 10) (ty := tyX11 2) hx hb hts (fun _ h => (List.mem_cons_of_mem _ (List.mem_append_left _ (List.mem_append_left _ (List.mem_append_left _ (List.mem_append_right _ h)))))) tyX11 tyX11_ok nmX11 hown hI.1 hG.1 hG.2 hS k9 (hk9.trans (by rw [hEu24])) rfl 2 (by decide) (hts (.fieldLink RX11 22 "StraitSwim" "swimmerCount" "I") (List.mem_cons_of_mem _ (List.mem_append_left _ (List.mem_append_left _ (List.mem_append_left _ (List.mem_append_left _ (List.mem_append_left _ (List.mem_append_left _ (List.mem_of_getElem? (i := 9) rfl))))))))) (fun _ h9 => h9) rfl (tyX11_ok 2 (by decide)) rfl rfl (Nat.le_of_ble_eq_true rfl) dX11_init_26 (fun H locs hP hD hS => ?_)
  obtain ⟨u31, hu31, hEu31, hpu31, hG⟩ := p_set (e := .inr (10, [.ref o1, .ref b17, .int (zI 0), .int (zI 0), .int (zI 0), .null, .null, .null, .int (zI 0), .null, .null, .null, .null, .null])) hG mt25 hk9 hP hD
  have mt32 : a ∈ u31.1 := (fun x hx => by rw [hu31]; exact hx : ∀ x, x ∈ u24.1 → x ∈ u31.1) a mt25
  have mt33 : o1 ∈ u31.1 := (fun x hx => by rw [hu31]; exact hx : ∀ x, x ∈ u24.1 → x ∈ u31.1) o1 mt26
  have et33 : u31.2 o1 = .inr (7, [.ref b6, .int (zI 0), .ref b7, .ref b8]) := (hpu31 o1 (fun h => (fun h9 => da_o1 h9.symm) h)).trans et26
  have mt34 : b6 ∈ u31.1 := (fun x hx => by rw [hu31]; exact hx : ∀ x, x ∈ u24.1 → x ∈ u31.1) b6 mt27
  have et34 : u31.2 b6 = .inl (cy 2, 288, .inl (fun _ => zI 0)) := (hpu31 b6 (fun h => (fun h9 => da_b6 h9.symm) h)).trans et27
  have mt35 : b7 ∈ u31.1 := (fun x hx => by rw [hu31]; exact hx : ∀ x, x ∈ u24.1 → x ∈ u31.1) b7 mt28
  have et35 : u31.2 b7 = .inl (cy 0, 36, .inl (fun _ => zI 0)) := (hpu31 b7 (fun h => (fun h9 => da_b7 h9.symm) h)).trans et28
  have mt36 : b8 ∈ u31.1 := (fun x hx => by rw [hu31]; exact hx : ∀ x, x ∈ u24.1 → x ∈ u31.1) b8 mt29
  have et36 : u31.2 b8 = .inl (cy 0, 36, .inl (fun _ => zI 0)) := (hpu31 b8 (fun h => (fun h9 => da_b8 h9.symm) h)).trans et29
  have mt37 : b17 ∈ u31.1 := (fun x hx => by rw [hu31]; exact hx : ∀ x, x ∈ u24.1 → x ∈ u31.1) b17 mt30
  have et37 : u31.2 b17 = .inl (cy 4, 10, .inr (.inr (.inr (.inr (fun _ => none))))) := (hpu31 b17 (fun h => (fun h9 => da_b17 h9.symm) h)).trans et30
  have hLu31 : u31.1 = (((((u.1 ++ [o1]) ++ [b6]) ++ [b7]) ++ [b8]) ++ [b17]) := by rw [hu31, hLu24]
  have hMu31 : ∀ x, x ∈ u.1 → x ∈ u31.1 := fun x hx => by rw [hu31]; exact hMu24 x hx
  have hOu31 : ∀ x, x ∈ u.1 → x ≠ a → u31.2 x = u.2 x := fun x hx ne => (hpu31 x ne).trans (hOu24 x hx ne)
  refine lv_aload_n hx hb dX11_init_29 rfl (lv_at hl 0 rfl) ?_
  refine z_iconst hx hb dX11_init_30 ?_
  obtain ⟨k9, hk9⟩ := p_get D u31 mt32
  refine va_put (C := RX11) (T := TX11) (N := 14) (ci := 10) (ty := tyX11 3) hx hb hts (fun _ h => (List.mem_cons_of_mem _ (List.mem_append_left _ (List.mem_append_left _ (List.mem_append_left _ (List.mem_append_right _ h)))))) tyX11 tyX11_ok nmX11 hown hI.1 hG.1 hG.2 hS k9 (hk9.trans (by rw [hEu31])) rfl 3 (by decide) (hts (.fieldLink RX11 26 "StraitSwim" "chill" "I") (List.mem_cons_of_mem _ (List.mem_append_left _ (List.mem_append_left _ (List.mem_append_left _ (List.mem_append_left _ (List.mem_append_left _ (List.mem_append_left _ (List.mem_of_getElem? (i := 10) rfl))))))))) (fun _ h9 => h9) rfl (tyX11_ok 3 (by decide)) rfl rfl (Nat.le_of_ble_eq_true rfl) dX11_init_31 (fun H locs hP hD hS => ?_)
  obtain ⟨u38, hu38, hEu38, hpu38, hG⟩ := p_set (e := .inr (10, [.ref o1, .ref b17, .int (zI 0), .int (zI 5), .int (zI 0), .null, .null, .null, .int (zI 0), .null, .null, .null, .null, .null])) hG mt32 hk9 hP hD
  have mt39 : a ∈ u38.1 := (fun x hx => by rw [hu38]; exact hx : ∀ x, x ∈ u31.1 → x ∈ u38.1) a mt32
  have mt40 : o1 ∈ u38.1 := (fun x hx => by rw [hu38]; exact hx : ∀ x, x ∈ u31.1 → x ∈ u38.1) o1 mt33
  have et40 : u38.2 o1 = .inr (7, [.ref b6, .int (zI 0), .ref b7, .ref b8]) := (hpu38 o1 (fun h => (fun h9 => da_o1 h9.symm) h)).trans et33
  have mt41 : b6 ∈ u38.1 := (fun x hx => by rw [hu38]; exact hx : ∀ x, x ∈ u31.1 → x ∈ u38.1) b6 mt34
  have et41 : u38.2 b6 = .inl (cy 2, 288, .inl (fun _ => zI 0)) := (hpu38 b6 (fun h => (fun h9 => da_b6 h9.symm) h)).trans et34
  have mt42 : b7 ∈ u38.1 := (fun x hx => by rw [hu38]; exact hx : ∀ x, x ∈ u31.1 → x ∈ u38.1) b7 mt35
  have et42 : u38.2 b7 = .inl (cy 0, 36, .inl (fun _ => zI 0)) := (hpu38 b7 (fun h => (fun h9 => da_b7 h9.symm) h)).trans et35
  have mt43 : b8 ∈ u38.1 := (fun x hx => by rw [hu38]; exact hx : ∀ x, x ∈ u31.1 → x ∈ u38.1) b8 mt36
  have et43 : u38.2 b8 = .inl (cy 0, 36, .inl (fun _ => zI 0)) := (hpu38 b8 (fun h => (fun h9 => da_b8 h9.symm) h)).trans et36
  have mt44 : b17 ∈ u38.1 := (fun x hx => by rw [hu38]; exact hx : ∀ x, x ∈ u31.1 → x ∈ u38.1) b17 mt37
  have et44 : u38.2 b17 = .inl (cy 4, 10, .inr (.inr (.inr (.inr (fun _ => none))))) := (hpu38 b17 (fun h => (fun h9 => da_b17 h9.symm) h)).trans et37
  have hLu38 : u38.1 = (((((u.1 ++ [o1]) ++ [b6]) ++ [b7]) ++ [b8]) ++ [b17]) := by rw [hu38, hLu31]
  have hMu38 : ∀ x, x ∈ u.1 → x ∈ u38.1 := fun x hx => by rw [hu38]; exact hMu31 x hx
  have hOu38 : ∀ x, x ∈ u.1 → x ≠ a → u38.2 x = u.2 x := fun x hx ne => (hpu38 x ne).trans (hOu31 x hx ne)
  refine lv_aload_n hx hb dX11_init_34 rfl (lv_at hl 0 rfl) ?_
  refine z_bipush hx hb dX11_init_35 (by decide) ?_
  obtain ⟨k9, hk9⟩ := p_get D u38 mt39
  refine va_put (C := RX11) (T := TX11) (N := 14) (ci := 10) (ty := tyX11 4) hx hb hts (fun _ h => (List.mem_cons_of_mem _ (List.mem_append_left _ (List.mem_append_left _ (List.mem_append_left _ (List.mem_append_right _ h)))))) tyX11 tyX11_ok nmX11 hown hI.1 hG.1 hG.2 hS k9 (hk9.trans (by rw [hEu38])) rfl 4 (by decide) (hts (.fieldLink RX11 29 "StraitSwim" "nearness" "I") (List.mem_cons_of_mem _ (List.mem_append_left _ (List.mem_append_left _ (List.mem_append_left _ (List.mem_append_left _ (List.mem_append_left _ (List.mem_append_left _ (List.mem_of_getElem? (i := 11) rfl))))))))) (fun _ h9 => h9) rfl (tyX11_ok 4 (by decide)) rfl rfl (Nat.le_of_ble_eq_true rfl) dX11_init_37 (fun H locs hP hD hS => ?_)
  obtain ⟨u45, hu45, hEu45, hpu45, hG⟩ := p_set (e := .inr (10, [.ref o1, .ref b17, .int (zI 0), .int (zI 5), .int (zI 20), .null, .null, .null, .int (zI 0), .null, .null, .null, .null, .null])) hG mt39 hk9 hP hD
  have mt46 : a ∈ u45.1 := (fun x hx => by rw [hu45]; exact hx : ∀ x, x ∈ u38.1 → x ∈ u45.1) a mt39
  have mt47 : o1 ∈ u45.1 := (fun x hx => by rw [hu45]; exact hx : ∀ x, x ∈ u38.1 → x ∈ u45.1) o1 mt40
  have et47 : u45.2 o1 = .inr (7, [.ref b6, .int (zI 0), .ref b7, .ref b8]) := (hpu45 o1 (fun h => (fun h9 => da_o1 h9.symm) h)).trans et40
  have mt48 : b6 ∈ u45.1 := (fun x hx => by rw [hu45]; exact hx : ∀ x, x ∈ u38.1 → x ∈ u45.1) b6 mt41
  have et48 : u45.2 b6 = .inl (cy 2, 288, .inl (fun _ => zI 0)) := (hpu45 b6 (fun h => (fun h9 => da_b6 h9.symm) h)).trans et41
  have mt49 : b7 ∈ u45.1 := (fun x hx => by rw [hu45]; exact hx : ∀ x, x ∈ u38.1 → x ∈ u45.1) b7 mt42
  have et49 : u45.2 b7 = .inl (cy 0, 36, .inl (fun _ => zI 0)) := (hpu45 b7 (fun h => (fun h9 => da_b7 h9.symm) h)).trans et42
  have mt50 : b8 ∈ u45.1 := (fun x hx => by rw [hu45]; exact hx : ∀ x, x ∈ u38.1 → x ∈ u45.1) b8 mt43
  have et50 : u45.2 b8 = .inl (cy 0, 36, .inl (fun _ => zI 0)) := (hpu45 b8 (fun h => (fun h9 => da_b8 h9.symm) h)).trans et43
  have mt51 : b17 ∈ u45.1 := (fun x hx => by rw [hu45]; exact hx : ∀ x, x ∈ u38.1 → x ∈ u45.1) b17 mt44
  have et51 : u45.2 b17 = .inl (cy 4, 10, .inr (.inr (.inr (.inr (fun _ => none))))) := (hpu45 b17 (fun h => (fun h9 => da_b17 h9.symm) h)).trans et44
  have hLu45 : u45.1 = (((((u.1 ++ [o1]) ++ [b6]) ++ [b7]) ++ [b8]) ++ [b17]) := by rw [hu45, hLu38]
  have hMu45 : ∀ x, x ∈ u.1 → x ∈ u45.1 := fun x hx => by rw [hu45]; exact hMu38 x hx
  have hOu45 : ∀ x, x ∈ u.1 → x ≠ a → u45.2 x = u.2 x := fun x hx ne => (hpu45 x ne).trans (hOu38 x hx ne)
  refine lv_aload_n hx hb dX11_init_40 rfl (lv_at hl 0 rfl) ?_
  refine va_new (ci := 8) (fs := [.int (zI 0), .int (zI 0), .int (zI 0), .null, .null, .null, .null, .int (zI 0), .int (zI 0)]) (C := RX9) (T := TX9) (N := 9) hx hb hts (fun _ h => (List.mem_cons_of_mem _ (List.mem_append_left _ (List.mem_append_left _ (List.mem_append_right _ h))))) tyX9 tyX9_ok hown (hts (.classLink RX11 32 RX9) (List.mem_cons_of_mem _ (List.mem_append_left _ (List.mem_append_left _ (List.mem_append_left _ (List.mem_append_left _ (List.mem_append_left _ (List.mem_append_left _ (List.mem_of_getElem? (i := 12) rfl))))))))) (hts (.instantiable RX9 9) (List.mem_cons_of_mem _ (List.mem_append_left _ (List.mem_append_left _ (List.mem_append_left _ (List.mem_append_left _ (List.mem_append_left _ (List.mem_append_left _ (List.mem_of_getElem? (i := 13) rfl))))))))) (hts (.initialized RX9) (List.mem_cons_of_mem _ (List.mem_append_left _ (List.mem_append_left _ (List.mem_append_left _ (List.mem_append_left _ (List.mem_append_left _ (List.mem_append_left _ (List.mem_of_getElem? (i := 14) rfl))))))))) hI.1 hG.1 hG.2 hS hI.2.1 rfl (fun j hj => by rcases (show j = 0 ∨ j = 1 ∨ j = 2 ∨ j = 3 ∨ j = 4 ∨ j = 5 ∨ j = 6 ∨ j = 7 ∨ j = 8 by omega) with rfl | rfl | rfl | rfl | rfl | rfl | rfl | rfl | rfl <;> rfl) (Nat.le_of_ble_eq_true rfl) (Nat.le_of_ble_eq_true rfl) dX11_init_41 (fun o52 H hP hD hS => ?_)
  obtain ⟨u53, hu53, hEo52, hpu53, hno52, hG⟩ := p_push hP hD
  have fo52 : o52 ∉ (((((u.1 ++ [o1]) ++ [b6]) ++ [b7]) ++ [b8]) ++ [b17]) := by rw [← hLu45]; exact hno52
  have hLu53 : u53.1 = ((((((u.1 ++ [o1]) ++ [b6]) ++ [b7]) ++ [b8]) ++ [b17]) ++ [o52]) := by rw [hu53, hLu45]
  have hMu53 : ∀ x, x ∈ u.1 → x ∈ u53.1 := fun x hx => by rw [hu53]; exact List.mem_append_left _ (hMu45 x hx)
  have hOu53 : ∀ x, x ∈ u.1 → x ≠ a → u53.2 x = u.2 x := fun x hx ne => (hpu53 x (hMu45 x hx)).trans (hOu45 x hx ne)
  have da_o52 : a ≠ o52 := fun h => hno52 (h ▸ mt46)
  have do1_o52 : o1 ≠ o52 := fun h => hno52 (h ▸ mt47)
  have db6_o52 : b6 ≠ o52 := fun h => hno52 (h ▸ mt48)
  have db7_o52 : b7 ≠ o52 := fun h => hno52 (h ▸ mt49)
  have db8_o52 : b8 ≠ o52 := fun h => hno52 (h ▸ mt50)
  have db17_o52 : b17 ≠ o52 := fun h => hno52 (h ▸ mt51)
  have mt54 : a ∈ u53.1 := (fun x hx => by rw [hu53]; exact List.mem_append_left _ hx : ∀ x, x ∈ u45.1 → x ∈ u53.1) a mt46
  have et54 : u53.2 a = .inr (10, [.ref o1, .ref b17, .int (zI 0), .int (zI 5), .int (zI 20), .null, .null, .null, .int (zI 0), .null, .null, .null, .null, .null]) := (hpu53 a mt46).trans hEu45
  have mt55 : o1 ∈ u53.1 := (fun x hx => by rw [hu53]; exact List.mem_append_left _ hx : ∀ x, x ∈ u45.1 → x ∈ u53.1) o1 mt47
  have et55 : u53.2 o1 = .inr (7, [.ref b6, .int (zI 0), .ref b7, .ref b8]) := (hpu53 o1 mt47).trans et47
  have mt56 : b6 ∈ u53.1 := (fun x hx => by rw [hu53]; exact List.mem_append_left _ hx : ∀ x, x ∈ u45.1 → x ∈ u53.1) b6 mt48
  have et56 : u53.2 b6 = .inl (cy 2, 288, .inl (fun _ => zI 0)) := (hpu53 b6 mt48).trans et48
  have mt57 : b7 ∈ u53.1 := (fun x hx => by rw [hu53]; exact List.mem_append_left _ hx : ∀ x, x ∈ u45.1 → x ∈ u53.1) b7 mt49
  have et57 : u53.2 b7 = .inl (cy 0, 36, .inl (fun _ => zI 0)) := (hpu53 b7 mt49).trans et49
  have mt58 : b8 ∈ u53.1 := (fun x hx => by rw [hu53]; exact List.mem_append_left _ hx : ∀ x, x ∈ u45.1 → x ∈ u53.1) b8 mt50
  have et58 : u53.2 b8 = .inl (cy 0, 36, .inl (fun _ => zI 0)) := (hpu53 b8 mt50).trans et50
  have mt59 : b17 ∈ u53.1 := (fun x hx => by rw [hu53]; exact List.mem_append_left _ hx : ∀ x, x ∈ u45.1 → x ∈ u53.1) b17 mt51
  have et59 : u53.2 b17 = .inl (cy 4, 10, .inr (.inr (.inr (.inr (fun _ => none))))) := (hpu53 b17 mt51).trans et51
  have mo52 : o52 ∈ u53.1 := by rw [hu53]; exact List.mem_append_right _ List.mem_cons_self
  refine lv_dup hx hb dX11_init_44 rfl ?_
  refine p_callv (va_runIN (As := []) (rest := [.ref o52, .ref a]) ⟨hx, hb, hml, hown, hts⟩ (kX9_init l D cy A u53 o52  mo52 hEo52) ⟨va_cnB 0 hts gX11_init_X9_init_n34 rfl rfl rfl hI.2.2.2.2.1 (hts (.initialized RX9) (List.mem_cons_of_mem _ (List.mem_append_left _ (List.mem_append_left _ (List.mem_append_left _ (List.mem_append_left _ (List.mem_append_left _ (List.mem_append_left _ (List.mem_of_getElem? (i := 14) rfl))))))))) (by decide +kernel) ⟨by decide, by decide⟩, rfl, (hts (.instanceMethod yX9_init) (List.mem_cons_of_mem _ (List.mem_append_left _ (List.mem_append_left _ (List.mem_append_left _ (List.mem_append_left _ (List.mem_append_left _ (List.mem_append_right _ (List.mem_append_left _ (List.mem_of_getElem? (i := 17) rfl))))))))))⟩ (p_preS hG hI hS) rfl rfl hl.1 rfl (lv_room (Nat.le_of_ble_eq_true rfl)) dX11_init_45 ⟨Nat.le_of_ble_eq_true rfl, Nat.le_of_ble_eq_true rfl⟩) hS (fun u60 H locs p_61 hG hS => ?_)
  obtain ⟨b62, b63, b64, b65, hu60, ⟨hnb62, hnb63, hnb64, hnb65⟩, ⟨hEou60, hEb62, hEb63, hEb64, hEb65⟩, hpu60⟩ := p_61
  have da_b62 : a ≠ b62 := fun h => hnb62 (h ▸ mt54)
  have do1_b62 : o1 ≠ b62 := fun h => hnb62 (h ▸ mt55)
  have db6_b62 : b6 ≠ b62 := fun h => hnb62 (h ▸ mt56)
  have db7_b62 : b7 ≠ b62 := fun h => hnb62 (h ▸ mt57)
  have db8_b62 : b8 ≠ b62 := fun h => hnb62 (h ▸ mt58)
  have db17_b62 : b17 ≠ b62 := fun h => hnb62 (h ▸ mt59)
  have do52_b62 : o52 ≠ b62 := fun h => hnb62 (h ▸ mo52)
  have da_b63 : a ≠ b63 := fun h => hnb63 (h ▸ (List.mem_append_left _ mt54))
  have do1_b63 : o1 ≠ b63 := fun h => hnb63 (h ▸ (List.mem_append_left _ mt55))
  have db6_b63 : b6 ≠ b63 := fun h => hnb63 (h ▸ (List.mem_append_left _ mt56))
  have db7_b63 : b7 ≠ b63 := fun h => hnb63 (h ▸ (List.mem_append_left _ mt57))
  have db8_b63 : b8 ≠ b63 := fun h => hnb63 (h ▸ (List.mem_append_left _ mt58))
  have db17_b63 : b17 ≠ b63 := fun h => hnb63 (h ▸ (List.mem_append_left _ mt59))
  have do52_b63 : o52 ≠ b63 := fun h => hnb63 (h ▸ (List.mem_append_left _ mo52))
  have db62_b63 : b62 ≠ b63 := fun h => hnb63 (h ▸ (List.mem_append_right _ List.mem_cons_self))
  have da_b64 : a ≠ b64 := fun h => hnb64 (h ▸ (List.mem_append_left _ (List.mem_append_left _ mt54)))
  have do1_b64 : o1 ≠ b64 := fun h => hnb64 (h ▸ (List.mem_append_left _ (List.mem_append_left _ mt55)))
  have db6_b64 : b6 ≠ b64 := fun h => hnb64 (h ▸ (List.mem_append_left _ (List.mem_append_left _ mt56)))
  have db7_b64 : b7 ≠ b64 := fun h => hnb64 (h ▸ (List.mem_append_left _ (List.mem_append_left _ mt57)))
  have db8_b64 : b8 ≠ b64 := fun h => hnb64 (h ▸ (List.mem_append_left _ (List.mem_append_left _ mt58)))
  have db17_b64 : b17 ≠ b64 := fun h => hnb64 (h ▸ (List.mem_append_left _ (List.mem_append_left _ mt59)))
  have do52_b64 : o52 ≠ b64 := fun h => hnb64 (h ▸ (List.mem_append_left _ (List.mem_append_left _ mo52)))
  have db62_b64 : b62 ≠ b64 := fun h => hnb64 (h ▸ (List.mem_append_left _ (List.mem_append_right _ List.mem_cons_self)))
  have db63_b64 : b63 ≠ b64 := fun h => hnb64 (h ▸ (List.mem_append_right _ List.mem_cons_self))
  have da_b65 : a ≠ b65 := fun h => hnb65 (h ▸ (List.mem_append_left _ (List.mem_append_left _ (List.mem_append_left _ mt54))))
  have do1_b65 : o1 ≠ b65 := fun h => hnb65 (h ▸ (List.mem_append_left _ (List.mem_append_left _ (List.mem_append_left _ mt55))))
  have db6_b65 : b6 ≠ b65 := fun h => hnb65 (h ▸ (List.mem_append_left _ (List.mem_append_left _ (List.mem_append_left _ mt56))))
  have db7_b65 : b7 ≠ b65 := fun h => hnb65 (h ▸ (List.mem_append_left _ (List.mem_append_left _ (List.mem_append_left _ mt57))))
  have db8_b65 : b8 ≠ b65 := fun h => hnb65 (h ▸ (List.mem_append_left _ (List.mem_append_left _ (List.mem_append_left _ mt58))))
  have db17_b65 : b17 ≠ b65 := fun h => hnb65 (h ▸ (List.mem_append_left _ (List.mem_append_left _ (List.mem_append_left _ mt59))))
  have do52_b65 : o52 ≠ b65 := fun h => hnb65 (h ▸ (List.mem_append_left _ (List.mem_append_left _ (List.mem_append_left _ mo52))))
  have db62_b65 : b62 ≠ b65 := fun h => hnb65 (h ▸ (List.mem_append_left _ (List.mem_append_left _ (List.mem_append_right _ List.mem_cons_self))))
  have db63_b65 : b63 ≠ b65 := fun h => hnb65 (h ▸ (List.mem_append_left _ (List.mem_append_right _ List.mem_cons_self)))
  have db64_b65 : b64 ≠ b65 := fun h => hnb65 (h ▸ (List.mem_append_right _ List.mem_cons_self))
  have fb62 : b62 ∉ ((((((u.1 ++ [o1]) ++ [b6]) ++ [b7]) ++ [b8]) ++ [b17]) ++ [o52]) := by rw [← hLu53]; exact hnb62
  have fb63 : b63 ∉ (((((((u.1 ++ [o1]) ++ [b6]) ++ [b7]) ++ [b8]) ++ [b17]) ++ [o52]) ++ [b62]) := by rw [← hLu53]; exact hnb63
  have fb64 : b64 ∉ ((((((((u.1 ++ [o1]) ++ [b6]) ++ [b7]) ++ [b8]) ++ [b17]) ++ [o52]) ++ [b62]) ++ [b63]) := by rw [← hLu53]; exact hnb64
  have fb65 : b65 ∉ (((((((((u.1 ++ [o1]) ++ [b6]) ++ [b7]) ++ [b8]) ++ [b17]) ++ [o52]) ++ [b62]) ++ [b63]) ++ [b64]) := by rw [← hLu53]; exact hnb65
  have hLu60 : u60.1 = ((((((((((u.1 ++ [o1]) ++ [b6]) ++ [b7]) ++ [b8]) ++ [b17]) ++ [o52]) ++ [b62]) ++ [b63]) ++ [b64]) ++ [b65]) := by rw [hu60, hLu53]
  have hMu60 : ∀ x, x ∈ u.1 → x ∈ u60.1 := fun x hx => by rw [hu60]; exact (List.mem_append_left _ (List.mem_append_left _ (List.mem_append_left _ (List.mem_append_left _ (hMu53 x hx)))))
  have hOu60 : ∀ x, x ∈ u.1 → x ≠ a → u60.2 x = u.2 x := fun x hx ne => (hpu60 x (hMu53 x hx) (fun h => fo52 (h ▸ (List.mem_append_left _ (List.mem_append_left _ (List.mem_append_left _ (List.mem_append_left _ (List.mem_append_left _ hx)))))))).trans (hOu53 x hx ne)
  have mt66 : a ∈ u60.1 := (fun x hx => by rw [hu60]; exact (List.mem_append_left _ (List.mem_append_left _ (List.mem_append_left _ (List.mem_append_left _ hx)))) : ∀ x, x ∈ u53.1 → x ∈ u60.1) a mt54
  have et66 : u60.2 a = .inr (10, [.ref o1, .ref b17, .int (zI 0), .int (zI 5), .int (zI 20), .null, .null, .null, .int (zI 0), .null, .null, .null, .null, .null]) := (hpu60 a mt54 da_o52).trans et54
  have mt67 : o1 ∈ u60.1 := (fun x hx => by rw [hu60]; exact (List.mem_append_left _ (List.mem_append_left _ (List.mem_append_left _ (List.mem_append_left _ hx)))) : ∀ x, x ∈ u53.1 → x ∈ u60.1) o1 mt55
  have et67 : u60.2 o1 = .inr (7, [.ref b6, .int (zI 0), .ref b7, .ref b8]) := (hpu60 o1 mt55 do1_o52).trans et55
  have mt68 : b6 ∈ u60.1 := (fun x hx => by rw [hu60]; exact (List.mem_append_left _ (List.mem_append_left _ (List.mem_append_left _ (List.mem_append_left _ hx)))) : ∀ x, x ∈ u53.1 → x ∈ u60.1) b6 mt56
  have et68 : u60.2 b6 = .inl (cy 2, 288, .inl (fun _ => zI 0)) := (hpu60 b6 mt56 db6_o52).trans et56
  have mt69 : b7 ∈ u60.1 := (fun x hx => by rw [hu60]; exact (List.mem_append_left _ (List.mem_append_left _ (List.mem_append_left _ (List.mem_append_left _ hx)))) : ∀ x, x ∈ u53.1 → x ∈ u60.1) b7 mt57
  have et69 : u60.2 b7 = .inl (cy 0, 36, .inl (fun _ => zI 0)) := (hpu60 b7 mt57 db7_o52).trans et57
  have mt70 : b8 ∈ u60.1 := (fun x hx => by rw [hu60]; exact (List.mem_append_left _ (List.mem_append_left _ (List.mem_append_left _ (List.mem_append_left _ hx)))) : ∀ x, x ∈ u53.1 → x ∈ u60.1) b8 mt58
  have et70 : u60.2 b8 = .inl (cy 0, 36, .inl (fun _ => zI 0)) := (hpu60 b8 mt58 db8_o52).trans et58
  have mt71 : b17 ∈ u60.1 := (fun x hx => by rw [hu60]; exact (List.mem_append_left _ (List.mem_append_left _ (List.mem_append_left _ (List.mem_append_left _ hx)))) : ∀ x, x ∈ u53.1 → x ∈ u60.1) b17 mt59
  have et71 : u60.2 b17 = .inl (cy 4, 10, .inr (.inr (.inr (.inr (fun _ => none))))) := (hpu60 b17 mt59 db17_o52).trans et59
  have mt72 : o52 ∈ u60.1 := (fun x hx => by rw [hu60]; exact (List.mem_append_left _ (List.mem_append_left _ (List.mem_append_left _ (List.mem_append_left _ hx)))) : ∀ x, x ∈ u53.1 → x ∈ u60.1) o52 mo52
  have mb62 : b62 ∈ u60.1 := by rw [hu60]; exact (List.mem_append_left _ (List.mem_append_left _ (List.mem_append_left _ (List.mem_append_right _ List.mem_cons_self))))
  have mb63 : b63 ∈ u60.1 := by rw [hu60]; exact (List.mem_append_left _ (List.mem_append_left _ (List.mem_append_right _ List.mem_cons_self)))
  have mb64 : b64 ∈ u60.1 := by rw [hu60]; exact (List.mem_append_left _ (List.mem_append_right _ List.mem_cons_self))
  have mb65 : b65 ∈ u60.1 := by rw [hu60]; exact (List.mem_append_right _ List.mem_cons_self)
  obtain ⟨k9, hk9⟩ := p_get D u60 mt66
  refine va_putF (C := RX11) (T := TX11) (N := 14) (ci := 10) (ty := tyX11 5) hx hb hts (fun _ h => (List.mem_cons_of_mem _ (List.mem_append_left _ (List.mem_append_left _ (List.mem_append_left _ (List.mem_append_right _ h)))))) tyX11 tyX11_ok nmX11 hown hI.1 hG.1 hG.2 hS k9 (hk9.trans (by rw [et66])) rfl 5 (by decide) (hts (.fieldLink RX11 35 "StraitSwim" "latest" "LStraitSwim$Swim;") (List.mem_cons_of_mem _ (List.mem_append_left _ (List.mem_append_left _ (List.mem_append_left _ (List.mem_append_left _ (List.mem_append_left _ (List.mem_append_left _ (List.mem_of_getElem? (i := 15) rfl))))))))) (fun _ h9 => h9) rfl hin2 rfl (tyX11_ok 5 (by decide)) rfl rfl (Nat.le_of_ble_eq_true rfl) dX11_init_48 (fun H locs hP hD hS => ?_)
  obtain ⟨u73, hu73, hEu73, hpu73, hG⟩ := p_set (e := .inr (10, [.ref o1, .ref b17, .int (zI 0), .int (zI 5), .int (zI 20), .ref o52, .null, .null, .int (zI 0), .null, .null, .null, .null, .null])) hG mt66 hk9 hP hD
  have mt74 : a ∈ u73.1 := (fun x hx => by rw [hu73]; exact hx : ∀ x, x ∈ u60.1 → x ∈ u73.1) a mt66
  have mt75 : o1 ∈ u73.1 := (fun x hx => by rw [hu73]; exact hx : ∀ x, x ∈ u60.1 → x ∈ u73.1) o1 mt67
  have et75 : u73.2 o1 = .inr (7, [.ref b6, .int (zI 0), .ref b7, .ref b8]) := (hpu73 o1 (fun h => (fun h9 => da_o1 h9.symm) h)).trans et67
  have mt76 : b6 ∈ u73.1 := (fun x hx => by rw [hu73]; exact hx : ∀ x, x ∈ u60.1 → x ∈ u73.1) b6 mt68
  have et76 : u73.2 b6 = .inl (cy 2, 288, .inl (fun _ => zI 0)) := (hpu73 b6 (fun h => (fun h9 => da_b6 h9.symm) h)).trans et68
  have mt77 : b7 ∈ u73.1 := (fun x hx => by rw [hu73]; exact hx : ∀ x, x ∈ u60.1 → x ∈ u73.1) b7 mt69
  have et77 : u73.2 b7 = .inl (cy 0, 36, .inl (fun _ => zI 0)) := (hpu73 b7 (fun h => (fun h9 => da_b7 h9.symm) h)).trans et69
  have mt78 : b8 ∈ u73.1 := (fun x hx => by rw [hu73]; exact hx : ∀ x, x ∈ u60.1 → x ∈ u73.1) b8 mt70
  have et78 : u73.2 b8 = .inl (cy 0, 36, .inl (fun _ => zI 0)) := (hpu73 b8 (fun h => (fun h9 => da_b8 h9.symm) h)).trans et70
  have mt79 : b17 ∈ u73.1 := (fun x hx => by rw [hu73]; exact hx : ∀ x, x ∈ u60.1 → x ∈ u73.1) b17 mt71
  have et79 : u73.2 b17 = .inl (cy 4, 10, .inr (.inr (.inr (.inr (fun _ => none))))) := (hpu73 b17 (fun h => (fun h9 => da_b17 h9.symm) h)).trans et71
  have mt80 : o52 ∈ u73.1 := (fun x hx => by rw [hu73]; exact hx : ∀ x, x ∈ u60.1 → x ∈ u73.1) o52 mt72
  have et80 : u73.2 o52 = .inr (8, [.int (zI 0), .int (zI 0), .int (zI 0), .ref b62, .ref b63, .ref b64, .ref b65, .int (zI 0), .int (zI 0)]) := (hpu73 o52 (fun h => (fun h9 => da_o52 h9.symm) h)).trans hEou60
  have mt81 : b62 ∈ u73.1 := (fun x hx => by rw [hu73]; exact hx : ∀ x, x ∈ u60.1 → x ∈ u73.1) b62 mb62
  have et81 : u73.2 b62 = .inl (cy 0, 101, .inl (fun _ => zI 0)) := (hpu73 b62 (fun h => (fun h9 => da_b62 h9.symm) h)).trans hEb62
  have mt82 : b63 ∈ u73.1 := (fun x hx => by rw [hu73]; exact hx : ∀ x, x ∈ u60.1 → x ∈ u73.1) b63 mb63
  have et82 : u73.2 b63 = .inl (cy 0, 101, .inl (fun _ => zI 0)) := (hpu73 b63 (fun h => (fun h9 => da_b63 h9.symm) h)).trans hEb63
  have mt83 : b64 ∈ u73.1 := (fun x hx => by rw [hu73]; exact hx : ∀ x, x ∈ u60.1 → x ∈ u73.1) b64 mb64
  have et83 : u73.2 b64 = .inl (cy 0, 100, .inl (fun _ => zI 0)) := (hpu73 b64 (fun h => (fun h9 => da_b64 h9.symm) h)).trans hEb64
  have mt84 : b65 ∈ u73.1 := (fun x hx => by rw [hu73]; exact hx : ∀ x, x ∈ u60.1 → x ∈ u73.1) b65 mb65
  have et84 : u73.2 b65 = .inl (cy 0, 101, .inl (fun _ => zI 0)) := (hpu73 b65 (fun h => (fun h9 => da_b65 h9.symm) h)).trans hEb65
  have hLu73 : u73.1 = ((((((((((u.1 ++ [o1]) ++ [b6]) ++ [b7]) ++ [b8]) ++ [b17]) ++ [o52]) ++ [b62]) ++ [b63]) ++ [b64]) ++ [b65]) := by rw [hu73, hLu60]
  have hMu73 : ∀ x, x ∈ u.1 → x ∈ u73.1 := fun x hx => by rw [hu73]; exact hMu60 x hx
  have hOu73 : ∀ x, x ∈ u.1 → x ≠ a → u73.2 x = u.2 x := fun x hx ne => (hpu73 x ne).trans (hOu60 x hx ne)
  refine lv_aload_n hx hb dX11_init_51 rfl (lv_at hl 0 rfl) ?_
  refine va_new (ci := 8) (fs := [.int (zI 0), .int (zI 0), .int (zI 0), .null, .null, .null, .null, .int (zI 0), .int (zI 0)]) (C := RX9) (T := TX9) (N := 9) hx hb hts (fun _ h => (List.mem_cons_of_mem _ (List.mem_append_left _ (List.mem_append_left _ (List.mem_append_right _ h))))) tyX9 tyX9_ok hown (hts (.classLink RX11 32 RX9) (List.mem_cons_of_mem _ (List.mem_append_left _ (List.mem_append_left _ (List.mem_append_left _ (List.mem_append_left _ (List.mem_append_left _ (List.mem_append_left _ (List.mem_of_getElem? (i := 12) rfl))))))))) (hts (.instantiable RX9 9) (List.mem_cons_of_mem _ (List.mem_append_left _ (List.mem_append_left _ (List.mem_append_left _ (List.mem_append_left _ (List.mem_append_left _ (List.mem_append_left _ (List.mem_of_getElem? (i := 13) rfl))))))))) (hts (.initialized RX9) (List.mem_cons_of_mem _ (List.mem_append_left _ (List.mem_append_left _ (List.mem_append_left _ (List.mem_append_left _ (List.mem_append_left _ (List.mem_append_left _ (List.mem_of_getElem? (i := 14) rfl))))))))) hI.1 hG.1 hG.2 hS hI.2.1 rfl (fun j hj => by rcases (show j = 0 ∨ j = 1 ∨ j = 2 ∨ j = 3 ∨ j = 4 ∨ j = 5 ∨ j = 6 ∨ j = 7 ∨ j = 8 by omega) with rfl | rfl | rfl | rfl | rfl | rfl | rfl | rfl | rfl <;> rfl) (Nat.le_of_ble_eq_true rfl) (Nat.le_of_ble_eq_true rfl) dX11_init_52 (fun o85 H hP hD hS => ?_)
  obtain ⟨u86, hu86, hEo85, hpu86, hno85, hG⟩ := p_push hP hD
  have fo85 : o85 ∉ ((((((((((u.1 ++ [o1]) ++ [b6]) ++ [b7]) ++ [b8]) ++ [b17]) ++ [o52]) ++ [b62]) ++ [b63]) ++ [b64]) ++ [b65]) := by rw [← hLu73]; exact hno85
  have hLu86 : u86.1 = (((((((((((u.1 ++ [o1]) ++ [b6]) ++ [b7]) ++ [b8]) ++ [b17]) ++ [o52]) ++ [b62]) ++ [b63]) ++ [b64]) ++ [b65]) ++ [o85]) := by rw [hu86, hLu73]
  have hMu86 : ∀ x, x ∈ u.1 → x ∈ u86.1 := fun x hx => by rw [hu86]; exact List.mem_append_left _ (hMu73 x hx)
  have hOu86 : ∀ x, x ∈ u.1 → x ≠ a → u86.2 x = u.2 x := fun x hx ne => (hpu86 x (hMu73 x hx)).trans (hOu73 x hx ne)
  have da_o85 : a ≠ o85 := fun h => hno85 (h ▸ mt74)
  have do1_o85 : o1 ≠ o85 := fun h => hno85 (h ▸ mt75)
  have db6_o85 : b6 ≠ o85 := fun h => hno85 (h ▸ mt76)
  have db7_o85 : b7 ≠ o85 := fun h => hno85 (h ▸ mt77)
  have db8_o85 : b8 ≠ o85 := fun h => hno85 (h ▸ mt78)
  have db17_o85 : b17 ≠ o85 := fun h => hno85 (h ▸ mt79)
  have do52_o85 : o52 ≠ o85 := fun h => hno85 (h ▸ mt80)
  have db62_o85 : b62 ≠ o85 := fun h => hno85 (h ▸ mt81)
  have db63_o85 : b63 ≠ o85 := fun h => hno85 (h ▸ mt82)
  have db64_o85 : b64 ≠ o85 := fun h => hno85 (h ▸ mt83)
  have db65_o85 : b65 ≠ o85 := fun h => hno85 (h ▸ mt84)
  have mt87 : a ∈ u86.1 := (fun x hx => by rw [hu86]; exact List.mem_append_left _ hx : ∀ x, x ∈ u73.1 → x ∈ u86.1) a mt74
  have et87 : u86.2 a = .inr (10, [.ref o1, .ref b17, .int (zI 0), .int (zI 5), .int (zI 20), .ref o52, .null, .null, .int (zI 0), .null, .null, .null, .null, .null]) := (hpu86 a mt74).trans hEu73
  have mt88 : o1 ∈ u86.1 := (fun x hx => by rw [hu86]; exact List.mem_append_left _ hx : ∀ x, x ∈ u73.1 → x ∈ u86.1) o1 mt75
  have et88 : u86.2 o1 = .inr (7, [.ref b6, .int (zI 0), .ref b7, .ref b8]) := (hpu86 o1 mt75).trans et75
  have mt89 : b6 ∈ u86.1 := (fun x hx => by rw [hu86]; exact List.mem_append_left _ hx : ∀ x, x ∈ u73.1 → x ∈ u86.1) b6 mt76
  have et89 : u86.2 b6 = .inl (cy 2, 288, .inl (fun _ => zI 0)) := (hpu86 b6 mt76).trans et76
  have mt90 : b7 ∈ u86.1 := (fun x hx => by rw [hu86]; exact List.mem_append_left _ hx : ∀ x, x ∈ u73.1 → x ∈ u86.1) b7 mt77
  have et90 : u86.2 b7 = .inl (cy 0, 36, .inl (fun _ => zI 0)) := (hpu86 b7 mt77).trans et77
  have mt91 : b8 ∈ u86.1 := (fun x hx => by rw [hu86]; exact List.mem_append_left _ hx : ∀ x, x ∈ u73.1 → x ∈ u86.1) b8 mt78
  have et91 : u86.2 b8 = .inl (cy 0, 36, .inl (fun _ => zI 0)) := (hpu86 b8 mt78).trans et78
  have mt92 : b17 ∈ u86.1 := (fun x hx => by rw [hu86]; exact List.mem_append_left _ hx : ∀ x, x ∈ u73.1 → x ∈ u86.1) b17 mt79
  have et92 : u86.2 b17 = .inl (cy 4, 10, .inr (.inr (.inr (.inr (fun _ => none))))) := (hpu86 b17 mt79).trans et79
  have mt93 : o52 ∈ u86.1 := (fun x hx => by rw [hu86]; exact List.mem_append_left _ hx : ∀ x, x ∈ u73.1 → x ∈ u86.1) o52 mt80
  have et93 : u86.2 o52 = .inr (8, [.int (zI 0), .int (zI 0), .int (zI 0), .ref b62, .ref b63, .ref b64, .ref b65, .int (zI 0), .int (zI 0)]) := (hpu86 o52 mt80).trans et80
  have mt94 : b62 ∈ u86.1 := (fun x hx => by rw [hu86]; exact List.mem_append_left _ hx : ∀ x, x ∈ u73.1 → x ∈ u86.1) b62 mt81
  have et94 : u86.2 b62 = .inl (cy 0, 101, .inl (fun _ => zI 0)) := (hpu86 b62 mt81).trans et81
  have mt95 : b63 ∈ u86.1 := (fun x hx => by rw [hu86]; exact List.mem_append_left _ hx : ∀ x, x ∈ u73.1 → x ∈ u86.1) b63 mt82
  have et95 : u86.2 b63 = .inl (cy 0, 101, .inl (fun _ => zI 0)) := (hpu86 b63 mt82).trans et82
  have mt96 : b64 ∈ u86.1 := (fun x hx => by rw [hu86]; exact List.mem_append_left _ hx : ∀ x, x ∈ u73.1 → x ∈ u86.1) b64 mt83
  have et96 : u86.2 b64 = .inl (cy 0, 100, .inl (fun _ => zI 0)) := (hpu86 b64 mt83).trans et83
  have mt97 : b65 ∈ u86.1 := (fun x hx => by rw [hu86]; exact List.mem_append_left _ hx : ∀ x, x ∈ u73.1 → x ∈ u86.1) b65 mt84
  have et97 : u86.2 b65 = .inl (cy 0, 101, .inl (fun _ => zI 0)) := (hpu86 b65 mt84).trans et84
  have mo85 : o85 ∈ u86.1 := by rw [hu86]; exact List.mem_append_right _ List.mem_cons_self
  refine lv_dup hx hb dX11_init_55 rfl ?_
  refine p_callv (va_runIN (As := []) (rest := [.ref o85, .ref a]) ⟨hx, hb, hml, hown, hts⟩ (kX9_init l D cy A u86 o85  mo85 hEo85) ⟨va_cnB 0 hts gX11_init_X9_init_n34 rfl rfl rfl hI.2.2.2.2.1 (hts (.initialized RX9) (List.mem_cons_of_mem _ (List.mem_append_left _ (List.mem_append_left _ (List.mem_append_left _ (List.mem_append_left _ (List.mem_append_left _ (List.mem_append_left _ (List.mem_of_getElem? (i := 14) rfl))))))))) (by decide +kernel) ⟨by decide, by decide⟩, rfl, (hts (.instanceMethod yX9_init) (List.mem_cons_of_mem _ (List.mem_append_left _ (List.mem_append_left _ (List.mem_append_left _ (List.mem_append_left _ (List.mem_append_left _ (List.mem_append_right _ (List.mem_append_left _ (List.mem_of_getElem? (i := 17) rfl))))))))))⟩ (p_preS hG hI hS) rfl rfl hl.1 rfl (lv_room (Nat.le_of_ble_eq_true rfl)) dX11_init_56 ⟨Nat.le_of_ble_eq_true rfl, Nat.le_of_ble_eq_true rfl⟩) hS (fun u98 H locs p_99 hG hS => ?_)
  obtain ⟨b100, b101, b102, b103, hu98, ⟨hnb100, hnb101, hnb102, hnb103⟩, ⟨hEou98, hEb100, hEb101, hEb102, hEb103⟩, hpu98⟩ := p_99
  have da_b100 : a ≠ b100 := fun h => hnb100 (h ▸ mt87)
  have do1_b100 : o1 ≠ b100 := fun h => hnb100 (h ▸ mt88)
  have db6_b100 : b6 ≠ b100 := fun h => hnb100 (h ▸ mt89)
  have db7_b100 : b7 ≠ b100 := fun h => hnb100 (h ▸ mt90)
  have db8_b100 : b8 ≠ b100 := fun h => hnb100 (h ▸ mt91)
  have db17_b100 : b17 ≠ b100 := fun h => hnb100 (h ▸ mt92)
  have do52_b100 : o52 ≠ b100 := fun h => hnb100 (h ▸ mt93)
  have db62_b100 : b62 ≠ b100 := fun h => hnb100 (h ▸ mt94)
  have db63_b100 : b63 ≠ b100 := fun h => hnb100 (h ▸ mt95)
  have db64_b100 : b64 ≠ b100 := fun h => hnb100 (h ▸ mt96)
  have db65_b100 : b65 ≠ b100 := fun h => hnb100 (h ▸ mt97)
  have do85_b100 : o85 ≠ b100 := fun h => hnb100 (h ▸ mo85)
  have da_b101 : a ≠ b101 := fun h => hnb101 (h ▸ (List.mem_append_left _ mt87))
  have do1_b101 : o1 ≠ b101 := fun h => hnb101 (h ▸ (List.mem_append_left _ mt88))
  have db6_b101 : b6 ≠ b101 := fun h => hnb101 (h ▸ (List.mem_append_left _ mt89))
  have db7_b101 : b7 ≠ b101 := fun h => hnb101 (h ▸ (List.mem_append_left _ mt90))
  have db8_b101 : b8 ≠ b101 := fun h => hnb101 (h ▸ (List.mem_append_left _ mt91))
  have db17_b101 : b17 ≠ b101 := fun h => hnb101 (h ▸ (List.mem_append_left _ mt92))
  have do52_b101 : o52 ≠ b101 := fun h => hnb101 (h ▸ (List.mem_append_left _ mt93))
  have db62_b101 : b62 ≠ b101 := fun h => hnb101 (h ▸ (List.mem_append_left _ mt94))
  have db63_b101 : b63 ≠ b101 := fun h => hnb101 (h ▸ (List.mem_append_left _ mt95))
  have db64_b101 : b64 ≠ b101 := fun h => hnb101 (h ▸ (List.mem_append_left _ mt96))
  have db65_b101 : b65 ≠ b101 := fun h => hnb101 (h ▸ (List.mem_append_left _ mt97))
  have do85_b101 : o85 ≠ b101 := fun h => hnb101 (h ▸ (List.mem_append_left _ mo85))
  have db100_b101 : b100 ≠ b101 := fun h => hnb101 (h ▸ (List.mem_append_right _ List.mem_cons_self))
  have da_b102 : a ≠ b102 := fun h => hnb102 (h ▸ (List.mem_append_left _ (List.mem_append_left _ mt87)))
  have do1_b102 : o1 ≠ b102 := fun h => hnb102 (h ▸ (List.mem_append_left _ (List.mem_append_left _ mt88)))
  have db6_b102 : b6 ≠ b102 := fun h => hnb102 (h ▸ (List.mem_append_left _ (List.mem_append_left _ mt89)))
  have db7_b102 : b7 ≠ b102 := fun h => hnb102 (h ▸ (List.mem_append_left _ (List.mem_append_left _ mt90)))
  have db8_b102 : b8 ≠ b102 := fun h => hnb102 (h ▸ (List.mem_append_left _ (List.mem_append_left _ mt91)))
  have db17_b102 : b17 ≠ b102 := fun h => hnb102 (h ▸ (List.mem_append_left _ (List.mem_append_left _ mt92)))
  have do52_b102 : o52 ≠ b102 := fun h => hnb102 (h ▸ (List.mem_append_left _ (List.mem_append_left _ mt93)))
  have db62_b102 : b62 ≠ b102 := fun h => hnb102 (h ▸ (List.mem_append_left _ (List.mem_append_left _ mt94)))
  have db63_b102 : b63 ≠ b102 := fun h => hnb102 (h ▸ (List.mem_append_left _ (List.mem_append_left _ mt95)))
  have db64_b102 : b64 ≠ b102 := fun h => hnb102 (h ▸ (List.mem_append_left _ (List.mem_append_left _ mt96)))
  have db65_b102 : b65 ≠ b102 := fun h => hnb102 (h ▸ (List.mem_append_left _ (List.mem_append_left _ mt97)))
  have do85_b102 : o85 ≠ b102 := fun h => hnb102 (h ▸ (List.mem_append_left _ (List.mem_append_left _ mo85)))
  have db100_b102 : b100 ≠ b102 := fun h => hnb102 (h ▸ (List.mem_append_left _ (List.mem_append_right _ List.mem_cons_self)))
  have db101_b102 : b101 ≠ b102 := fun h => hnb102 (h ▸ (List.mem_append_right _ List.mem_cons_self))
  have da_b103 : a ≠ b103 := fun h => hnb103 (h ▸ (List.mem_append_left _ (List.mem_append_left _ (List.mem_append_left _ mt87))))
  have do1_b103 : o1 ≠ b103 := fun h => hnb103 (h ▸ (List.mem_append_left _ (List.mem_append_left _ (List.mem_append_left _ mt88))))
  have db6_b103 : b6 ≠ b103 := fun h => hnb103 (h ▸ (List.mem_append_left _ (List.mem_append_left _ (List.mem_append_left _ mt89))))
  have db7_b103 : b7 ≠ b103 := fun h => hnb103 (h ▸ (List.mem_append_left _ (List.mem_append_left _ (List.mem_append_left _ mt90))))
  have db8_b103 : b8 ≠ b103 := fun h => hnb103 (h ▸ (List.mem_append_left _ (List.mem_append_left _ (List.mem_append_left _ mt91))))
  have db17_b103 : b17 ≠ b103 := fun h => hnb103 (h ▸ (List.mem_append_left _ (List.mem_append_left _ (List.mem_append_left _ mt92))))
  have do52_b103 : o52 ≠ b103 := fun h => hnb103 (h ▸ (List.mem_append_left _ (List.mem_append_left _ (List.mem_append_left _ mt93))))
  have db62_b103 : b62 ≠ b103 := fun h => hnb103 (h ▸ (List.mem_append_left _ (List.mem_append_left _ (List.mem_append_left _ mt94))))
  have db63_b103 : b63 ≠ b103 := fun h => hnb103 (h ▸ (List.mem_append_left _ (List.mem_append_left _ (List.mem_append_left _ mt95))))
  have db64_b103 : b64 ≠ b103 := fun h => hnb103 (h ▸ (List.mem_append_left _ (List.mem_append_left _ (List.mem_append_left _ mt96))))
  have db65_b103 : b65 ≠ b103 := fun h => hnb103 (h ▸ (List.mem_append_left _ (List.mem_append_left _ (List.mem_append_left _ mt97))))
  have do85_b103 : o85 ≠ b103 := fun h => hnb103 (h ▸ (List.mem_append_left _ (List.mem_append_left _ (List.mem_append_left _ mo85))))
  have db100_b103 : b100 ≠ b103 := fun h => hnb103 (h ▸ (List.mem_append_left _ (List.mem_append_left _ (List.mem_append_right _ List.mem_cons_self))))
  have db101_b103 : b101 ≠ b103 := fun h => hnb103 (h ▸ (List.mem_append_left _ (List.mem_append_right _ List.mem_cons_self)))
  have db102_b103 : b102 ≠ b103 := fun h => hnb103 (h ▸ (List.mem_append_right _ List.mem_cons_self))
  have fb100 : b100 ∉ (((((((((((u.1 ++ [o1]) ++ [b6]) ++ [b7]) ++ [b8]) ++ [b17]) ++ [o52]) ++ [b62]) ++ [b63]) ++ [b64]) ++ [b65]) ++ [o85]) := by rw [← hLu86]; exact hnb100
  have fb101 : b101 ∉ ((((((((((((u.1 ++ [o1]) ++ [b6]) ++ [b7]) ++ [b8]) ++ [b17]) ++ [o52]) ++ [b62]) ++ [b63]) ++ [b64]) ++ [b65]) ++ [o85]) ++ [b100]) := by rw [← hLu86]; exact hnb101
  have fb102 : b102 ∉ (((((((((((((u.1 ++ [o1]) ++ [b6]) ++ [b7]) ++ [b8]) ++ [b17]) ++ [o52]) ++ [b62]) ++ [b63]) ++ [b64]) ++ [b65]) ++ [o85]) ++ [b100]) ++ [b101]) := by rw [← hLu86]; exact hnb102
  have fb103 : b103 ∉ ((((((((((((((u.1 ++ [o1]) ++ [b6]) ++ [b7]) ++ [b8]) ++ [b17]) ++ [o52]) ++ [b62]) ++ [b63]) ++ [b64]) ++ [b65]) ++ [o85]) ++ [b100]) ++ [b101]) ++ [b102]) := by rw [← hLu86]; exact hnb103
  have hLu98 : u98.1 = (((((((((((((((u.1 ++ [o1]) ++ [b6]) ++ [b7]) ++ [b8]) ++ [b17]) ++ [o52]) ++ [b62]) ++ [b63]) ++ [b64]) ++ [b65]) ++ [o85]) ++ [b100]) ++ [b101]) ++ [b102]) ++ [b103]) := by rw [hu98, hLu86]
  have hMu98 : ∀ x, x ∈ u.1 → x ∈ u98.1 := fun x hx => by rw [hu98]; exact (List.mem_append_left _ (List.mem_append_left _ (List.mem_append_left _ (List.mem_append_left _ (hMu86 x hx)))))
  have hOu98 : ∀ x, x ∈ u.1 → x ≠ a → u98.2 x = u.2 x := fun x hx ne => (hpu98 x (hMu86 x hx) (fun h => fo85 (h ▸ (List.mem_append_left _ (List.mem_append_left _ (List.mem_append_left _ (List.mem_append_left _ (List.mem_append_left _ (List.mem_append_left _ (List.mem_append_left _ (List.mem_append_left _ (List.mem_append_left _ (List.mem_append_left _ hx))))))))))))).trans (hOu86 x hx ne)
  have mt104 : a ∈ u98.1 := (fun x hx => by rw [hu98]; exact (List.mem_append_left _ (List.mem_append_left _ (List.mem_append_left _ (List.mem_append_left _ hx)))) : ∀ x, x ∈ u86.1 → x ∈ u98.1) a mt87
  have et104 : u98.2 a = .inr (10, [.ref o1, .ref b17, .int (zI 0), .int (zI 5), .int (zI 20), .ref o52, .null, .null, .int (zI 0), .null, .null, .null, .null, .null]) := (hpu98 a mt87 da_o85).trans et87
  have mt105 : o1 ∈ u98.1 := (fun x hx => by rw [hu98]; exact (List.mem_append_left _ (List.mem_append_left _ (List.mem_append_left _ (List.mem_append_left _ hx)))) : ∀ x, x ∈ u86.1 → x ∈ u98.1) o1 mt88
  have et105 : u98.2 o1 = .inr (7, [.ref b6, .int (zI 0), .ref b7, .ref b8]) := (hpu98 o1 mt88 do1_o85).trans et88
  have mt106 : b6 ∈ u98.1 := (fun x hx => by rw [hu98]; exact (List.mem_append_left _ (List.mem_append_left _ (List.mem_append_left _ (List.mem_append_left _ hx)))) : ∀ x, x ∈ u86.1 → x ∈ u98.1) b6 mt89
  have et106 : u98.2 b6 = .inl (cy 2, 288, .inl (fun _ => zI 0)) := (hpu98 b6 mt89 db6_o85).trans et89
  have mt107 : b7 ∈ u98.1 := (fun x hx => by rw [hu98]; exact (List.mem_append_left _ (List.mem_append_left _ (List.mem_append_left _ (List.mem_append_left _ hx)))) : ∀ x, x ∈ u86.1 → x ∈ u98.1) b7 mt90
  have et107 : u98.2 b7 = .inl (cy 0, 36, .inl (fun _ => zI 0)) := (hpu98 b7 mt90 db7_o85).trans et90
  have mt108 : b8 ∈ u98.1 := (fun x hx => by rw [hu98]; exact (List.mem_append_left _ (List.mem_append_left _ (List.mem_append_left _ (List.mem_append_left _ hx)))) : ∀ x, x ∈ u86.1 → x ∈ u98.1) b8 mt91
  have et108 : u98.2 b8 = .inl (cy 0, 36, .inl (fun _ => zI 0)) := (hpu98 b8 mt91 db8_o85).trans et91
  have mt109 : b17 ∈ u98.1 := (fun x hx => by rw [hu98]; exact (List.mem_append_left _ (List.mem_append_left _ (List.mem_append_left _ (List.mem_append_left _ hx)))) : ∀ x, x ∈ u86.1 → x ∈ u98.1) b17 mt92
  have et109 : u98.2 b17 = .inl (cy 4, 10, .inr (.inr (.inr (.inr (fun _ => none))))) := (hpu98 b17 mt92 db17_o85).trans et92
  have mt110 : o52 ∈ u98.1 := (fun x hx => by rw [hu98]; exact (List.mem_append_left _ (List.mem_append_left _ (List.mem_append_left _ (List.mem_append_left _ hx)))) : ∀ x, x ∈ u86.1 → x ∈ u98.1) o52 mt93
  have et110 : u98.2 o52 = .inr (8, [.int (zI 0), .int (zI 0), .int (zI 0), .ref b62, .ref b63, .ref b64, .ref b65, .int (zI 0), .int (zI 0)]) := (hpu98 o52 mt93 do52_o85).trans et93
  have mt111 : b62 ∈ u98.1 := (fun x hx => by rw [hu98]; exact (List.mem_append_left _ (List.mem_append_left _ (List.mem_append_left _ (List.mem_append_left _ hx)))) : ∀ x, x ∈ u86.1 → x ∈ u98.1) b62 mt94
  have et111 : u98.2 b62 = .inl (cy 0, 101, .inl (fun _ => zI 0)) := (hpu98 b62 mt94 db62_o85).trans et94
  have mt112 : b63 ∈ u98.1 := (fun x hx => by rw [hu98]; exact (List.mem_append_left _ (List.mem_append_left _ (List.mem_append_left _ (List.mem_append_left _ hx)))) : ∀ x, x ∈ u86.1 → x ∈ u98.1) b63 mt95
  have et112 : u98.2 b63 = .inl (cy 0, 101, .inl (fun _ => zI 0)) := (hpu98 b63 mt95 db63_o85).trans et95
  have mt113 : b64 ∈ u98.1 := (fun x hx => by rw [hu98]; exact (List.mem_append_left _ (List.mem_append_left _ (List.mem_append_left _ (List.mem_append_left _ hx)))) : ∀ x, x ∈ u86.1 → x ∈ u98.1) b64 mt96
  have et113 : u98.2 b64 = .inl (cy 0, 100, .inl (fun _ => zI 0)) := (hpu98 b64 mt96 db64_o85).trans et96
  have mt114 : b65 ∈ u98.1 := (fun x hx => by rw [hu98]; exact (List.mem_append_left _ (List.mem_append_left _ (List.mem_append_left _ (List.mem_append_left _ hx)))) : ∀ x, x ∈ u86.1 → x ∈ u98.1) b65 mt97
  have et114 : u98.2 b65 = .inl (cy 0, 101, .inl (fun _ => zI 0)) := (hpu98 b65 mt97 db65_o85).trans et97
  have mt115 : o85 ∈ u98.1 := (fun x hx => by rw [hu98]; exact (List.mem_append_left _ (List.mem_append_left _ (List.mem_append_left _ (List.mem_append_left _ hx)))) : ∀ x, x ∈ u86.1 → x ∈ u98.1) o85 mo85
  have mb100 : b100 ∈ u98.1 := by rw [hu98]; exact (List.mem_append_left _ (List.mem_append_left _ (List.mem_append_left _ (List.mem_append_right _ List.mem_cons_self))))
  have mb101 : b101 ∈ u98.1 := by rw [hu98]; exact (List.mem_append_left _ (List.mem_append_left _ (List.mem_append_right _ List.mem_cons_self)))
  have mb102 : b102 ∈ u98.1 := by rw [hu98]; exact (List.mem_append_left _ (List.mem_append_right _ List.mem_cons_self))
  have mb103 : b103 ∈ u98.1 := by rw [hu98]; exact (List.mem_append_right _ List.mem_cons_self)
  obtain ⟨k9, hk9⟩ := p_get D u98 mt104
  refine va_putF (C := RX11) (T := TX11) (N := 14) (ci := 10) (ty := tyX11 6) hx hb hts (fun _ h => (List.mem_cons_of_mem _ (List.mem_append_left _ (List.mem_append_left _ (List.mem_append_left _ (List.mem_append_right _ h)))))) tyX11 tyX11_ok nmX11 hown hI.1 hG.1 hG.2 hS k9 (hk9.trans (by rw [et104])) rfl 6 (by decide) (hts (.fieldLink RX11 39 "StraitSwim" "trial" "LStraitSwim$Swim;") (List.mem_cons_of_mem _ (List.mem_append_left _ (List.mem_append_left _ (List.mem_append_left _ (List.mem_append_left _ (List.mem_append_left _ (List.mem_append_left _ (List.mem_of_getElem? (i := 16) rfl))))))))) (fun _ h9 => h9) rfl hin2 rfl (tyX11_ok 6 (by decide)) rfl rfl (Nat.le_of_ble_eq_true rfl) dX11_init_59 (fun H locs hP hD hS => ?_)
  obtain ⟨u116, hu116, hEu116, hpu116, hG⟩ := p_set (e := .inr (10, [.ref o1, .ref b17, .int (zI 0), .int (zI 5), .int (zI 20), .ref o52, .ref o85, .null, .int (zI 0), .null, .null, .null, .null, .null])) hG mt104 hk9 hP hD
  have mt117 : a ∈ u116.1 := (fun x hx => by rw [hu116]; exact hx : ∀ x, x ∈ u98.1 → x ∈ u116.1) a mt104
  have mt118 : o1 ∈ u116.1 := (fun x hx => by rw [hu116]; exact hx : ∀ x, x ∈ u98.1 → x ∈ u116.1) o1 mt105
  have et118 : u116.2 o1 = .inr (7, [.ref b6, .int (zI 0), .ref b7, .ref b8]) := (hpu116 o1 (fun h => (fun h9 => da_o1 h9.symm) h)).trans et105
  have mt119 : b6 ∈ u116.1 := (fun x hx => by rw [hu116]; exact hx : ∀ x, x ∈ u98.1 → x ∈ u116.1) b6 mt106
  have et119 : u116.2 b6 = .inl (cy 2, 288, .inl (fun _ => zI 0)) := (hpu116 b6 (fun h => (fun h9 => da_b6 h9.symm) h)).trans et106
  have mt120 : b7 ∈ u116.1 := (fun x hx => by rw [hu116]; exact hx : ∀ x, x ∈ u98.1 → x ∈ u116.1) b7 mt107
  have et120 : u116.2 b7 = .inl (cy 0, 36, .inl (fun _ => zI 0)) := (hpu116 b7 (fun h => (fun h9 => da_b7 h9.symm) h)).trans et107
  have mt121 : b8 ∈ u116.1 := (fun x hx => by rw [hu116]; exact hx : ∀ x, x ∈ u98.1 → x ∈ u116.1) b8 mt108
  have et121 : u116.2 b8 = .inl (cy 0, 36, .inl (fun _ => zI 0)) := (hpu116 b8 (fun h => (fun h9 => da_b8 h9.symm) h)).trans et108
  have mt122 : b17 ∈ u116.1 := (fun x hx => by rw [hu116]; exact hx : ∀ x, x ∈ u98.1 → x ∈ u116.1) b17 mt109
  have et122 : u116.2 b17 = .inl (cy 4, 10, .inr (.inr (.inr (.inr (fun _ => none))))) := (hpu116 b17 (fun h => (fun h9 => da_b17 h9.symm) h)).trans et109
  have mt123 : o52 ∈ u116.1 := (fun x hx => by rw [hu116]; exact hx : ∀ x, x ∈ u98.1 → x ∈ u116.1) o52 mt110
  have et123 : u116.2 o52 = .inr (8, [.int (zI 0), .int (zI 0), .int (zI 0), .ref b62, .ref b63, .ref b64, .ref b65, .int (zI 0), .int (zI 0)]) := (hpu116 o52 (fun h => (fun h9 => da_o52 h9.symm) h)).trans et110
  have mt124 : b62 ∈ u116.1 := (fun x hx => by rw [hu116]; exact hx : ∀ x, x ∈ u98.1 → x ∈ u116.1) b62 mt111
  have et124 : u116.2 b62 = .inl (cy 0, 101, .inl (fun _ => zI 0)) := (hpu116 b62 (fun h => (fun h9 => da_b62 h9.symm) h)).trans et111
  have mt125 : b63 ∈ u116.1 := (fun x hx => by rw [hu116]; exact hx : ∀ x, x ∈ u98.1 → x ∈ u116.1) b63 mt112
  have et125 : u116.2 b63 = .inl (cy 0, 101, .inl (fun _ => zI 0)) := (hpu116 b63 (fun h => (fun h9 => da_b63 h9.symm) h)).trans et112
  have mt126 : b64 ∈ u116.1 := (fun x hx => by rw [hu116]; exact hx : ∀ x, x ∈ u98.1 → x ∈ u116.1) b64 mt113
  have et126 : u116.2 b64 = .inl (cy 0, 100, .inl (fun _ => zI 0)) := (hpu116 b64 (fun h => (fun h9 => da_b64 h9.symm) h)).trans et113
  have mt127 : b65 ∈ u116.1 := (fun x hx => by rw [hu116]; exact hx : ∀ x, x ∈ u98.1 → x ∈ u116.1) b65 mt114
  have et127 : u116.2 b65 = .inl (cy 0, 101, .inl (fun _ => zI 0)) := (hpu116 b65 (fun h => (fun h9 => da_b65 h9.symm) h)).trans et114
  have mt128 : o85 ∈ u116.1 := (fun x hx => by rw [hu116]; exact hx : ∀ x, x ∈ u98.1 → x ∈ u116.1) o85 mt115
  have et128 : u116.2 o85 = .inr (8, [.int (zI 0), .int (zI 0), .int (zI 0), .ref b100, .ref b101, .ref b102, .ref b103, .int (zI 0), .int (zI 0)]) := (hpu116 o85 (fun h => (fun h9 => da_o85 h9.symm) h)).trans hEou98
  have mt129 : b100 ∈ u116.1 := (fun x hx => by rw [hu116]; exact hx : ∀ x, x ∈ u98.1 → x ∈ u116.1) b100 mb100
  have et129 : u116.2 b100 = .inl (cy 0, 101, .inl (fun _ => zI 0)) := (hpu116 b100 (fun h => (fun h9 => da_b100 h9.symm) h)).trans hEb100
  have mt130 : b101 ∈ u116.1 := (fun x hx => by rw [hu116]; exact hx : ∀ x, x ∈ u98.1 → x ∈ u116.1) b101 mb101
  have et130 : u116.2 b101 = .inl (cy 0, 101, .inl (fun _ => zI 0)) := (hpu116 b101 (fun h => (fun h9 => da_b101 h9.symm) h)).trans hEb101
  have mt131 : b102 ∈ u116.1 := (fun x hx => by rw [hu116]; exact hx : ∀ x, x ∈ u98.1 → x ∈ u116.1) b102 mb102
  have et131 : u116.2 b102 = .inl (cy 0, 100, .inl (fun _ => zI 0)) := (hpu116 b102 (fun h => (fun h9 => da_b102 h9.symm) h)).trans hEb102
  have mt132 : b103 ∈ u116.1 := (fun x hx => by rw [hu116]; exact hx : ∀ x, x ∈ u98.1 → x ∈ u116.1) b103 mb103
  have et132 : u116.2 b103 = .inl (cy 0, 101, .inl (fun _ => zI 0)) := (hpu116 b103 (fun h => (fun h9 => da_b103 h9.symm) h)).trans hEb103
  have hLu116 : u116.1 = (((((((((((((((u.1 ++ [o1]) ++ [b6]) ++ [b7]) ++ [b8]) ++ [b17]) ++ [o52]) ++ [b62]) ++ [b63]) ++ [b64]) ++ [b65]) ++ [o85]) ++ [b100]) ++ [b101]) ++ [b102]) ++ [b103]) := by rw [hu116, hLu98]
  have hMu116 : ∀ x, x ∈ u.1 → x ∈ u116.1 := fun x hx => by rw [hu116]; exact hMu98 x hx
  have hOu116 : ∀ x, x ∈ u.1 → x ≠ a → u116.2 x = u.2 x := fun x hx ne => (hpu116 x ne).trans (hOu98 x hx ne)
  refine lv_aload_n hx hb dX11_init_62 rfl (lv_at hl 0 rfl) ?_
  refine z_bipush hx hb dX11_init_63 (by decide) ?_
  refine p_newQ (C := RX7) (k := 5) (z := 8) (M := 8) hx hb hown (hts (.classLink RX11 42 RX7) (List.mem_cons_of_mem _ (List.mem_append_left _ (List.mem_append_left _ (List.mem_append_left _ (List.mem_append_left _ (List.mem_append_left _ (List.mem_append_left _ (List.mem_of_getElem? (i := 17) rfl))))))))) hI.2.2.1.2.1 rfl hI hG hS (by omega) (by omega) (by omega) (Nat.le_of_ble_eq_true rfl) (Nat.le_of_ble_eq_true rfl) dX11_init_65 (fun b133 u134 H hu134 hEb133 hpu134 hnb133 hG hS => ?_)
  have hEb133 : u134.2 b133 = .inl (cy 5, 8, .inr (.inr (.inr (.inr (fun _ => none))))) := hEb133
  have fb133 : b133 ∉ (((((((((((((((u.1 ++ [o1]) ++ [b6]) ++ [b7]) ++ [b8]) ++ [b17]) ++ [o52]) ++ [b62]) ++ [b63]) ++ [b64]) ++ [b65]) ++ [o85]) ++ [b100]) ++ [b101]) ++ [b102]) ++ [b103]) := by rw [← hLu116]; exact hnb133
  have hLu134 : u134.1 = ((((((((((((((((u.1 ++ [o1]) ++ [b6]) ++ [b7]) ++ [b8]) ++ [b17]) ++ [o52]) ++ [b62]) ++ [b63]) ++ [b64]) ++ [b65]) ++ [o85]) ++ [b100]) ++ [b101]) ++ [b102]) ++ [b103]) ++ [b133]) := by rw [hu134, hLu116]
  have hMu134 : ∀ x, x ∈ u.1 → x ∈ u134.1 := fun x hx => by rw [hu134]; exact List.mem_append_left _ (hMu116 x hx)
  have hOu134 : ∀ x, x ∈ u.1 → x ≠ a → u134.2 x = u.2 x := fun x hx ne => (hpu134 x (hMu116 x hx)).trans (hOu116 x hx ne)
  have da_b133 : a ≠ b133 := fun h => hnb133 (h ▸ mt117)
  have do1_b133 : o1 ≠ b133 := fun h => hnb133 (h ▸ mt118)
  have db6_b133 : b6 ≠ b133 := fun h => hnb133 (h ▸ mt119)
  have db7_b133 : b7 ≠ b133 := fun h => hnb133 (h ▸ mt120)
  have db8_b133 : b8 ≠ b133 := fun h => hnb133 (h ▸ mt121)
  have db17_b133 : b17 ≠ b133 := fun h => hnb133 (h ▸ mt122)
  have do52_b133 : o52 ≠ b133 := fun h => hnb133 (h ▸ mt123)
  have db62_b133 : b62 ≠ b133 := fun h => hnb133 (h ▸ mt124)
  have db63_b133 : b63 ≠ b133 := fun h => hnb133 (h ▸ mt125)
  have db64_b133 : b64 ≠ b133 := fun h => hnb133 (h ▸ mt126)
  have db65_b133 : b65 ≠ b133 := fun h => hnb133 (h ▸ mt127)
  have do85_b133 : o85 ≠ b133 := fun h => hnb133 (h ▸ mt128)
  have db100_b133 : b100 ≠ b133 := fun h => hnb133 (h ▸ mt129)
  have db101_b133 : b101 ≠ b133 := fun h => hnb133 (h ▸ mt130)
  have db102_b133 : b102 ≠ b133 := fun h => hnb133 (h ▸ mt131)
  have db103_b133 : b103 ≠ b133 := fun h => hnb133 (h ▸ mt132)
  have mt135 : a ∈ u134.1 := (fun x hx => by rw [hu134]; exact List.mem_append_left _ hx : ∀ x, x ∈ u116.1 → x ∈ u134.1) a mt117
  have et135 : u134.2 a = .inr (10, [.ref o1, .ref b17, .int (zI 0), .int (zI 5), .int (zI 20), .ref o52, .ref o85, .null, .int (zI 0), .null, .null, .null, .null, .null]) := (hpu134 a mt117).trans hEu116
  have mt136 : o1 ∈ u134.1 := (fun x hx => by rw [hu134]; exact List.mem_append_left _ hx : ∀ x, x ∈ u116.1 → x ∈ u134.1) o1 mt118
  have et136 : u134.2 o1 = .inr (7, [.ref b6, .int (zI 0), .ref b7, .ref b8]) := (hpu134 o1 mt118).trans et118
  have mt137 : b6 ∈ u134.1 := (fun x hx => by rw [hu134]; exact List.mem_append_left _ hx : ∀ x, x ∈ u116.1 → x ∈ u134.1) b6 mt119
  have et137 : u134.2 b6 = .inl (cy 2, 288, .inl (fun _ => zI 0)) := (hpu134 b6 mt119).trans et119
  have mt138 : b7 ∈ u134.1 := (fun x hx => by rw [hu134]; exact List.mem_append_left _ hx : ∀ x, x ∈ u116.1 → x ∈ u134.1) b7 mt120
  have et138 : u134.2 b7 = .inl (cy 0, 36, .inl (fun _ => zI 0)) := (hpu134 b7 mt120).trans et120
  have mt139 : b8 ∈ u134.1 := (fun x hx => by rw [hu134]; exact List.mem_append_left _ hx : ∀ x, x ∈ u116.1 → x ∈ u134.1) b8 mt121
  have et139 : u134.2 b8 = .inl (cy 0, 36, .inl (fun _ => zI 0)) := (hpu134 b8 mt121).trans et121
  have mt140 : b17 ∈ u134.1 := (fun x hx => by rw [hu134]; exact List.mem_append_left _ hx : ∀ x, x ∈ u116.1 → x ∈ u134.1) b17 mt122
  have et140 : u134.2 b17 = .inl (cy 4, 10, .inr (.inr (.inr (.inr (fun _ => none))))) := (hpu134 b17 mt122).trans et122
  have mt141 : o52 ∈ u134.1 := (fun x hx => by rw [hu134]; exact List.mem_append_left _ hx : ∀ x, x ∈ u116.1 → x ∈ u134.1) o52 mt123
  have et141 : u134.2 o52 = .inr (8, [.int (zI 0), .int (zI 0), .int (zI 0), .ref b62, .ref b63, .ref b64, .ref b65, .int (zI 0), .int (zI 0)]) := (hpu134 o52 mt123).trans et123
  have mt142 : b62 ∈ u134.1 := (fun x hx => by rw [hu134]; exact List.mem_append_left _ hx : ∀ x, x ∈ u116.1 → x ∈ u134.1) b62 mt124
  have et142 : u134.2 b62 = .inl (cy 0, 101, .inl (fun _ => zI 0)) := (hpu134 b62 mt124).trans et124
  have mt143 : b63 ∈ u134.1 := (fun x hx => by rw [hu134]; exact List.mem_append_left _ hx : ∀ x, x ∈ u116.1 → x ∈ u134.1) b63 mt125
  have et143 : u134.2 b63 = .inl (cy 0, 101, .inl (fun _ => zI 0)) := (hpu134 b63 mt125).trans et125
  have mt144 : b64 ∈ u134.1 := (fun x hx => by rw [hu134]; exact List.mem_append_left _ hx : ∀ x, x ∈ u116.1 → x ∈ u134.1) b64 mt126
  have et144 : u134.2 b64 = .inl (cy 0, 100, .inl (fun _ => zI 0)) := (hpu134 b64 mt126).trans et126
  have mt145 : b65 ∈ u134.1 := (fun x hx => by rw [hu134]; exact List.mem_append_left _ hx : ∀ x, x ∈ u116.1 → x ∈ u134.1) b65 mt127
  have et145 : u134.2 b65 = .inl (cy 0, 101, .inl (fun _ => zI 0)) := (hpu134 b65 mt127).trans et127
  have mt146 : o85 ∈ u134.1 := (fun x hx => by rw [hu134]; exact List.mem_append_left _ hx : ∀ x, x ∈ u116.1 → x ∈ u134.1) o85 mt128
  have et146 : u134.2 o85 = .inr (8, [.int (zI 0), .int (zI 0), .int (zI 0), .ref b100, .ref b101, .ref b102, .ref b103, .int (zI 0), .int (zI 0)]) := (hpu134 o85 mt128).trans et128
  have mt147 : b100 ∈ u134.1 := (fun x hx => by rw [hu134]; exact List.mem_append_left _ hx : ∀ x, x ∈ u116.1 → x ∈ u134.1) b100 mt129
  have et147 : u134.2 b100 = .inl (cy 0, 101, .inl (fun _ => zI 0)) := (hpu134 b100 mt129).trans et129
  have mt148 : b101 ∈ u134.1 := (fun x hx => by rw [hu134]; exact List.mem_append_left _ hx : ∀ x, x ∈ u116.1 → x ∈ u134.1) b101 mt130
  have et148 : u134.2 b101 = .inl (cy 0, 101, .inl (fun _ => zI 0)) := (hpu134 b101 mt130).trans et130
  have mt149 : b102 ∈ u134.1 := (fun x hx => by rw [hu134]; exact List.mem_append_left _ hx : ∀ x, x ∈ u116.1 → x ∈ u134.1) b102 mt131
  have et149 : u134.2 b102 = .inl (cy 0, 100, .inl (fun _ => zI 0)) := (hpu134 b102 mt131).trans et131
  have mt150 : b103 ∈ u134.1 := (fun x hx => by rw [hu134]; exact List.mem_append_left _ hx : ∀ x, x ∈ u116.1 → x ∈ u134.1) b103 mt132
  have et150 : u134.2 b103 = .inl (cy 0, 101, .inl (fun _ => zI 0)) := (hpu134 b103 mt132).trans et132
  have mb133 : b133 ∈ u134.1 := by rw [hu134]; exact List.mem_append_right _ List.mem_cons_self
  obtain ⟨k9, hk9⟩ := p_get D u134 mt135
  refine va_putF (C := RX11) (T := TX11) (N := 14) (ci := 10) (ty := tyX11 7) hx hb hts (fun _ h => (List.mem_cons_of_mem _ (List.mem_append_left _ (List.mem_append_left _ (List.mem_append_left _ (List.mem_append_right _ h)))))) tyX11 tyX11_ok nmX11 hown hI.1 hG.1 hG.2 hS k9 (hk9.trans (by rw [et135])) rfl 7 (by decide) (hts (.fieldLink RX11 44 "StraitSwim" "ships" "[LStraitSwim$Ship;") (List.mem_cons_of_mem _ (List.mem_append_left _ (List.mem_append_left _ (List.mem_append_left _ (List.mem_append_left _ (List.mem_append_left _ (List.mem_append_left _ (List.mem_of_getElem? (i := 18) rfl))))))))) (fun _ h9 => h9) rfl hin2 rfl (tyX11_ok 7 (by decide)) rfl rfl (Nat.le_of_ble_eq_true rfl) dX11_init_68 (fun H locs hP hD hS => ?_)
  obtain ⟨u151, hu151, hEu151, hpu151, hG⟩ := p_set (e := .inr (10, [.ref o1, .ref b17, .int (zI 0), .int (zI 5), .int (zI 20), .ref o52, .ref o85, .ref b133, .int (zI 0), .null, .null, .null, .null, .null])) hG mt135 hk9 hP hD
  have mt152 : a ∈ u151.1 := (fun x hx => by rw [hu151]; exact hx : ∀ x, x ∈ u134.1 → x ∈ u151.1) a mt135
  have mt153 : o1 ∈ u151.1 := (fun x hx => by rw [hu151]; exact hx : ∀ x, x ∈ u134.1 → x ∈ u151.1) o1 mt136
  have et153 : u151.2 o1 = .inr (7, [.ref b6, .int (zI 0), .ref b7, .ref b8]) := (hpu151 o1 (fun h => (fun h9 => da_o1 h9.symm) h)).trans et136
  have mt154 : b6 ∈ u151.1 := (fun x hx => by rw [hu151]; exact hx : ∀ x, x ∈ u134.1 → x ∈ u151.1) b6 mt137
  have et154 : u151.2 b6 = .inl (cy 2, 288, .inl (fun _ => zI 0)) := (hpu151 b6 (fun h => (fun h9 => da_b6 h9.symm) h)).trans et137
  have mt155 : b7 ∈ u151.1 := (fun x hx => by rw [hu151]; exact hx : ∀ x, x ∈ u134.1 → x ∈ u151.1) b7 mt138
  have et155 : u151.2 b7 = .inl (cy 0, 36, .inl (fun _ => zI 0)) := (hpu151 b7 (fun h => (fun h9 => da_b7 h9.symm) h)).trans et138
  have mt156 : b8 ∈ u151.1 := (fun x hx => by rw [hu151]; exact hx : ∀ x, x ∈ u134.1 → x ∈ u151.1) b8 mt139
  have et156 : u151.2 b8 = .inl (cy 0, 36, .inl (fun _ => zI 0)) := (hpu151 b8 (fun h => (fun h9 => da_b8 h9.symm) h)).trans et139
  have mt157 : b17 ∈ u151.1 := (fun x hx => by rw [hu151]; exact hx : ∀ x, x ∈ u134.1 → x ∈ u151.1) b17 mt140
  have et157 : u151.2 b17 = .inl (cy 4, 10, .inr (.inr (.inr (.inr (fun _ => none))))) := (hpu151 b17 (fun h => (fun h9 => da_b17 h9.symm) h)).trans et140
  have mt158 : o52 ∈ u151.1 := (fun x hx => by rw [hu151]; exact hx : ∀ x, x ∈ u134.1 → x ∈ u151.1) o52 mt141
  have et158 : u151.2 o52 = .inr (8, [.int (zI 0), .int (zI 0), .int (zI 0), .ref b62, .ref b63, .ref b64, .ref b65, .int (zI 0), .int (zI 0)]) := (hpu151 o52 (fun h => (fun h9 => da_o52 h9.symm) h)).trans et141
  have mt159 : b62 ∈ u151.1 := (fun x hx => by rw [hu151]; exact hx : ∀ x, x ∈ u134.1 → x ∈ u151.1) b62 mt142
  have et159 : u151.2 b62 = .inl (cy 0, 101, .inl (fun _ => zI 0)) := (hpu151 b62 (fun h => (fun h9 => da_b62 h9.symm) h)).trans et142
  have mt160 : b63 ∈ u151.1 := (fun x hx => by rw [hu151]; exact hx : ∀ x, x ∈ u134.1 → x ∈ u151.1) b63 mt143
  have et160 : u151.2 b63 = .inl (cy 0, 101, .inl (fun _ => zI 0)) := (hpu151 b63 (fun h => (fun h9 => da_b63 h9.symm) h)).trans et143
  have mt161 : b64 ∈ u151.1 := (fun x hx => by rw [hu151]; exact hx : ∀ x, x ∈ u134.1 → x ∈ u151.1) b64 mt144
  have et161 : u151.2 b64 = .inl (cy 0, 100, .inl (fun _ => zI 0)) := (hpu151 b64 (fun h => (fun h9 => da_b64 h9.symm) h)).trans et144
  have mt162 : b65 ∈ u151.1 := (fun x hx => by rw [hu151]; exact hx : ∀ x, x ∈ u134.1 → x ∈ u151.1) b65 mt145
  have et162 : u151.2 b65 = .inl (cy 0, 101, .inl (fun _ => zI 0)) := (hpu151 b65 (fun h => (fun h9 => da_b65 h9.symm) h)).trans et145
  have mt163 : o85 ∈ u151.1 := (fun x hx => by rw [hu151]; exact hx : ∀ x, x ∈ u134.1 → x ∈ u151.1) o85 mt146
  have et163 : u151.2 o85 = .inr (8, [.int (zI 0), .int (zI 0), .int (zI 0), .ref b100, .ref b101, .ref b102, .ref b103, .int (zI 0), .int (zI 0)]) := (hpu151 o85 (fun h => (fun h9 => da_o85 h9.symm) h)).trans et146
  have mt164 : b100 ∈ u151.1 := (fun x hx => by rw [hu151]; exact hx : ∀ x, x ∈ u134.1 → x ∈ u151.1) b100 mt147
  have et164 : u151.2 b100 = .inl (cy 0, 101, .inl (fun _ => zI 0)) := (hpu151 b100 (fun h => (fun h9 => da_b100 h9.symm) h)).trans et147
  have mt165 : b101 ∈ u151.1 := (fun x hx => by rw [hu151]; exact hx : ∀ x, x ∈ u134.1 → x ∈ u151.1) b101 mt148
  have et165 : u151.2 b101 = .inl (cy 0, 101, .inl (fun _ => zI 0)) := (hpu151 b101 (fun h => (fun h9 => da_b101 h9.symm) h)).trans et148
  have mt166 : b102 ∈ u151.1 := (fun x hx => by rw [hu151]; exact hx : ∀ x, x ∈ u134.1 → x ∈ u151.1) b102 mt149
  have et166 : u151.2 b102 = .inl (cy 0, 100, .inl (fun _ => zI 0)) := (hpu151 b102 (fun h => (fun h9 => da_b102 h9.symm) h)).trans et149
  have mt167 : b103 ∈ u151.1 := (fun x hx => by rw [hu151]; exact hx : ∀ x, x ∈ u134.1 → x ∈ u151.1) b103 mt150
  have et167 : u151.2 b103 = .inl (cy 0, 101, .inl (fun _ => zI 0)) := (hpu151 b103 (fun h => (fun h9 => da_b103 h9.symm) h)).trans et150
  have mt168 : b133 ∈ u151.1 := (fun x hx => by rw [hu151]; exact hx : ∀ x, x ∈ u134.1 → x ∈ u151.1) b133 mb133
  have et168 : u151.2 b133 = .inl (cy 5, 8, .inr (.inr (.inr (.inr (fun _ => none))))) := (hpu151 b133 (fun h => (fun h9 => da_b133 h9.symm) h)).trans hEb133
  have hLu151 : u151.1 = ((((((((((((((((u.1 ++ [o1]) ++ [b6]) ++ [b7]) ++ [b8]) ++ [b17]) ++ [o52]) ++ [b62]) ++ [b63]) ++ [b64]) ++ [b65]) ++ [o85]) ++ [b100]) ++ [b101]) ++ [b102]) ++ [b103]) ++ [b133]) := by rw [hu151, hLu134]
  have hMu151 : ∀ x, x ∈ u.1 → x ∈ u151.1 := fun x hx => by rw [hu151]; exact hMu134 x hx
  have hOu151 : ∀ x, x ∈ u.1 → x ≠ a → u151.2 x = u.2 x := fun x hx ne => (hpu151 x ne).trans (hOu134 x hx ne)
  refine lv_aload_n hx hb dX11_init_71 rfl (lv_at hl 0 rfl) ?_
  refine z_iconst hx hb dX11_init_72 ?_
  obtain ⟨k9, hk9⟩ := p_get D u151 mt152
  refine va_put (C := RX11) (T := TX11) (N := 14) (ci := 10) (ty := tyX11 8) hx hb hts (fun _ h => (List.mem_cons_of_mem _ (List.mem_append_left _ (List.mem_append_left _ (List.mem_append_left _ (List.mem_append_right _ h)))))) tyX11 tyX11_ok nmX11 hown hI.1 hG.1 hG.2 hS k9 (hk9.trans (by rw [hEu151])) rfl 8 (by decide) (hts (.fieldLink RX11 48 "StraitSwim" "shipCount" "I") (List.mem_cons_of_mem _ (List.mem_append_left _ (List.mem_append_left _ (List.mem_append_left _ (List.mem_append_left _ (List.mem_append_left _ (List.mem_append_left _ (List.mem_of_getElem? (i := 19) rfl))))))))) (fun _ h9 => h9) rfl (tyX11_ok 8 (by decide)) rfl rfl (Nat.le_of_ble_eq_true rfl) dX11_init_73 (fun H locs hP hD hS => ?_)
  obtain ⟨u169, hu169, hEu169, hpu169, hG⟩ := p_set (e := .inr (10, [.ref o1, .ref b17, .int (zI 0), .int (zI 5), .int (zI 20), .ref o52, .ref o85, .ref b133, .int (zI 0), .null, .null, .null, .null, .null])) hG mt152 hk9 hP hD
  have mt170 : a ∈ u169.1 := (fun x hx => by rw [hu169]; exact hx : ∀ x, x ∈ u151.1 → x ∈ u169.1) a mt152
  have mt171 : o1 ∈ u169.1 := (fun x hx => by rw [hu169]; exact hx : ∀ x, x ∈ u151.1 → x ∈ u169.1) o1 mt153
  have et171 : u169.2 o1 = .inr (7, [.ref b6, .int (zI 0), .ref b7, .ref b8]) := (hpu169 o1 (fun h => (fun h9 => da_o1 h9.symm) h)).trans et153
  have mt172 : b6 ∈ u169.1 := (fun x hx => by rw [hu169]; exact hx : ∀ x, x ∈ u151.1 → x ∈ u169.1) b6 mt154
  have et172 : u169.2 b6 = .inl (cy 2, 288, .inl (fun _ => zI 0)) := (hpu169 b6 (fun h => (fun h9 => da_b6 h9.symm) h)).trans et154
  have mt173 : b7 ∈ u169.1 := (fun x hx => by rw [hu169]; exact hx : ∀ x, x ∈ u151.1 → x ∈ u169.1) b7 mt155
  have et173 : u169.2 b7 = .inl (cy 0, 36, .inl (fun _ => zI 0)) := (hpu169 b7 (fun h => (fun h9 => da_b7 h9.symm) h)).trans et155
  have mt174 : b8 ∈ u169.1 := (fun x hx => by rw [hu169]; exact hx : ∀ x, x ∈ u151.1 → x ∈ u169.1) b8 mt156
  have et174 : u169.2 b8 = .inl (cy 0, 36, .inl (fun _ => zI 0)) := (hpu169 b8 (fun h => (fun h9 => da_b8 h9.symm) h)).trans et156
  have mt175 : b17 ∈ u169.1 := (fun x hx => by rw [hu169]; exact hx : ∀ x, x ∈ u151.1 → x ∈ u169.1) b17 mt157
  have et175 : u169.2 b17 = .inl (cy 4, 10, .inr (.inr (.inr (.inr (fun _ => none))))) := (hpu169 b17 (fun h => (fun h9 => da_b17 h9.symm) h)).trans et157
  have mt176 : o52 ∈ u169.1 := (fun x hx => by rw [hu169]; exact hx : ∀ x, x ∈ u151.1 → x ∈ u169.1) o52 mt158
  have et176 : u169.2 o52 = .inr (8, [.int (zI 0), .int (zI 0), .int (zI 0), .ref b62, .ref b63, .ref b64, .ref b65, .int (zI 0), .int (zI 0)]) := (hpu169 o52 (fun h => (fun h9 => da_o52 h9.symm) h)).trans et158
  have mt177 : b62 ∈ u169.1 := (fun x hx => by rw [hu169]; exact hx : ∀ x, x ∈ u151.1 → x ∈ u169.1) b62 mt159
  have et177 : u169.2 b62 = .inl (cy 0, 101, .inl (fun _ => zI 0)) := (hpu169 b62 (fun h => (fun h9 => da_b62 h9.symm) h)).trans et159
  have mt178 : b63 ∈ u169.1 := (fun x hx => by rw [hu169]; exact hx : ∀ x, x ∈ u151.1 → x ∈ u169.1) b63 mt160
  have et178 : u169.2 b63 = .inl (cy 0, 101, .inl (fun _ => zI 0)) := (hpu169 b63 (fun h => (fun h9 => da_b63 h9.symm) h)).trans et160
  have mt179 : b64 ∈ u169.1 := (fun x hx => by rw [hu169]; exact hx : ∀ x, x ∈ u151.1 → x ∈ u169.1) b64 mt161
  have et179 : u169.2 b64 = .inl (cy 0, 100, .inl (fun _ => zI 0)) := (hpu169 b64 (fun h => (fun h9 => da_b64 h9.symm) h)).trans et161
  have mt180 : b65 ∈ u169.1 := (fun x hx => by rw [hu169]; exact hx : ∀ x, x ∈ u151.1 → x ∈ u169.1) b65 mt162
  have et180 : u169.2 b65 = .inl (cy 0, 101, .inl (fun _ => zI 0)) := (hpu169 b65 (fun h => (fun h9 => da_b65 h9.symm) h)).trans et162
  have mt181 : o85 ∈ u169.1 := (fun x hx => by rw [hu169]; exact hx : ∀ x, x ∈ u151.1 → x ∈ u169.1) o85 mt163
  have et181 : u169.2 o85 = .inr (8, [.int (zI 0), .int (zI 0), .int (zI 0), .ref b100, .ref b101, .ref b102, .ref b103, .int (zI 0), .int (zI 0)]) := (hpu169 o85 (fun h => (fun h9 => da_o85 h9.symm) h)).trans et163
  have mt182 : b100 ∈ u169.1 := (fun x hx => by rw [hu169]; exact hx : ∀ x, x ∈ u151.1 → x ∈ u169.1) b100 mt164
  have et182 : u169.2 b100 = .inl (cy 0, 101, .inl (fun _ => zI 0)) := (hpu169 b100 (fun h => (fun h9 => da_b100 h9.symm) h)).trans et164
  have mt183 : b101 ∈ u169.1 := (fun x hx => by rw [hu169]; exact hx : ∀ x, x ∈ u151.1 → x ∈ u169.1) b101 mt165
  have et183 : u169.2 b101 = .inl (cy 0, 101, .inl (fun _ => zI 0)) := (hpu169 b101 (fun h => (fun h9 => da_b101 h9.symm) h)).trans et165
  have mt184 : b102 ∈ u169.1 := (fun x hx => by rw [hu169]; exact hx : ∀ x, x ∈ u151.1 → x ∈ u169.1) b102 mt166
  have et184 : u169.2 b102 = .inl (cy 0, 100, .inl (fun _ => zI 0)) := (hpu169 b102 (fun h => (fun h9 => da_b102 h9.symm) h)).trans et166
  have mt185 : b103 ∈ u169.1 := (fun x hx => by rw [hu169]; exact hx : ∀ x, x ∈ u151.1 → x ∈ u169.1) b103 mt167
  have et185 : u169.2 b103 = .inl (cy 0, 101, .inl (fun _ => zI 0)) := (hpu169 b103 (fun h => (fun h9 => da_b103 h9.symm) h)).trans et167
  have mt186 : b133 ∈ u169.1 := (fun x hx => by rw [hu169]; exact hx : ∀ x, x ∈ u151.1 → x ∈ u169.1) b133 mt168
  have et186 : u169.2 b133 = .inl (cy 5, 8, .inr (.inr (.inr (.inr (fun _ => none))))) := (hpu169 b133 (fun h => (fun h9 => da_b133 h9.symm) h)).trans et168
  have hLu169 : u169.1 = ((((((((((((((((u.1 ++ [o1]) ++ [b6]) ++ [b7]) ++ [b8]) ++ [b17]) ++ [o52]) ++ [b62]) ++ [b63]) ++ [b64]) ++ [b65]) ++ [o85]) ++ [b100]) ++ [b101]) ++ [b102]) ++ [b103]) ++ [b133]) := by rw [hu169, hLu151]
  have hMu169 : ∀ x, x ∈ u.1 → x ∈ u169.1 := fun x hx => by rw [hu169]; exact hMu151 x hx
  have hOu169 : ∀ x, x ∈ u.1 → x ≠ a → u169.2 x = u.2 x := fun x hx ne => (hpu169 x ne).trans (hOu151 x hx ne)
  refine lv_aload_n hx hb dX11_init_76 rfl (lv_at hl 0 rfl) ?_
  refine va_new (ci := 9) (fs := [.null, .int (zI 0)]) (C := RX10) (T := TX10) (N := 2) hx hb hts (fun _ h => (List.mem_cons_of_mem _ (List.mem_append_left _ (List.mem_append_right _ h)))) tyX10 tyX10_ok hown (hts (.classLink RX11 51 RX10) (List.mem_cons_of_mem _ (List.mem_append_left _ (List.mem_append_left _ (List.mem_append_left _ (List.mem_append_left _ (List.mem_append_left _ (List.mem_append_left _ (List.mem_of_getElem? (i := 20) rfl))))))))) (hts (.instantiable RX10 2) (List.mem_cons_of_mem _ (List.mem_append_left _ (List.mem_append_left _ (List.mem_append_left _ (List.mem_append_left _ (List.mem_append_left _ (List.mem_append_left _ (List.mem_of_getElem? (i := 21) rfl))))))))) (hts (.initialized RX10) (List.mem_cons_of_mem _ (List.mem_append_left _ (List.mem_append_left _ (List.mem_append_left _ (List.mem_append_left _ (List.mem_append_left _ (List.mem_append_left _ (List.mem_of_getElem? (i := 22) rfl))))))))) hI.1 hG.1 hG.2 hS hI.2.1 rfl (fun j hj => by rcases (show j = 0 ∨ j = 1 by omega) with rfl | rfl <;> rfl) (Nat.le_of_ble_eq_true rfl) (Nat.le_of_ble_eq_true rfl) dX11_init_77 (fun o187 H hP hD hS => ?_)
  obtain ⟨u188, hu188, hEo187, hpu188, hno187, hG⟩ := p_push hP hD
  have fo187 : o187 ∉ ((((((((((((((((u.1 ++ [o1]) ++ [b6]) ++ [b7]) ++ [b8]) ++ [b17]) ++ [o52]) ++ [b62]) ++ [b63]) ++ [b64]) ++ [b65]) ++ [o85]) ++ [b100]) ++ [b101]) ++ [b102]) ++ [b103]) ++ [b133]) := by rw [← hLu169]; exact hno187
  have hLu188 : u188.1 = (((((((((((((((((u.1 ++ [o1]) ++ [b6]) ++ [b7]) ++ [b8]) ++ [b17]) ++ [o52]) ++ [b62]) ++ [b63]) ++ [b64]) ++ [b65]) ++ [o85]) ++ [b100]) ++ [b101]) ++ [b102]) ++ [b103]) ++ [b133]) ++ [o187]) := by rw [hu188, hLu169]
  have hMu188 : ∀ x, x ∈ u.1 → x ∈ u188.1 := fun x hx => by rw [hu188]; exact List.mem_append_left _ (hMu169 x hx)
  have hOu188 : ∀ x, x ∈ u.1 → x ≠ a → u188.2 x = u.2 x := fun x hx ne => (hpu188 x (hMu169 x hx)).trans (hOu169 x hx ne)
  have da_o187 : a ≠ o187 := fun h => hno187 (h ▸ mt170)
  have do1_o187 : o1 ≠ o187 := fun h => hno187 (h ▸ mt171)
  have db6_o187 : b6 ≠ o187 := fun h => hno187 (h ▸ mt172)
  have db7_o187 : b7 ≠ o187 := fun h => hno187 (h ▸ mt173)
  have db8_o187 : b8 ≠ o187 := fun h => hno187 (h ▸ mt174)
  have db17_o187 : b17 ≠ o187 := fun h => hno187 (h ▸ mt175)
  have do52_o187 : o52 ≠ o187 := fun h => hno187 (h ▸ mt176)
  have db62_o187 : b62 ≠ o187 := fun h => hno187 (h ▸ mt177)
  have db63_o187 : b63 ≠ o187 := fun h => hno187 (h ▸ mt178)
  have db64_o187 : b64 ≠ o187 := fun h => hno187 (h ▸ mt179)
  have db65_o187 : b65 ≠ o187 := fun h => hno187 (h ▸ mt180)
  have do85_o187 : o85 ≠ o187 := fun h => hno187 (h ▸ mt181)
  have db100_o187 : b100 ≠ o187 := fun h => hno187 (h ▸ mt182)
  have db101_o187 : b101 ≠ o187 := fun h => hno187 (h ▸ mt183)
  have db102_o187 : b102 ≠ o187 := fun h => hno187 (h ▸ mt184)
  have db103_o187 : b103 ≠ o187 := fun h => hno187 (h ▸ mt185)
  have db133_o187 : b133 ≠ o187 := fun h => hno187 (h ▸ mt186)
  have mt189 : a ∈ u188.1 := (fun x hx => by rw [hu188]; exact List.mem_append_left _ hx : ∀ x, x ∈ u169.1 → x ∈ u188.1) a mt170
  have et189 : u188.2 a = .inr (10, [.ref o1, .ref b17, .int (zI 0), .int (zI 5), .int (zI 20), .ref o52, .ref o85, .ref b133, .int (zI 0), .null, .null, .null, .null, .null]) := (hpu188 a mt170).trans hEu169
  have mt190 : o1 ∈ u188.1 := (fun x hx => by rw [hu188]; exact List.mem_append_left _ hx : ∀ x, x ∈ u169.1 → x ∈ u188.1) o1 mt171
  have et190 : u188.2 o1 = .inr (7, [.ref b6, .int (zI 0), .ref b7, .ref b8]) := (hpu188 o1 mt171).trans et171
  have mt191 : b6 ∈ u188.1 := (fun x hx => by rw [hu188]; exact List.mem_append_left _ hx : ∀ x, x ∈ u169.1 → x ∈ u188.1) b6 mt172
  have et191 : u188.2 b6 = .inl (cy 2, 288, .inl (fun _ => zI 0)) := (hpu188 b6 mt172).trans et172
  have mt192 : b7 ∈ u188.1 := (fun x hx => by rw [hu188]; exact List.mem_append_left _ hx : ∀ x, x ∈ u169.1 → x ∈ u188.1) b7 mt173
  have et192 : u188.2 b7 = .inl (cy 0, 36, .inl (fun _ => zI 0)) := (hpu188 b7 mt173).trans et173
  have mt193 : b8 ∈ u188.1 := (fun x hx => by rw [hu188]; exact List.mem_append_left _ hx : ∀ x, x ∈ u169.1 → x ∈ u188.1) b8 mt174
  have et193 : u188.2 b8 = .inl (cy 0, 36, .inl (fun _ => zI 0)) := (hpu188 b8 mt174).trans et174
  have mt194 : b17 ∈ u188.1 := (fun x hx => by rw [hu188]; exact List.mem_append_left _ hx : ∀ x, x ∈ u169.1 → x ∈ u188.1) b17 mt175
  have et194 : u188.2 b17 = .inl (cy 4, 10, .inr (.inr (.inr (.inr (fun _ => none))))) := (hpu188 b17 mt175).trans et175
  have mt195 : o52 ∈ u188.1 := (fun x hx => by rw [hu188]; exact List.mem_append_left _ hx : ∀ x, x ∈ u169.1 → x ∈ u188.1) o52 mt176
  have et195 : u188.2 o52 = .inr (8, [.int (zI 0), .int (zI 0), .int (zI 0), .ref b62, .ref b63, .ref b64, .ref b65, .int (zI 0), .int (zI 0)]) := (hpu188 o52 mt176).trans et176
  have mt196 : b62 ∈ u188.1 := (fun x hx => by rw [hu188]; exact List.mem_append_left _ hx : ∀ x, x ∈ u169.1 → x ∈ u188.1) b62 mt177
  have et196 : u188.2 b62 = .inl (cy 0, 101, .inl (fun _ => zI 0)) := (hpu188 b62 mt177).trans et177
  have mt197 : b63 ∈ u188.1 := (fun x hx => by rw [hu188]; exact List.mem_append_left _ hx : ∀ x, x ∈ u169.1 → x ∈ u188.1) b63 mt178
  have et197 : u188.2 b63 = .inl (cy 0, 101, .inl (fun _ => zI 0)) := (hpu188 b63 mt178).trans et178
  have mt198 : b64 ∈ u188.1 := (fun x hx => by rw [hu188]; exact List.mem_append_left _ hx : ∀ x, x ∈ u169.1 → x ∈ u188.1) b64 mt179
  have et198 : u188.2 b64 = .inl (cy 0, 100, .inl (fun _ => zI 0)) := (hpu188 b64 mt179).trans et179
  have mt199 : b65 ∈ u188.1 := (fun x hx => by rw [hu188]; exact List.mem_append_left _ hx : ∀ x, x ∈ u169.1 → x ∈ u188.1) b65 mt180
  have et199 : u188.2 b65 = .inl (cy 0, 101, .inl (fun _ => zI 0)) := (hpu188 b65 mt180).trans et180
  have mt200 : o85 ∈ u188.1 := (fun x hx => by rw [hu188]; exact List.mem_append_left _ hx : ∀ x, x ∈ u169.1 → x ∈ u188.1) o85 mt181
  have et200 : u188.2 o85 = .inr (8, [.int (zI 0), .int (zI 0), .int (zI 0), .ref b100, .ref b101, .ref b102, .ref b103, .int (zI 0), .int (zI 0)]) := (hpu188 o85 mt181).trans et181
  have mt201 : b100 ∈ u188.1 := (fun x hx => by rw [hu188]; exact List.mem_append_left _ hx : ∀ x, x ∈ u169.1 → x ∈ u188.1) b100 mt182
  have et201 : u188.2 b100 = .inl (cy 0, 101, .inl (fun _ => zI 0)) := (hpu188 b100 mt182).trans et182
  have mt202 : b101 ∈ u188.1 := (fun x hx => by rw [hu188]; exact List.mem_append_left _ hx : ∀ x, x ∈ u169.1 → x ∈ u188.1) b101 mt183
  have et202 : u188.2 b101 = .inl (cy 0, 101, .inl (fun _ => zI 0)) := (hpu188 b101 mt183).trans et183
  have mt203 : b102 ∈ u188.1 := (fun x hx => by rw [hu188]; exact List.mem_append_left _ hx : ∀ x, x ∈ u169.1 → x ∈ u188.1) b102 mt184
  have et203 : u188.2 b102 = .inl (cy 0, 100, .inl (fun _ => zI 0)) := (hpu188 b102 mt184).trans et184
  have mt204 : b103 ∈ u188.1 := (fun x hx => by rw [hu188]; exact List.mem_append_left _ hx : ∀ x, x ∈ u169.1 → x ∈ u188.1) b103 mt185
  have et204 : u188.2 b103 = .inl (cy 0, 101, .inl (fun _ => zI 0)) := (hpu188 b103 mt185).trans et185
  have mt205 : b133 ∈ u188.1 := (fun x hx => by rw [hu188]; exact List.mem_append_left _ hx : ∀ x, x ∈ u169.1 → x ∈ u188.1) b133 mt186
  have et205 : u188.2 b133 = .inl (cy 5, 8, .inr (.inr (.inr (.inr (fun _ => none))))) := (hpu188 b133 mt186).trans et186
  have mo187 : o187 ∈ u188.1 := by rw [hu188]; exact List.mem_append_right _ List.mem_cons_self
  refine lv_dup hx hb dX11_init_80 rfl ?_
  refine z_bipush hx hb dX11_init_81 (by decide) ?_
  refine p_callv (va_runI (As := [.int (zI 60)]) (rest := [.ref o187, .ref a]) ⟨hx, hb, hml, hown, hts⟩ (kX10_init l D cy A u188 o187 60 mo187 hEo187 (by omega)) (cwI 1 hts gX11_init_X10_init rfl rfl rfl (hts (.initialized RX10) (List.mem_cons_of_mem _ (List.mem_append_left _ (List.mem_append_left _ (List.mem_append_left _ (List.mem_append_left _ (List.mem_append_left _ (List.mem_append_left _ (List.mem_of_getElem? (i := 22) rfl))))))))) (hts (.methodLink RX11 53 yX10_init) (List.mem_cons_of_mem _ (List.mem_append_left _ (List.mem_append_left _ (List.mem_append_left _ (List.mem_append_left _ (List.mem_append_left _ (List.mem_append_right _ (List.mem_append_right _ (List.mem_of_getElem? (i := 5) rfl)))))))))) (hts (.instanceMethod yX10_init) (List.mem_cons_of_mem _ (List.mem_append_left _ (List.mem_append_left _ (List.mem_append_left _ (List.mem_append_left _ (List.mem_append_left _ (List.mem_append_right _ (List.mem_append_right _ (List.mem_of_getElem? (i := 6) rfl)))))))))) rfl (by decide +kernel) ⟨by decide, by decide⟩) (p_preS hG hI hS) rfl rfl hl.1 rfl (lv_room (Nat.le_of_ble_eq_true rfl)) dX11_init_83 ⟨Nat.le_of_ble_eq_true rfl, Nat.le_of_ble_eq_true rfl⟩) hS (fun u206 H locs p_207 hG hS => ?_)
  obtain ⟨b208, hu206, hnb208, ⟨hEou206, hEb208⟩, hpu206⟩ := p_207
  have da_b208 : a ≠ b208 := fun h => hnb208 (h ▸ mt189)
  have do1_b208 : o1 ≠ b208 := fun h => hnb208 (h ▸ mt190)
  have db6_b208 : b6 ≠ b208 := fun h => hnb208 (h ▸ mt191)
  have db7_b208 : b7 ≠ b208 := fun h => hnb208 (h ▸ mt192)
  have db8_b208 : b8 ≠ b208 := fun h => hnb208 (h ▸ mt193)
  have db17_b208 : b17 ≠ b208 := fun h => hnb208 (h ▸ mt194)
  have do52_b208 : o52 ≠ b208 := fun h => hnb208 (h ▸ mt195)
  have db62_b208 : b62 ≠ b208 := fun h => hnb208 (h ▸ mt196)
  have db63_b208 : b63 ≠ b208 := fun h => hnb208 (h ▸ mt197)
  have db64_b208 : b64 ≠ b208 := fun h => hnb208 (h ▸ mt198)
  have db65_b208 : b65 ≠ b208 := fun h => hnb208 (h ▸ mt199)
  have do85_b208 : o85 ≠ b208 := fun h => hnb208 (h ▸ mt200)
  have db100_b208 : b100 ≠ b208 := fun h => hnb208 (h ▸ mt201)
  have db101_b208 : b101 ≠ b208 := fun h => hnb208 (h ▸ mt202)
  have db102_b208 : b102 ≠ b208 := fun h => hnb208 (h ▸ mt203)
  have db103_b208 : b103 ≠ b208 := fun h => hnb208 (h ▸ mt204)
  have db133_b208 : b133 ≠ b208 := fun h => hnb208 (h ▸ mt205)
  have do187_b208 : o187 ≠ b208 := fun h => hnb208 (h ▸ mo187)
  have fb208 : b208 ∉ (((((((((((((((((u.1 ++ [o1]) ++ [b6]) ++ [b7]) ++ [b8]) ++ [b17]) ++ [o52]) ++ [b62]) ++ [b63]) ++ [b64]) ++ [b65]) ++ [o85]) ++ [b100]) ++ [b101]) ++ [b102]) ++ [b103]) ++ [b133]) ++ [o187]) := by rw [← hLu188]; exact hnb208
  have hLu206 : u206.1 = ((((((((((((((((((u.1 ++ [o1]) ++ [b6]) ++ [b7]) ++ [b8]) ++ [b17]) ++ [o52]) ++ [b62]) ++ [b63]) ++ [b64]) ++ [b65]) ++ [o85]) ++ [b100]) ++ [b101]) ++ [b102]) ++ [b103]) ++ [b133]) ++ [o187]) ++ [b208]) := by rw [hu206, hLu188]
  have hMu206 : ∀ x, x ∈ u.1 → x ∈ u206.1 := fun x hx => by rw [hu206]; exact (List.mem_append_left _ (hMu188 x hx))
  have hOu206 : ∀ x, x ∈ u.1 → x ≠ a → u206.2 x = u.2 x := fun x hx ne => (hpu206 x (hMu188 x hx) (fun h => fo187 (h ▸ (List.mem_append_left _ (List.mem_append_left _ (List.mem_append_left _ (List.mem_append_left _ (List.mem_append_left _ (List.mem_append_left _ (List.mem_append_left _ (List.mem_append_left _ (List.mem_append_left _ (List.mem_append_left _ (List.mem_append_left _ (List.mem_append_left _ (List.mem_append_left _ (List.mem_append_left _ (List.mem_append_left _ (List.mem_append_left _ hx))))))))))))))))))).trans (hOu188 x hx ne)
  have mt209 : a ∈ u206.1 := (fun x hx => by rw [hu206]; exact (List.mem_append_left _ hx) : ∀ x, x ∈ u188.1 → x ∈ u206.1) a mt189
  have et209 : u206.2 a = .inr (10, [.ref o1, .ref b17, .int (zI 0), .int (zI 5), .int (zI 20), .ref o52, .ref o85, .ref b133, .int (zI 0), .null, .null, .null, .null, .null]) := (hpu206 a mt189 da_o187).trans et189
  have mt210 : o1 ∈ u206.1 := (fun x hx => by rw [hu206]; exact (List.mem_append_left _ hx) : ∀ x, x ∈ u188.1 → x ∈ u206.1) o1 mt190
  have et210 : u206.2 o1 = .inr (7, [.ref b6, .int (zI 0), .ref b7, .ref b8]) := (hpu206 o1 mt190 do1_o187).trans et190
  have mt211 : b6 ∈ u206.1 := (fun x hx => by rw [hu206]; exact (List.mem_append_left _ hx) : ∀ x, x ∈ u188.1 → x ∈ u206.1) b6 mt191
  have et211 : u206.2 b6 = .inl (cy 2, 288, .inl (fun _ => zI 0)) := (hpu206 b6 mt191 db6_o187).trans et191
  have mt212 : b7 ∈ u206.1 := (fun x hx => by rw [hu206]; exact (List.mem_append_left _ hx) : ∀ x, x ∈ u188.1 → x ∈ u206.1) b7 mt192
  have et212 : u206.2 b7 = .inl (cy 0, 36, .inl (fun _ => zI 0)) := (hpu206 b7 mt192 db7_o187).trans et192
  have mt213 : b8 ∈ u206.1 := (fun x hx => by rw [hu206]; exact (List.mem_append_left _ hx) : ∀ x, x ∈ u188.1 → x ∈ u206.1) b8 mt193
  have et213 : u206.2 b8 = .inl (cy 0, 36, .inl (fun _ => zI 0)) := (hpu206 b8 mt193 db8_o187).trans et193
  have mt214 : b17 ∈ u206.1 := (fun x hx => by rw [hu206]; exact (List.mem_append_left _ hx) : ∀ x, x ∈ u188.1 → x ∈ u206.1) b17 mt194
  have et214 : u206.2 b17 = .inl (cy 4, 10, .inr (.inr (.inr (.inr (fun _ => none))))) := (hpu206 b17 mt194 db17_o187).trans et194
  have mt215 : o52 ∈ u206.1 := (fun x hx => by rw [hu206]; exact (List.mem_append_left _ hx) : ∀ x, x ∈ u188.1 → x ∈ u206.1) o52 mt195
  have et215 : u206.2 o52 = .inr (8, [.int (zI 0), .int (zI 0), .int (zI 0), .ref b62, .ref b63, .ref b64, .ref b65, .int (zI 0), .int (zI 0)]) := (hpu206 o52 mt195 do52_o187).trans et195
  have mt216 : b62 ∈ u206.1 := (fun x hx => by rw [hu206]; exact (List.mem_append_left _ hx) : ∀ x, x ∈ u188.1 → x ∈ u206.1) b62 mt196
  have et216 : u206.2 b62 = .inl (cy 0, 101, .inl (fun _ => zI 0)) := (hpu206 b62 mt196 db62_o187).trans et196
  have mt217 : b63 ∈ u206.1 := (fun x hx => by rw [hu206]; exact (List.mem_append_left _ hx) : ∀ x, x ∈ u188.1 → x ∈ u206.1) b63 mt197
  have et217 : u206.2 b63 = .inl (cy 0, 101, .inl (fun _ => zI 0)) := (hpu206 b63 mt197 db63_o187).trans et197
  have mt218 : b64 ∈ u206.1 := (fun x hx => by rw [hu206]; exact (List.mem_append_left _ hx) : ∀ x, x ∈ u188.1 → x ∈ u206.1) b64 mt198
  have et218 : u206.2 b64 = .inl (cy 0, 100, .inl (fun _ => zI 0)) := (hpu206 b64 mt198 db64_o187).trans et198
  have mt219 : b65 ∈ u206.1 := (fun x hx => by rw [hu206]; exact (List.mem_append_left _ hx) : ∀ x, x ∈ u188.1 → x ∈ u206.1) b65 mt199
  have et219 : u206.2 b65 = .inl (cy 0, 101, .inl (fun _ => zI 0)) := (hpu206 b65 mt199 db65_o187).trans et199
  have mt220 : o85 ∈ u206.1 := (fun x hx => by rw [hu206]; exact (List.mem_append_left _ hx) : ∀ x, x ∈ u188.1 → x ∈ u206.1) o85 mt200
  have et220 : u206.2 o85 = .inr (8, [.int (zI 0), .int (zI 0), .int (zI 0), .ref b100, .ref b101, .ref b102, .ref b103, .int (zI 0), .int (zI 0)]) := (hpu206 o85 mt200 do85_o187).trans et200
  have mt221 : b100 ∈ u206.1 := (fun x hx => by rw [hu206]; exact (List.mem_append_left _ hx) : ∀ x, x ∈ u188.1 → x ∈ u206.1) b100 mt201
  have et221 : u206.2 b100 = .inl (cy 0, 101, .inl (fun _ => zI 0)) := (hpu206 b100 mt201 db100_o187).trans et201
  have mt222 : b101 ∈ u206.1 := (fun x hx => by rw [hu206]; exact (List.mem_append_left _ hx) : ∀ x, x ∈ u188.1 → x ∈ u206.1) b101 mt202
  have et222 : u206.2 b101 = .inl (cy 0, 101, .inl (fun _ => zI 0)) := (hpu206 b101 mt202 db101_o187).trans et202
  have mt223 : b102 ∈ u206.1 := (fun x hx => by rw [hu206]; exact (List.mem_append_left _ hx) : ∀ x, x ∈ u188.1 → x ∈ u206.1) b102 mt203
  have et223 : u206.2 b102 = .inl (cy 0, 100, .inl (fun _ => zI 0)) := (hpu206 b102 mt203 db102_o187).trans et203
  have mt224 : b103 ∈ u206.1 := (fun x hx => by rw [hu206]; exact (List.mem_append_left _ hx) : ∀ x, x ∈ u188.1 → x ∈ u206.1) b103 mt204
  have et224 : u206.2 b103 = .inl (cy 0, 101, .inl (fun _ => zI 0)) := (hpu206 b103 mt204 db103_o187).trans et204
  have mt225 : b133 ∈ u206.1 := (fun x hx => by rw [hu206]; exact (List.mem_append_left _ hx) : ∀ x, x ∈ u188.1 → x ∈ u206.1) b133 mt205
  have et225 : u206.2 b133 = .inl (cy 5, 8, .inr (.inr (.inr (.inr (fun _ => none))))) := (hpu206 b133 mt205 db133_o187).trans et205
  have mt226 : o187 ∈ u206.1 := (fun x hx => by rw [hu206]; exact (List.mem_append_left _ hx) : ∀ x, x ∈ u188.1 → x ∈ u206.1) o187 mo187
  have mb208 : b208 ∈ u206.1 := by rw [hu206]; exact (List.mem_append_right _ List.mem_cons_self)
  obtain ⟨k9, hk9⟩ := p_get D u206 mt209
  refine va_putF (C := RX11) (T := TX11) (N := 14) (ci := 10) (ty := tyX11 9) hx hb hts (fun _ h => (List.mem_cons_of_mem _ (List.mem_append_left _ (List.mem_append_left _ (List.mem_append_left _ (List.mem_append_right _ h)))))) tyX11 tyX11_ok nmX11 hown hI.1 hG.1 hG.2 hS k9 (hk9.trans (by rw [et209])) rfl 9 (by decide) (hts (.fieldLink RX11 56 "StraitSwim" "counts" "LStraitSwim$Tally;") (List.mem_cons_of_mem _ (List.mem_append_left _ (List.mem_append_left _ (List.mem_append_left _ (List.mem_append_left _ (List.mem_append_left _ (List.mem_append_left _ (List.mem_of_getElem? (i := 23) rfl))))))))) (fun _ h9 => h9) rfl hin2 rfl (tyX11_ok 9 (by decide)) rfl rfl (Nat.le_of_ble_eq_true rfl) dX11_init_86 (fun H locs hP hD hS => ?_)
  obtain ⟨u227, hu227, hEu227, hpu227, hG⟩ := p_set (e := .inr (10, [.ref o1, .ref b17, .int (zI 0), .int (zI 5), .int (zI 20), .ref o52, .ref o85, .ref b133, .int (zI 0), .ref o187, .null, .null, .null, .null])) hG mt209 hk9 hP hD
  have mt228 : a ∈ u227.1 := (fun x hx => by rw [hu227]; exact hx : ∀ x, x ∈ u206.1 → x ∈ u227.1) a mt209
  have mt229 : o1 ∈ u227.1 := (fun x hx => by rw [hu227]; exact hx : ∀ x, x ∈ u206.1 → x ∈ u227.1) o1 mt210
  have et229 : u227.2 o1 = .inr (7, [.ref b6, .int (zI 0), .ref b7, .ref b8]) := (hpu227 o1 (fun h => (fun h9 => da_o1 h9.symm) h)).trans et210
  have mt230 : b6 ∈ u227.1 := (fun x hx => by rw [hu227]; exact hx : ∀ x, x ∈ u206.1 → x ∈ u227.1) b6 mt211
  have et230 : u227.2 b6 = .inl (cy 2, 288, .inl (fun _ => zI 0)) := (hpu227 b6 (fun h => (fun h9 => da_b6 h9.symm) h)).trans et211
  have mt231 : b7 ∈ u227.1 := (fun x hx => by rw [hu227]; exact hx : ∀ x, x ∈ u206.1 → x ∈ u227.1) b7 mt212
  have et231 : u227.2 b7 = .inl (cy 0, 36, .inl (fun _ => zI 0)) := (hpu227 b7 (fun h => (fun h9 => da_b7 h9.symm) h)).trans et212
  have mt232 : b8 ∈ u227.1 := (fun x hx => by rw [hu227]; exact hx : ∀ x, x ∈ u206.1 → x ∈ u227.1) b8 mt213
  have et232 : u227.2 b8 = .inl (cy 0, 36, .inl (fun _ => zI 0)) := (hpu227 b8 (fun h => (fun h9 => da_b8 h9.symm) h)).trans et213
  have mt233 : b17 ∈ u227.1 := (fun x hx => by rw [hu227]; exact hx : ∀ x, x ∈ u206.1 → x ∈ u227.1) b17 mt214
  have et233 : u227.2 b17 = .inl (cy 4, 10, .inr (.inr (.inr (.inr (fun _ => none))))) := (hpu227 b17 (fun h => (fun h9 => da_b17 h9.symm) h)).trans et214
  have mt234 : o52 ∈ u227.1 := (fun x hx => by rw [hu227]; exact hx : ∀ x, x ∈ u206.1 → x ∈ u227.1) o52 mt215
  have et234 : u227.2 o52 = .inr (8, [.int (zI 0), .int (zI 0), .int (zI 0), .ref b62, .ref b63, .ref b64, .ref b65, .int (zI 0), .int (zI 0)]) := (hpu227 o52 (fun h => (fun h9 => da_o52 h9.symm) h)).trans et215
  have mt235 : b62 ∈ u227.1 := (fun x hx => by rw [hu227]; exact hx : ∀ x, x ∈ u206.1 → x ∈ u227.1) b62 mt216
  have et235 : u227.2 b62 = .inl (cy 0, 101, .inl (fun _ => zI 0)) := (hpu227 b62 (fun h => (fun h9 => da_b62 h9.symm) h)).trans et216
  have mt236 : b63 ∈ u227.1 := (fun x hx => by rw [hu227]; exact hx : ∀ x, x ∈ u206.1 → x ∈ u227.1) b63 mt217
  have et236 : u227.2 b63 = .inl (cy 0, 101, .inl (fun _ => zI 0)) := (hpu227 b63 (fun h => (fun h9 => da_b63 h9.symm) h)).trans et217
  have mt237 : b64 ∈ u227.1 := (fun x hx => by rw [hu227]; exact hx : ∀ x, x ∈ u206.1 → x ∈ u227.1) b64 mt218
  have et237 : u227.2 b64 = .inl (cy 0, 100, .inl (fun _ => zI 0)) := (hpu227 b64 (fun h => (fun h9 => da_b64 h9.symm) h)).trans et218
  have mt238 : b65 ∈ u227.1 := (fun x hx => by rw [hu227]; exact hx : ∀ x, x ∈ u206.1 → x ∈ u227.1) b65 mt219
  have et238 : u227.2 b65 = .inl (cy 0, 101, .inl (fun _ => zI 0)) := (hpu227 b65 (fun h => (fun h9 => da_b65 h9.symm) h)).trans et219
  have mt239 : o85 ∈ u227.1 := (fun x hx => by rw [hu227]; exact hx : ∀ x, x ∈ u206.1 → x ∈ u227.1) o85 mt220
  have et239 : u227.2 o85 = .inr (8, [.int (zI 0), .int (zI 0), .int (zI 0), .ref b100, .ref b101, .ref b102, .ref b103, .int (zI 0), .int (zI 0)]) := (hpu227 o85 (fun h => (fun h9 => da_o85 h9.symm) h)).trans et220
  have mt240 : b100 ∈ u227.1 := (fun x hx => by rw [hu227]; exact hx : ∀ x, x ∈ u206.1 → x ∈ u227.1) b100 mt221
  have et240 : u227.2 b100 = .inl (cy 0, 101, .inl (fun _ => zI 0)) := (hpu227 b100 (fun h => (fun h9 => da_b100 h9.symm) h)).trans et221
  have mt241 : b101 ∈ u227.1 := (fun x hx => by rw [hu227]; exact hx : ∀ x, x ∈ u206.1 → x ∈ u227.1) b101 mt222
  have et241 : u227.2 b101 = .inl (cy 0, 101, .inl (fun _ => zI 0)) := (hpu227 b101 (fun h => (fun h9 => da_b101 h9.symm) h)).trans et222
  have mt242 : b102 ∈ u227.1 := (fun x hx => by rw [hu227]; exact hx : ∀ x, x ∈ u206.1 → x ∈ u227.1) b102 mt223
  have et242 : u227.2 b102 = .inl (cy 0, 100, .inl (fun _ => zI 0)) := (hpu227 b102 (fun h => (fun h9 => da_b102 h9.symm) h)).trans et223
  have mt243 : b103 ∈ u227.1 := (fun x hx => by rw [hu227]; exact hx : ∀ x, x ∈ u206.1 → x ∈ u227.1) b103 mt224
  have et243 : u227.2 b103 = .inl (cy 0, 101, .inl (fun _ => zI 0)) := (hpu227 b103 (fun h => (fun h9 => da_b103 h9.symm) h)).trans et224
  have mt244 : b133 ∈ u227.1 := (fun x hx => by rw [hu227]; exact hx : ∀ x, x ∈ u206.1 → x ∈ u227.1) b133 mt225
  have et244 : u227.2 b133 = .inl (cy 5, 8, .inr (.inr (.inr (.inr (fun _ => none))))) := (hpu227 b133 (fun h => (fun h9 => da_b133 h9.symm) h)).trans et225
  have mt245 : o187 ∈ u227.1 := (fun x hx => by rw [hu227]; exact hx : ∀ x, x ∈ u206.1 → x ∈ u227.1) o187 mt226
  have et245 : u227.2 o187 = .inr (9, [.ref b208, .int (zI 0)]) := (hpu227 o187 (fun h => (fun h9 => da_o187 h9.symm) h)).trans hEou206
  have mt246 : b208 ∈ u227.1 := (fun x hx => by rw [hu227]; exact hx : ∀ x, x ∈ u206.1 → x ∈ u227.1) b208 mb208
  have et246 : u227.2 b208 = .inl (cy 0, 60, .inl (fun _ => zI 0)) := (hpu227 b208 (fun h => (fun h9 => da_b208 h9.symm) h)).trans hEb208
  have hLu227 : u227.1 = ((((((((((((((((((u.1 ++ [o1]) ++ [b6]) ++ [b7]) ++ [b8]) ++ [b17]) ++ [o52]) ++ [b62]) ++ [b63]) ++ [b64]) ++ [b65]) ++ [o85]) ++ [b100]) ++ [b101]) ++ [b102]) ++ [b103]) ++ [b133]) ++ [o187]) ++ [b208]) := by rw [hu227, hLu206]
  have hMu227 : ∀ x, x ∈ u.1 → x ∈ u227.1 := fun x hx => by rw [hu227]; exact hMu206 x hx
  have hOu227 : ∀ x, x ∈ u.1 → x ≠ a → u227.2 x = u.2 x := fun x hx ne => (hpu227 x ne).trans (hOu206 x hx ne)
  refine lv_aload_n hx hb dX11_init_89 rfl (lv_at hl 0 rfl) ?_
  refine va_new (ci := 9) (fs := [.null, .int (zI 0)]) (C := RX10) (T := TX10) (N := 2) hx hb hts (fun _ h => (List.mem_cons_of_mem _ (List.mem_append_left _ (List.mem_append_right _ h)))) tyX10 tyX10_ok hown (hts (.classLink RX11 51 RX10) (List.mem_cons_of_mem _ (List.mem_append_left _ (List.mem_append_left _ (List.mem_append_left _ (List.mem_append_left _ (List.mem_append_left _ (List.mem_append_left _ (List.mem_of_getElem? (i := 20) rfl))))))))) (hts (.instantiable RX10 2) (List.mem_cons_of_mem _ (List.mem_append_left _ (List.mem_append_left _ (List.mem_append_left _ (List.mem_append_left _ (List.mem_append_left _ (List.mem_append_left _ (List.mem_of_getElem? (i := 21) rfl))))))))) (hts (.initialized RX10) (List.mem_cons_of_mem _ (List.mem_append_left _ (List.mem_append_left _ (List.mem_append_left _ (List.mem_append_left _ (List.mem_append_left _ (List.mem_append_left _ (List.mem_of_getElem? (i := 22) rfl))))))))) hI.1 hG.1 hG.2 hS hI.2.1 rfl (fun j hj => by rcases (show j = 0 ∨ j = 1 by omega) with rfl | rfl <;> rfl) (Nat.le_of_ble_eq_true rfl) (Nat.le_of_ble_eq_true rfl) dX11_init_90 (fun o247 H hP hD hS => ?_)
  obtain ⟨u248, hu248, hEo247, hpu248, hno247, hG⟩ := p_push hP hD
  have fo247 : o247 ∉ ((((((((((((((((((u.1 ++ [o1]) ++ [b6]) ++ [b7]) ++ [b8]) ++ [b17]) ++ [o52]) ++ [b62]) ++ [b63]) ++ [b64]) ++ [b65]) ++ [o85]) ++ [b100]) ++ [b101]) ++ [b102]) ++ [b103]) ++ [b133]) ++ [o187]) ++ [b208]) := by rw [← hLu227]; exact hno247
  have hLu248 : u248.1 = (((((((((((((((((((u.1 ++ [o1]) ++ [b6]) ++ [b7]) ++ [b8]) ++ [b17]) ++ [o52]) ++ [b62]) ++ [b63]) ++ [b64]) ++ [b65]) ++ [o85]) ++ [b100]) ++ [b101]) ++ [b102]) ++ [b103]) ++ [b133]) ++ [o187]) ++ [b208]) ++ [o247]) := by rw [hu248, hLu227]
  have hMu248 : ∀ x, x ∈ u.1 → x ∈ u248.1 := fun x hx => by rw [hu248]; exact List.mem_append_left _ (hMu227 x hx)
  have hOu248 : ∀ x, x ∈ u.1 → x ≠ a → u248.2 x = u.2 x := fun x hx ne => (hpu248 x (hMu227 x hx)).trans (hOu227 x hx ne)
  have da_o247 : a ≠ o247 := fun h => hno247 (h ▸ mt228)
  have do1_o247 : o1 ≠ o247 := fun h => hno247 (h ▸ mt229)
  have db6_o247 : b6 ≠ o247 := fun h => hno247 (h ▸ mt230)
  have db7_o247 : b7 ≠ o247 := fun h => hno247 (h ▸ mt231)
  have db8_o247 : b8 ≠ o247 := fun h => hno247 (h ▸ mt232)
  have db17_o247 : b17 ≠ o247 := fun h => hno247 (h ▸ mt233)
  have do52_o247 : o52 ≠ o247 := fun h => hno247 (h ▸ mt234)
  have db62_o247 : b62 ≠ o247 := fun h => hno247 (h ▸ mt235)
  have db63_o247 : b63 ≠ o247 := fun h => hno247 (h ▸ mt236)
  have db64_o247 : b64 ≠ o247 := fun h => hno247 (h ▸ mt237)
  have db65_o247 : b65 ≠ o247 := fun h => hno247 (h ▸ mt238)
  have do85_o247 : o85 ≠ o247 := fun h => hno247 (h ▸ mt239)
  have db100_o247 : b100 ≠ o247 := fun h => hno247 (h ▸ mt240)
  have db101_o247 : b101 ≠ o247 := fun h => hno247 (h ▸ mt241)
  have db102_o247 : b102 ≠ o247 := fun h => hno247 (h ▸ mt242)
  have db103_o247 : b103 ≠ o247 := fun h => hno247 (h ▸ mt243)
  have db133_o247 : b133 ≠ o247 := fun h => hno247 (h ▸ mt244)
  have do187_o247 : o187 ≠ o247 := fun h => hno247 (h ▸ mt245)
  have db208_o247 : b208 ≠ o247 := fun h => hno247 (h ▸ mt246)
  have mt249 : a ∈ u248.1 := (fun x hx => by rw [hu248]; exact List.mem_append_left _ hx : ∀ x, x ∈ u227.1 → x ∈ u248.1) a mt228
  have et249 : u248.2 a = .inr (10, [.ref o1, .ref b17, .int (zI 0), .int (zI 5), .int (zI 20), .ref o52, .ref o85, .ref b133, .int (zI 0), .ref o187, .null, .null, .null, .null]) := (hpu248 a mt228).trans hEu227
  have mt250 : o1 ∈ u248.1 := (fun x hx => by rw [hu248]; exact List.mem_append_left _ hx : ∀ x, x ∈ u227.1 → x ∈ u248.1) o1 mt229
  have et250 : u248.2 o1 = .inr (7, [.ref b6, .int (zI 0), .ref b7, .ref b8]) := (hpu248 o1 mt229).trans et229
  have mt251 : b6 ∈ u248.1 := (fun x hx => by rw [hu248]; exact List.mem_append_left _ hx : ∀ x, x ∈ u227.1 → x ∈ u248.1) b6 mt230
  have et251 : u248.2 b6 = .inl (cy 2, 288, .inl (fun _ => zI 0)) := (hpu248 b6 mt230).trans et230
  have mt252 : b7 ∈ u248.1 := (fun x hx => by rw [hu248]; exact List.mem_append_left _ hx : ∀ x, x ∈ u227.1 → x ∈ u248.1) b7 mt231
  have et252 : u248.2 b7 = .inl (cy 0, 36, .inl (fun _ => zI 0)) := (hpu248 b7 mt231).trans et231
  have mt253 : b8 ∈ u248.1 := (fun x hx => by rw [hu248]; exact List.mem_append_left _ hx : ∀ x, x ∈ u227.1 → x ∈ u248.1) b8 mt232
  have et253 : u248.2 b8 = .inl (cy 0, 36, .inl (fun _ => zI 0)) := (hpu248 b8 mt232).trans et232
  have mt254 : b17 ∈ u248.1 := (fun x hx => by rw [hu248]; exact List.mem_append_left _ hx : ∀ x, x ∈ u227.1 → x ∈ u248.1) b17 mt233
  have et254 : u248.2 b17 = .inl (cy 4, 10, .inr (.inr (.inr (.inr (fun _ => none))))) := (hpu248 b17 mt233).trans et233
  have mt255 : o52 ∈ u248.1 := (fun x hx => by rw [hu248]; exact List.mem_append_left _ hx : ∀ x, x ∈ u227.1 → x ∈ u248.1) o52 mt234
  have et255 : u248.2 o52 = .inr (8, [.int (zI 0), .int (zI 0), .int (zI 0), .ref b62, .ref b63, .ref b64, .ref b65, .int (zI 0), .int (zI 0)]) := (hpu248 o52 mt234).trans et234
  have mt256 : b62 ∈ u248.1 := (fun x hx => by rw [hu248]; exact List.mem_append_left _ hx : ∀ x, x ∈ u227.1 → x ∈ u248.1) b62 mt235
  have et256 : u248.2 b62 = .inl (cy 0, 101, .inl (fun _ => zI 0)) := (hpu248 b62 mt235).trans et235
  have mt257 : b63 ∈ u248.1 := (fun x hx => by rw [hu248]; exact List.mem_append_left _ hx : ∀ x, x ∈ u227.1 → x ∈ u248.1) b63 mt236
  have et257 : u248.2 b63 = .inl (cy 0, 101, .inl (fun _ => zI 0)) := (hpu248 b63 mt236).trans et236
  have mt258 : b64 ∈ u248.1 := (fun x hx => by rw [hu248]; exact List.mem_append_left _ hx : ∀ x, x ∈ u227.1 → x ∈ u248.1) b64 mt237
  have et258 : u248.2 b64 = .inl (cy 0, 100, .inl (fun _ => zI 0)) := (hpu248 b64 mt237).trans et237
  have mt259 : b65 ∈ u248.1 := (fun x hx => by rw [hu248]; exact List.mem_append_left _ hx : ∀ x, x ∈ u227.1 → x ∈ u248.1) b65 mt238
  have et259 : u248.2 b65 = .inl (cy 0, 101, .inl (fun _ => zI 0)) := (hpu248 b65 mt238).trans et238
  have mt260 : o85 ∈ u248.1 := (fun x hx => by rw [hu248]; exact List.mem_append_left _ hx : ∀ x, x ∈ u227.1 → x ∈ u248.1) o85 mt239
  have et260 : u248.2 o85 = .inr (8, [.int (zI 0), .int (zI 0), .int (zI 0), .ref b100, .ref b101, .ref b102, .ref b103, .int (zI 0), .int (zI 0)]) := (hpu248 o85 mt239).trans et239
  have mt261 : b100 ∈ u248.1 := (fun x hx => by rw [hu248]; exact List.mem_append_left _ hx : ∀ x, x ∈ u227.1 → x ∈ u248.1) b100 mt240
  have et261 : u248.2 b100 = .inl (cy 0, 101, .inl (fun _ => zI 0)) := (hpu248 b100 mt240).trans et240
  have mt262 : b101 ∈ u248.1 := (fun x hx => by rw [hu248]; exact List.mem_append_left _ hx : ∀ x, x ∈ u227.1 → x ∈ u248.1) b101 mt241
  have et262 : u248.2 b101 = .inl (cy 0, 101, .inl (fun _ => zI 0)) := (hpu248 b101 mt241).trans et241
  have mt263 : b102 ∈ u248.1 := (fun x hx => by rw [hu248]; exact List.mem_append_left _ hx : ∀ x, x ∈ u227.1 → x ∈ u248.1) b102 mt242
  have et263 : u248.2 b102 = .inl (cy 0, 100, .inl (fun _ => zI 0)) := (hpu248 b102 mt242).trans et242
  have mt264 : b103 ∈ u248.1 := (fun x hx => by rw [hu248]; exact List.mem_append_left _ hx : ∀ x, x ∈ u227.1 → x ∈ u248.1) b103 mt243
  have et264 : u248.2 b103 = .inl (cy 0, 101, .inl (fun _ => zI 0)) := (hpu248 b103 mt243).trans et243
  have mt265 : b133 ∈ u248.1 := (fun x hx => by rw [hu248]; exact List.mem_append_left _ hx : ∀ x, x ∈ u227.1 → x ∈ u248.1) b133 mt244
  have et265 : u248.2 b133 = .inl (cy 5, 8, .inr (.inr (.inr (.inr (fun _ => none))))) := (hpu248 b133 mt244).trans et244
  have mt266 : o187 ∈ u248.1 := (fun x hx => by rw [hu248]; exact List.mem_append_left _ hx : ∀ x, x ∈ u227.1 → x ∈ u248.1) o187 mt245
  have et266 : u248.2 o187 = .inr (9, [.ref b208, .int (zI 0)]) := (hpu248 o187 mt245).trans et245
  have mt267 : b208 ∈ u248.1 := (fun x hx => by rw [hu248]; exact List.mem_append_left _ hx : ∀ x, x ∈ u227.1 → x ∈ u248.1) b208 mt246
  have et267 : u248.2 b208 = .inl (cy 0, 60, .inl (fun _ => zI 0)) := (hpu248 b208 mt246).trans et246
  have mo247 : o247 ∈ u248.1 := by rw [hu248]; exact List.mem_append_right _ List.mem_cons_self
  refine lv_dup hx hb dX11_init_93 rfl ?_
  refine z_bipush hx hb dX11_init_94 (by decide) ?_
  refine p_callv (va_runI (As := [.int (zI 6)]) (rest := [.ref o247, .ref a]) ⟨hx, hb, hml, hown, hts⟩ (kX10_init l D cy A u248 o247 6 mo247 hEo247 (by omega)) (cwI 1 hts gX11_init_X10_init rfl rfl rfl (hts (.initialized RX10) (List.mem_cons_of_mem _ (List.mem_append_left _ (List.mem_append_left _ (List.mem_append_left _ (List.mem_append_left _ (List.mem_append_left _ (List.mem_append_left _ (List.mem_of_getElem? (i := 22) rfl))))))))) (hts (.methodLink RX11 53 yX10_init) (List.mem_cons_of_mem _ (List.mem_append_left _ (List.mem_append_left _ (List.mem_append_left _ (List.mem_append_left _ (List.mem_append_left _ (List.mem_append_right _ (List.mem_append_right _ (List.mem_of_getElem? (i := 5) rfl)))))))))) (hts (.instanceMethod yX10_init) (List.mem_cons_of_mem _ (List.mem_append_left _ (List.mem_append_left _ (List.mem_append_left _ (List.mem_append_left _ (List.mem_append_left _ (List.mem_append_right _ (List.mem_append_right _ (List.mem_of_getElem? (i := 6) rfl)))))))))) rfl (by decide +kernel) ⟨by decide, by decide⟩) (p_preS hG hI hS) rfl rfl hl.1 rfl (lv_room (Nat.le_of_ble_eq_true rfl)) dX11_init_96 ⟨Nat.le_of_ble_eq_true rfl, Nat.le_of_ble_eq_true rfl⟩) hS (fun u268 H locs p_269 hG hS => ?_)
  obtain ⟨b270, hu268, hnb270, ⟨hEou268, hEb270⟩, hpu268⟩ := p_269
  have da_b270 : a ≠ b270 := fun h => hnb270 (h ▸ mt249)
  have do1_b270 : o1 ≠ b270 := fun h => hnb270 (h ▸ mt250)
  have db6_b270 : b6 ≠ b270 := fun h => hnb270 (h ▸ mt251)
  have db7_b270 : b7 ≠ b270 := fun h => hnb270 (h ▸ mt252)
  have db8_b270 : b8 ≠ b270 := fun h => hnb270 (h ▸ mt253)
  have db17_b270 : b17 ≠ b270 := fun h => hnb270 (h ▸ mt254)
  have do52_b270 : o52 ≠ b270 := fun h => hnb270 (h ▸ mt255)
  have db62_b270 : b62 ≠ b270 := fun h => hnb270 (h ▸ mt256)
  have db63_b270 : b63 ≠ b270 := fun h => hnb270 (h ▸ mt257)
  have db64_b270 : b64 ≠ b270 := fun h => hnb270 (h ▸ mt258)
  have db65_b270 : b65 ≠ b270 := fun h => hnb270 (h ▸ mt259)
  have do85_b270 : o85 ≠ b270 := fun h => hnb270 (h ▸ mt260)
  have db100_b270 : b100 ≠ b270 := fun h => hnb270 (h ▸ mt261)
  have db101_b270 : b101 ≠ b270 := fun h => hnb270 (h ▸ mt262)
  have db102_b270 : b102 ≠ b270 := fun h => hnb270 (h ▸ mt263)
  have db103_b270 : b103 ≠ b270 := fun h => hnb270 (h ▸ mt264)
  have db133_b270 : b133 ≠ b270 := fun h => hnb270 (h ▸ mt265)
  have do187_b270 : o187 ≠ b270 := fun h => hnb270 (h ▸ mt266)
  have db208_b270 : b208 ≠ b270 := fun h => hnb270 (h ▸ mt267)
  have do247_b270 : o247 ≠ b270 := fun h => hnb270 (h ▸ mo247)
  have fb270 : b270 ∉ (((((((((((((((((((u.1 ++ [o1]) ++ [b6]) ++ [b7]) ++ [b8]) ++ [b17]) ++ [o52]) ++ [b62]) ++ [b63]) ++ [b64]) ++ [b65]) ++ [o85]) ++ [b100]) ++ [b101]) ++ [b102]) ++ [b103]) ++ [b133]) ++ [o187]) ++ [b208]) ++ [o247]) := by rw [← hLu248]; exact hnb270
  have hLu268 : u268.1 = ((((((((((((((((((((u.1 ++ [o1]) ++ [b6]) ++ [b7]) ++ [b8]) ++ [b17]) ++ [o52]) ++ [b62]) ++ [b63]) ++ [b64]) ++ [b65]) ++ [o85]) ++ [b100]) ++ [b101]) ++ [b102]) ++ [b103]) ++ [b133]) ++ [o187]) ++ [b208]) ++ [o247]) ++ [b270]) := by rw [hu268, hLu248]
  have hMu268 : ∀ x, x ∈ u.1 → x ∈ u268.1 := fun x hx => by rw [hu268]; exact (List.mem_append_left _ (hMu248 x hx))
  have hOu268 : ∀ x, x ∈ u.1 → x ≠ a → u268.2 x = u.2 x := fun x hx ne => (hpu268 x (hMu248 x hx) (fun h => fo247 (h ▸ (List.mem_append_left _ (List.mem_append_left _ (List.mem_append_left _ (List.mem_append_left _ (List.mem_append_left _ (List.mem_append_left _ (List.mem_append_left _ (List.mem_append_left _ (List.mem_append_left _ (List.mem_append_left _ (List.mem_append_left _ (List.mem_append_left _ (List.mem_append_left _ (List.mem_append_left _ (List.mem_append_left _ (List.mem_append_left _ (List.mem_append_left _ (List.mem_append_left _ hx))))))))))))))))))))).trans (hOu248 x hx ne)
  have mt271 : a ∈ u268.1 := (fun x hx => by rw [hu268]; exact (List.mem_append_left _ hx) : ∀ x, x ∈ u248.1 → x ∈ u268.1) a mt249
  have et271 : u268.2 a = .inr (10, [.ref o1, .ref b17, .int (zI 0), .int (zI 5), .int (zI 20), .ref o52, .ref o85, .ref b133, .int (zI 0), .ref o187, .null, .null, .null, .null]) := (hpu268 a mt249 da_o247).trans et249
  have mt272 : o1 ∈ u268.1 := (fun x hx => by rw [hu268]; exact (List.mem_append_left _ hx) : ∀ x, x ∈ u248.1 → x ∈ u268.1) o1 mt250
  have et272 : u268.2 o1 = .inr (7, [.ref b6, .int (zI 0), .ref b7, .ref b8]) := (hpu268 o1 mt250 do1_o247).trans et250
  have mt273 : b6 ∈ u268.1 := (fun x hx => by rw [hu268]; exact (List.mem_append_left _ hx) : ∀ x, x ∈ u248.1 → x ∈ u268.1) b6 mt251
  have et273 : u268.2 b6 = .inl (cy 2, 288, .inl (fun _ => zI 0)) := (hpu268 b6 mt251 db6_o247).trans et251
  have mt274 : b7 ∈ u268.1 := (fun x hx => by rw [hu268]; exact (List.mem_append_left _ hx) : ∀ x, x ∈ u248.1 → x ∈ u268.1) b7 mt252
  have et274 : u268.2 b7 = .inl (cy 0, 36, .inl (fun _ => zI 0)) := (hpu268 b7 mt252 db7_o247).trans et252
  have mt275 : b8 ∈ u268.1 := (fun x hx => by rw [hu268]; exact (List.mem_append_left _ hx) : ∀ x, x ∈ u248.1 → x ∈ u268.1) b8 mt253
  have et275 : u268.2 b8 = .inl (cy 0, 36, .inl (fun _ => zI 0)) := (hpu268 b8 mt253 db8_o247).trans et253
  have mt276 : b17 ∈ u268.1 := (fun x hx => by rw [hu268]; exact (List.mem_append_left _ hx) : ∀ x, x ∈ u248.1 → x ∈ u268.1) b17 mt254
  have et276 : u268.2 b17 = .inl (cy 4, 10, .inr (.inr (.inr (.inr (fun _ => none))))) := (hpu268 b17 mt254 db17_o247).trans et254
  have mt277 : o52 ∈ u268.1 := (fun x hx => by rw [hu268]; exact (List.mem_append_left _ hx) : ∀ x, x ∈ u248.1 → x ∈ u268.1) o52 mt255
  have et277 : u268.2 o52 = .inr (8, [.int (zI 0), .int (zI 0), .int (zI 0), .ref b62, .ref b63, .ref b64, .ref b65, .int (zI 0), .int (zI 0)]) := (hpu268 o52 mt255 do52_o247).trans et255
  have mt278 : b62 ∈ u268.1 := (fun x hx => by rw [hu268]; exact (List.mem_append_left _ hx) : ∀ x, x ∈ u248.1 → x ∈ u268.1) b62 mt256
  have et278 : u268.2 b62 = .inl (cy 0, 101, .inl (fun _ => zI 0)) := (hpu268 b62 mt256 db62_o247).trans et256
  have mt279 : b63 ∈ u268.1 := (fun x hx => by rw [hu268]; exact (List.mem_append_left _ hx) : ∀ x, x ∈ u248.1 → x ∈ u268.1) b63 mt257
  have et279 : u268.2 b63 = .inl (cy 0, 101, .inl (fun _ => zI 0)) := (hpu268 b63 mt257 db63_o247).trans et257
  have mt280 : b64 ∈ u268.1 := (fun x hx => by rw [hu268]; exact (List.mem_append_left _ hx) : ∀ x, x ∈ u248.1 → x ∈ u268.1) b64 mt258
  have et280 : u268.2 b64 = .inl (cy 0, 100, .inl (fun _ => zI 0)) := (hpu268 b64 mt258 db64_o247).trans et258
  have mt281 : b65 ∈ u268.1 := (fun x hx => by rw [hu268]; exact (List.mem_append_left _ hx) : ∀ x, x ∈ u248.1 → x ∈ u268.1) b65 mt259
  have et281 : u268.2 b65 = .inl (cy 0, 101, .inl (fun _ => zI 0)) := (hpu268 b65 mt259 db65_o247).trans et259
  have mt282 : o85 ∈ u268.1 := (fun x hx => by rw [hu268]; exact (List.mem_append_left _ hx) : ∀ x, x ∈ u248.1 → x ∈ u268.1) o85 mt260
  have et282 : u268.2 o85 = .inr (8, [.int (zI 0), .int (zI 0), .int (zI 0), .ref b100, .ref b101, .ref b102, .ref b103, .int (zI 0), .int (zI 0)]) := (hpu268 o85 mt260 do85_o247).trans et260
  have mt283 : b100 ∈ u268.1 := (fun x hx => by rw [hu268]; exact (List.mem_append_left _ hx) : ∀ x, x ∈ u248.1 → x ∈ u268.1) b100 mt261
  have et283 : u268.2 b100 = .inl (cy 0, 101, .inl (fun _ => zI 0)) := (hpu268 b100 mt261 db100_o247).trans et261
  have mt284 : b101 ∈ u268.1 := (fun x hx => by rw [hu268]; exact (List.mem_append_left _ hx) : ∀ x, x ∈ u248.1 → x ∈ u268.1) b101 mt262
  have et284 : u268.2 b101 = .inl (cy 0, 101, .inl (fun _ => zI 0)) := (hpu268 b101 mt262 db101_o247).trans et262
  have mt285 : b102 ∈ u268.1 := (fun x hx => by rw [hu268]; exact (List.mem_append_left _ hx) : ∀ x, x ∈ u248.1 → x ∈ u268.1) b102 mt263
  have et285 : u268.2 b102 = .inl (cy 0, 100, .inl (fun _ => zI 0)) := (hpu268 b102 mt263 db102_o247).trans et263
  have mt286 : b103 ∈ u268.1 := (fun x hx => by rw [hu268]; exact (List.mem_append_left _ hx) : ∀ x, x ∈ u248.1 → x ∈ u268.1) b103 mt264
  have et286 : u268.2 b103 = .inl (cy 0, 101, .inl (fun _ => zI 0)) := (hpu268 b103 mt264 db103_o247).trans et264
  have mt287 : b133 ∈ u268.1 := (fun x hx => by rw [hu268]; exact (List.mem_append_left _ hx) : ∀ x, x ∈ u248.1 → x ∈ u268.1) b133 mt265
  have et287 : u268.2 b133 = .inl (cy 5, 8, .inr (.inr (.inr (.inr (fun _ => none))))) := (hpu268 b133 mt265 db133_o247).trans et265
  have mt288 : o187 ∈ u268.1 := (fun x hx => by rw [hu268]; exact (List.mem_append_left _ hx) : ∀ x, x ∈ u248.1 → x ∈ u268.1) o187 mt266
  have et288 : u268.2 o187 = .inr (9, [.ref b208, .int (zI 0)]) := (hpu268 o187 mt266 do187_o247).trans et266
  have mt289 : b208 ∈ u268.1 := (fun x hx => by rw [hu268]; exact (List.mem_append_left _ hx) : ∀ x, x ∈ u248.1 → x ∈ u268.1) b208 mt267
  have et289 : u268.2 b208 = .inl (cy 0, 60, .inl (fun _ => zI 0)) := (hpu268 b208 mt267 db208_o247).trans et267
  have mt290 : o247 ∈ u268.1 := (fun x hx => by rw [hu268]; exact (List.mem_append_left _ hx) : ∀ x, x ∈ u248.1 → x ∈ u268.1) o247 mo247
  have mb270 : b270 ∈ u268.1 := by rw [hu268]; exact (List.mem_append_right _ List.mem_cons_self)
  obtain ⟨k9, hk9⟩ := p_get D u268 mt271
  refine va_putF (C := RX11) (T := TX11) (N := 14) (ci := 10) (ty := tyX11 10) hx hb hts (fun _ h => (List.mem_cons_of_mem _ (List.mem_append_left _ (List.mem_append_left _ (List.mem_append_left _ (List.mem_append_right _ h)))))) tyX11 tyX11_ok nmX11 hown hI.1 hG.1 hG.2 hS k9 (hk9.trans (by rw [et271])) rfl 10 (by decide) (hts (.fieldLink RX11 60 "StraitSwim" "relay" "LStraitSwim$Tally;") (List.mem_cons_of_mem _ (List.mem_append_left _ (List.mem_append_left _ (List.mem_append_left _ (List.mem_append_left _ (List.mem_append_left _ (List.mem_append_right _ (List.mem_append_left _ (List.mem_of_getElem? (i := 0) rfl)))))))))) (fun _ h9 => h9) rfl hin2 rfl (tyX11_ok 10 (by decide)) rfl rfl (Nat.le_of_ble_eq_true rfl) dX11_init_99 (fun H locs hP hD hS => ?_)
  obtain ⟨u291, hu291, hEu291, hpu291, hG⟩ := p_set (e := .inr (10, [.ref o1, .ref b17, .int (zI 0), .int (zI 5), .int (zI 20), .ref o52, .ref o85, .ref b133, .int (zI 0), .ref o187, .ref o247, .null, .null, .null])) hG mt271 hk9 hP hD
  have mt292 : a ∈ u291.1 := (fun x hx => by rw [hu291]; exact hx : ∀ x, x ∈ u268.1 → x ∈ u291.1) a mt271
  have mt293 : o1 ∈ u291.1 := (fun x hx => by rw [hu291]; exact hx : ∀ x, x ∈ u268.1 → x ∈ u291.1) o1 mt272
  have et293 : u291.2 o1 = .inr (7, [.ref b6, .int (zI 0), .ref b7, .ref b8]) := (hpu291 o1 (fun h => (fun h9 => da_o1 h9.symm) h)).trans et272
  have mt294 : b6 ∈ u291.1 := (fun x hx => by rw [hu291]; exact hx : ∀ x, x ∈ u268.1 → x ∈ u291.1) b6 mt273
  have et294 : u291.2 b6 = .inl (cy 2, 288, .inl (fun _ => zI 0)) := (hpu291 b6 (fun h => (fun h9 => da_b6 h9.symm) h)).trans et273
  have mt295 : b7 ∈ u291.1 := (fun x hx => by rw [hu291]; exact hx : ∀ x, x ∈ u268.1 → x ∈ u291.1) b7 mt274
  have et295 : u291.2 b7 = .inl (cy 0, 36, .inl (fun _ => zI 0)) := (hpu291 b7 (fun h => (fun h9 => da_b7 h9.symm) h)).trans et274
  have mt296 : b8 ∈ u291.1 := (fun x hx => by rw [hu291]; exact hx : ∀ x, x ∈ u268.1 → x ∈ u291.1) b8 mt275
  have et296 : u291.2 b8 = .inl (cy 0, 36, .inl (fun _ => zI 0)) := (hpu291 b8 (fun h => (fun h9 => da_b8 h9.symm) h)).trans et275
  have mt297 : b17 ∈ u291.1 := (fun x hx => by rw [hu291]; exact hx : ∀ x, x ∈ u268.1 → x ∈ u291.1) b17 mt276
  have et297 : u291.2 b17 = .inl (cy 4, 10, .inr (.inr (.inr (.inr (fun _ => none))))) := (hpu291 b17 (fun h => (fun h9 => da_b17 h9.symm) h)).trans et276
  have mt298 : o52 ∈ u291.1 := (fun x hx => by rw [hu291]; exact hx : ∀ x, x ∈ u268.1 → x ∈ u291.1) o52 mt277
  have et298 : u291.2 o52 = .inr (8, [.int (zI 0), .int (zI 0), .int (zI 0), .ref b62, .ref b63, .ref b64, .ref b65, .int (zI 0), .int (zI 0)]) := (hpu291 o52 (fun h => (fun h9 => da_o52 h9.symm) h)).trans et277
  have mt299 : b62 ∈ u291.1 := (fun x hx => by rw [hu291]; exact hx : ∀ x, x ∈ u268.1 → x ∈ u291.1) b62 mt278
  have et299 : u291.2 b62 = .inl (cy 0, 101, .inl (fun _ => zI 0)) := (hpu291 b62 (fun h => (fun h9 => da_b62 h9.symm) h)).trans et278
  have mt300 : b63 ∈ u291.1 := (fun x hx => by rw [hu291]; exact hx : ∀ x, x ∈ u268.1 → x ∈ u291.1) b63 mt279
  have et300 : u291.2 b63 = .inl (cy 0, 101, .inl (fun _ => zI 0)) := (hpu291 b63 (fun h => (fun h9 => da_b63 h9.symm) h)).trans et279
  have mt301 : b64 ∈ u291.1 := (fun x hx => by rw [hu291]; exact hx : ∀ x, x ∈ u268.1 → x ∈ u291.1) b64 mt280
  have et301 : u291.2 b64 = .inl (cy 0, 100, .inl (fun _ => zI 0)) := (hpu291 b64 (fun h => (fun h9 => da_b64 h9.symm) h)).trans et280
  have mt302 : b65 ∈ u291.1 := (fun x hx => by rw [hu291]; exact hx : ∀ x, x ∈ u268.1 → x ∈ u291.1) b65 mt281
  have et302 : u291.2 b65 = .inl (cy 0, 101, .inl (fun _ => zI 0)) := (hpu291 b65 (fun h => (fun h9 => da_b65 h9.symm) h)).trans et281
  have mt303 : o85 ∈ u291.1 := (fun x hx => by rw [hu291]; exact hx : ∀ x, x ∈ u268.1 → x ∈ u291.1) o85 mt282
  have et303 : u291.2 o85 = .inr (8, [.int (zI 0), .int (zI 0), .int (zI 0), .ref b100, .ref b101, .ref b102, .ref b103, .int (zI 0), .int (zI 0)]) := (hpu291 o85 (fun h => (fun h9 => da_o85 h9.symm) h)).trans et282
  have mt304 : b100 ∈ u291.1 := (fun x hx => by rw [hu291]; exact hx : ∀ x, x ∈ u268.1 → x ∈ u291.1) b100 mt283
  have et304 : u291.2 b100 = .inl (cy 0, 101, .inl (fun _ => zI 0)) := (hpu291 b100 (fun h => (fun h9 => da_b100 h9.symm) h)).trans et283
  have mt305 : b101 ∈ u291.1 := (fun x hx => by rw [hu291]; exact hx : ∀ x, x ∈ u268.1 → x ∈ u291.1) b101 mt284
  have et305 : u291.2 b101 = .inl (cy 0, 101, .inl (fun _ => zI 0)) := (hpu291 b101 (fun h => (fun h9 => da_b101 h9.symm) h)).trans et284
  have mt306 : b102 ∈ u291.1 := (fun x hx => by rw [hu291]; exact hx : ∀ x, x ∈ u268.1 → x ∈ u291.1) b102 mt285
  have et306 : u291.2 b102 = .inl (cy 0, 100, .inl (fun _ => zI 0)) := (hpu291 b102 (fun h => (fun h9 => da_b102 h9.symm) h)).trans et285
  have mt307 : b103 ∈ u291.1 := (fun x hx => by rw [hu291]; exact hx : ∀ x, x ∈ u268.1 → x ∈ u291.1) b103 mt286
  have et307 : u291.2 b103 = .inl (cy 0, 101, .inl (fun _ => zI 0)) := (hpu291 b103 (fun h => (fun h9 => da_b103 h9.symm) h)).trans et286
  have mt308 : b133 ∈ u291.1 := (fun x hx => by rw [hu291]; exact hx : ∀ x, x ∈ u268.1 → x ∈ u291.1) b133 mt287
  have et308 : u291.2 b133 = .inl (cy 5, 8, .inr (.inr (.inr (.inr (fun _ => none))))) := (hpu291 b133 (fun h => (fun h9 => da_b133 h9.symm) h)).trans et287
  have mt309 : o187 ∈ u291.1 := (fun x hx => by rw [hu291]; exact hx : ∀ x, x ∈ u268.1 → x ∈ u291.1) o187 mt288
  have et309 : u291.2 o187 = .inr (9, [.ref b208, .int (zI 0)]) := (hpu291 o187 (fun h => (fun h9 => da_o187 h9.symm) h)).trans et288
  have mt310 : b208 ∈ u291.1 := (fun x hx => by rw [hu291]; exact hx : ∀ x, x ∈ u268.1 → x ∈ u291.1) b208 mt289
  have et310 : u291.2 b208 = .inl (cy 0, 60, .inl (fun _ => zI 0)) := (hpu291 b208 (fun h => (fun h9 => da_b208 h9.symm) h)).trans et289
  have mt311 : o247 ∈ u291.1 := (fun x hx => by rw [hu291]; exact hx : ∀ x, x ∈ u268.1 → x ∈ u291.1) o247 mt290
  have et311 : u291.2 o247 = .inr (9, [.ref b270, .int (zI 0)]) := (hpu291 o247 (fun h => (fun h9 => da_o247 h9.symm) h)).trans hEou268
  have mt312 : b270 ∈ u291.1 := (fun x hx => by rw [hu291]; exact hx : ∀ x, x ∈ u268.1 → x ∈ u291.1) b270 mb270
  have et312 : u291.2 b270 = .inl (cy 0, 6, .inl (fun _ => zI 0)) := (hpu291 b270 (fun h => (fun h9 => da_b270 h9.symm) h)).trans hEb270
  have hLu291 : u291.1 = ((((((((((((((((((((u.1 ++ [o1]) ++ [b6]) ++ [b7]) ++ [b8]) ++ [b17]) ++ [o52]) ++ [b62]) ++ [b63]) ++ [b64]) ++ [b65]) ++ [o85]) ++ [b100]) ++ [b101]) ++ [b102]) ++ [b103]) ++ [b133]) ++ [o187]) ++ [b208]) ++ [o247]) ++ [b270]) := by rw [hu291, hLu268]
  have hMu291 : ∀ x, x ∈ u.1 → x ∈ u291.1 := fun x hx => by rw [hu291]; exact hMu268 x hx
  have hOu291 : ∀ x, x ∈ u.1 → x ≠ a → u291.2 x = u.2 x := fun x hx ne => (hpu291 x ne).trans (hOu268 x hx ne)
  refine lv_aload_n hx hb dX11_init_102 rfl (lv_at hl 0 rfl) ?_
  refine va_new (ci := 9) (fs := [.null, .int (zI 0)]) (C := RX10) (T := TX10) (N := 2) hx hb hts (fun _ h => (List.mem_cons_of_mem _ (List.mem_append_left _ (List.mem_append_right _ h)))) tyX10 tyX10_ok hown (hts (.classLink RX11 51 RX10) (List.mem_cons_of_mem _ (List.mem_append_left _ (List.mem_append_left _ (List.mem_append_left _ (List.mem_append_left _ (List.mem_append_left _ (List.mem_append_left _ (List.mem_of_getElem? (i := 20) rfl))))))))) (hts (.instantiable RX10 2) (List.mem_cons_of_mem _ (List.mem_append_left _ (List.mem_append_left _ (List.mem_append_left _ (List.mem_append_left _ (List.mem_append_left _ (List.mem_append_left _ (List.mem_of_getElem? (i := 21) rfl))))))))) (hts (.initialized RX10) (List.mem_cons_of_mem _ (List.mem_append_left _ (List.mem_append_left _ (List.mem_append_left _ (List.mem_append_left _ (List.mem_append_left _ (List.mem_append_left _ (List.mem_of_getElem? (i := 22) rfl))))))))) hI.1 hG.1 hG.2 hS hI.2.1 rfl (fun j hj => by rcases (show j = 0 ∨ j = 1 by omega) with rfl | rfl <;> rfl) (Nat.le_of_ble_eq_true rfl) (Nat.le_of_ble_eq_true rfl) dX11_init_103 (fun o313 H hP hD hS => ?_)
  obtain ⟨u314, hu314, hEo313, hpu314, hno313, hG⟩ := p_push hP hD
  have fo313 : o313 ∉ ((((((((((((((((((((u.1 ++ [o1]) ++ [b6]) ++ [b7]) ++ [b8]) ++ [b17]) ++ [o52]) ++ [b62]) ++ [b63]) ++ [b64]) ++ [b65]) ++ [o85]) ++ [b100]) ++ [b101]) ++ [b102]) ++ [b103]) ++ [b133]) ++ [o187]) ++ [b208]) ++ [o247]) ++ [b270]) := by rw [← hLu291]; exact hno313
  have hLu314 : u314.1 = (((((((((((((((((((((u.1 ++ [o1]) ++ [b6]) ++ [b7]) ++ [b8]) ++ [b17]) ++ [o52]) ++ [b62]) ++ [b63]) ++ [b64]) ++ [b65]) ++ [o85]) ++ [b100]) ++ [b101]) ++ [b102]) ++ [b103]) ++ [b133]) ++ [o187]) ++ [b208]) ++ [o247]) ++ [b270]) ++ [o313]) := by rw [hu314, hLu291]
  have hMu314 : ∀ x, x ∈ u.1 → x ∈ u314.1 := fun x hx => by rw [hu314]; exact List.mem_append_left _ (hMu291 x hx)
  have hOu314 : ∀ x, x ∈ u.1 → x ≠ a → u314.2 x = u.2 x := fun x hx ne => (hpu314 x (hMu291 x hx)).trans (hOu291 x hx ne)
  have da_o313 : a ≠ o313 := fun h => hno313 (h ▸ mt292)
  have do1_o313 : o1 ≠ o313 := fun h => hno313 (h ▸ mt293)
  have db6_o313 : b6 ≠ o313 := fun h => hno313 (h ▸ mt294)
  have db7_o313 : b7 ≠ o313 := fun h => hno313 (h ▸ mt295)
  have db8_o313 : b8 ≠ o313 := fun h => hno313 (h ▸ mt296)
  have db17_o313 : b17 ≠ o313 := fun h => hno313 (h ▸ mt297)
  have do52_o313 : o52 ≠ o313 := fun h => hno313 (h ▸ mt298)
  have db62_o313 : b62 ≠ o313 := fun h => hno313 (h ▸ mt299)
  have db63_o313 : b63 ≠ o313 := fun h => hno313 (h ▸ mt300)
  have db64_o313 : b64 ≠ o313 := fun h => hno313 (h ▸ mt301)
  have db65_o313 : b65 ≠ o313 := fun h => hno313 (h ▸ mt302)
  have do85_o313 : o85 ≠ o313 := fun h => hno313 (h ▸ mt303)
  have db100_o313 : b100 ≠ o313 := fun h => hno313 (h ▸ mt304)
  have db101_o313 : b101 ≠ o313 := fun h => hno313 (h ▸ mt305)
  have db102_o313 : b102 ≠ o313 := fun h => hno313 (h ▸ mt306)
  have db103_o313 : b103 ≠ o313 := fun h => hno313 (h ▸ mt307)
  have db133_o313 : b133 ≠ o313 := fun h => hno313 (h ▸ mt308)
  have do187_o313 : o187 ≠ o313 := fun h => hno313 (h ▸ mt309)
  have db208_o313 : b208 ≠ o313 := fun h => hno313 (h ▸ mt310)
  have do247_o313 : o247 ≠ o313 := fun h => hno313 (h ▸ mt311)
  have db270_o313 : b270 ≠ o313 := fun h => hno313 (h ▸ mt312)
  have mt315 : a ∈ u314.1 := (fun x hx => by rw [hu314]; exact List.mem_append_left _ hx : ∀ x, x ∈ u291.1 → x ∈ u314.1) a mt292
  have et315 : u314.2 a = .inr (10, [.ref o1, .ref b17, .int (zI 0), .int (zI 5), .int (zI 20), .ref o52, .ref o85, .ref b133, .int (zI 0), .ref o187, .ref o247, .null, .null, .null]) := (hpu314 a mt292).trans hEu291
  have mt316 : o1 ∈ u314.1 := (fun x hx => by rw [hu314]; exact List.mem_append_left _ hx : ∀ x, x ∈ u291.1 → x ∈ u314.1) o1 mt293
  have et316 : u314.2 o1 = .inr (7, [.ref b6, .int (zI 0), .ref b7, .ref b8]) := (hpu314 o1 mt293).trans et293
  have mt317 : b6 ∈ u314.1 := (fun x hx => by rw [hu314]; exact List.mem_append_left _ hx : ∀ x, x ∈ u291.1 → x ∈ u314.1) b6 mt294
  have et317 : u314.2 b6 = .inl (cy 2, 288, .inl (fun _ => zI 0)) := (hpu314 b6 mt294).trans et294
  have mt318 : b7 ∈ u314.1 := (fun x hx => by rw [hu314]; exact List.mem_append_left _ hx : ∀ x, x ∈ u291.1 → x ∈ u314.1) b7 mt295
  have et318 : u314.2 b7 = .inl (cy 0, 36, .inl (fun _ => zI 0)) := (hpu314 b7 mt295).trans et295
  have mt319 : b8 ∈ u314.1 := (fun x hx => by rw [hu314]; exact List.mem_append_left _ hx : ∀ x, x ∈ u291.1 → x ∈ u314.1) b8 mt296
  have et319 : u314.2 b8 = .inl (cy 0, 36, .inl (fun _ => zI 0)) := (hpu314 b8 mt296).trans et296
  have mt320 : b17 ∈ u314.1 := (fun x hx => by rw [hu314]; exact List.mem_append_left _ hx : ∀ x, x ∈ u291.1 → x ∈ u314.1) b17 mt297
  have et320 : u314.2 b17 = .inl (cy 4, 10, .inr (.inr (.inr (.inr (fun _ => none))))) := (hpu314 b17 mt297).trans et297
  have mt321 : o52 ∈ u314.1 := (fun x hx => by rw [hu314]; exact List.mem_append_left _ hx : ∀ x, x ∈ u291.1 → x ∈ u314.1) o52 mt298
  have et321 : u314.2 o52 = .inr (8, [.int (zI 0), .int (zI 0), .int (zI 0), .ref b62, .ref b63, .ref b64, .ref b65, .int (zI 0), .int (zI 0)]) := (hpu314 o52 mt298).trans et298
  have mt322 : b62 ∈ u314.1 := (fun x hx => by rw [hu314]; exact List.mem_append_left _ hx : ∀ x, x ∈ u291.1 → x ∈ u314.1) b62 mt299
  have et322 : u314.2 b62 = .inl (cy 0, 101, .inl (fun _ => zI 0)) := (hpu314 b62 mt299).trans et299
  have mt323 : b63 ∈ u314.1 := (fun x hx => by rw [hu314]; exact List.mem_append_left _ hx : ∀ x, x ∈ u291.1 → x ∈ u314.1) b63 mt300
  have et323 : u314.2 b63 = .inl (cy 0, 101, .inl (fun _ => zI 0)) := (hpu314 b63 mt300).trans et300
  have mt324 : b64 ∈ u314.1 := (fun x hx => by rw [hu314]; exact List.mem_append_left _ hx : ∀ x, x ∈ u291.1 → x ∈ u314.1) b64 mt301
  have et324 : u314.2 b64 = .inl (cy 0, 100, .inl (fun _ => zI 0)) := (hpu314 b64 mt301).trans et301
  have mt325 : b65 ∈ u314.1 := (fun x hx => by rw [hu314]; exact List.mem_append_left _ hx : ∀ x, x ∈ u291.1 → x ∈ u314.1) b65 mt302
  have et325 : u314.2 b65 = .inl (cy 0, 101, .inl (fun _ => zI 0)) := (hpu314 b65 mt302).trans et302
  have mt326 : o85 ∈ u314.1 := (fun x hx => by rw [hu314]; exact List.mem_append_left _ hx : ∀ x, x ∈ u291.1 → x ∈ u314.1) o85 mt303
  have et326 : u314.2 o85 = .inr (8, [.int (zI 0), .int (zI 0), .int (zI 0), .ref b100, .ref b101, .ref b102, .ref b103, .int (zI 0), .int (zI 0)]) := (hpu314 o85 mt303).trans et303
  have mt327 : b100 ∈ u314.1 := (fun x hx => by rw [hu314]; exact List.mem_append_left _ hx : ∀ x, x ∈ u291.1 → x ∈ u314.1) b100 mt304
  have et327 : u314.2 b100 = .inl (cy 0, 101, .inl (fun _ => zI 0)) := (hpu314 b100 mt304).trans et304
  have mt328 : b101 ∈ u314.1 := (fun x hx => by rw [hu314]; exact List.mem_append_left _ hx : ∀ x, x ∈ u291.1 → x ∈ u314.1) b101 mt305
  have et328 : u314.2 b101 = .inl (cy 0, 101, .inl (fun _ => zI 0)) := (hpu314 b101 mt305).trans et305
  have mt329 : b102 ∈ u314.1 := (fun x hx => by rw [hu314]; exact List.mem_append_left _ hx : ∀ x, x ∈ u291.1 → x ∈ u314.1) b102 mt306
  have et329 : u314.2 b102 = .inl (cy 0, 100, .inl (fun _ => zI 0)) := (hpu314 b102 mt306).trans et306
  have mt330 : b103 ∈ u314.1 := (fun x hx => by rw [hu314]; exact List.mem_append_left _ hx : ∀ x, x ∈ u291.1 → x ∈ u314.1) b103 mt307
  have et330 : u314.2 b103 = .inl (cy 0, 101, .inl (fun _ => zI 0)) := (hpu314 b103 mt307).trans et307
  have mt331 : b133 ∈ u314.1 := (fun x hx => by rw [hu314]; exact List.mem_append_left _ hx : ∀ x, x ∈ u291.1 → x ∈ u314.1) b133 mt308
  have et331 : u314.2 b133 = .inl (cy 5, 8, .inr (.inr (.inr (.inr (fun _ => none))))) := (hpu314 b133 mt308).trans et308
  have mt332 : o187 ∈ u314.1 := (fun x hx => by rw [hu314]; exact List.mem_append_left _ hx : ∀ x, x ∈ u291.1 → x ∈ u314.1) o187 mt309
  have et332 : u314.2 o187 = .inr (9, [.ref b208, .int (zI 0)]) := (hpu314 o187 mt309).trans et309
  have mt333 : b208 ∈ u314.1 := (fun x hx => by rw [hu314]; exact List.mem_append_left _ hx : ∀ x, x ∈ u291.1 → x ∈ u314.1) b208 mt310
  have et333 : u314.2 b208 = .inl (cy 0, 60, .inl (fun _ => zI 0)) := (hpu314 b208 mt310).trans et310
  have mt334 : o247 ∈ u314.1 := (fun x hx => by rw [hu314]; exact List.mem_append_left _ hx : ∀ x, x ∈ u291.1 → x ∈ u314.1) o247 mt311
  have et334 : u314.2 o247 = .inr (9, [.ref b270, .int (zI 0)]) := (hpu314 o247 mt311).trans et311
  have mt335 : b270 ∈ u314.1 := (fun x hx => by rw [hu314]; exact List.mem_append_left _ hx : ∀ x, x ∈ u291.1 → x ∈ u314.1) b270 mt312
  have et335 : u314.2 b270 = .inl (cy 0, 6, .inl (fun _ => zI 0)) := (hpu314 b270 mt312).trans et312
  have mo313 : o313 ∈ u314.1 := by rw [hu314]; exact List.mem_append_right _ List.mem_cons_self
  refine lv_dup hx hb dX11_init_106 rfl ?_
  refine z_bipush hx hb dX11_init_107 (by decide) ?_
  refine p_callv (va_runI (As := [.int (zI 40)]) (rest := [.ref o313, .ref a]) ⟨hx, hb, hml, hown, hts⟩ (kX10_init l D cy A u314 o313 40 mo313 hEo313 (by omega)) (cwI 1 hts gX11_init_X10_init rfl rfl rfl (hts (.initialized RX10) (List.mem_cons_of_mem _ (List.mem_append_left _ (List.mem_append_left _ (List.mem_append_left _ (List.mem_append_left _ (List.mem_append_left _ (List.mem_append_left _ (List.mem_of_getElem? (i := 22) rfl))))))))) (hts (.methodLink RX11 53 yX10_init) (List.mem_cons_of_mem _ (List.mem_append_left _ (List.mem_append_left _ (List.mem_append_left _ (List.mem_append_left _ (List.mem_append_left _ (List.mem_append_right _ (List.mem_append_right _ (List.mem_of_getElem? (i := 5) rfl)))))))))) (hts (.instanceMethod yX10_init) (List.mem_cons_of_mem _ (List.mem_append_left _ (List.mem_append_left _ (List.mem_append_left _ (List.mem_append_left _ (List.mem_append_left _ (List.mem_append_right _ (List.mem_append_right _ (List.mem_of_getElem? (i := 6) rfl)))))))))) rfl (by decide +kernel) ⟨by decide, by decide⟩) (p_preS hG hI hS) rfl rfl hl.1 rfl (lv_room (Nat.le_of_ble_eq_true rfl)) dX11_init_109 ⟨Nat.le_of_ble_eq_true rfl, Nat.le_of_ble_eq_true rfl⟩) hS (fun u336 H locs p_337 hG hS => ?_)
  obtain ⟨b338, hu336, hnb338, ⟨hEou336, hEb338⟩, hpu336⟩ := p_337
  have da_b338 : a ≠ b338 := fun h => hnb338 (h ▸ mt315)
  have do1_b338 : o1 ≠ b338 := fun h => hnb338 (h ▸ mt316)
  have db6_b338 : b6 ≠ b338 := fun h => hnb338 (h ▸ mt317)
  have db7_b338 : b7 ≠ b338 := fun h => hnb338 (h ▸ mt318)
  have db8_b338 : b8 ≠ b338 := fun h => hnb338 (h ▸ mt319)
  have db17_b338 : b17 ≠ b338 := fun h => hnb338 (h ▸ mt320)
  have do52_b338 : o52 ≠ b338 := fun h => hnb338 (h ▸ mt321)
  have db62_b338 : b62 ≠ b338 := fun h => hnb338 (h ▸ mt322)
  have db63_b338 : b63 ≠ b338 := fun h => hnb338 (h ▸ mt323)
  have db64_b338 : b64 ≠ b338 := fun h => hnb338 (h ▸ mt324)
  have db65_b338 : b65 ≠ b338 := fun h => hnb338 (h ▸ mt325)
  have do85_b338 : o85 ≠ b338 := fun h => hnb338 (h ▸ mt326)
  have db100_b338 : b100 ≠ b338 := fun h => hnb338 (h ▸ mt327)
  have db101_b338 : b101 ≠ b338 := fun h => hnb338 (h ▸ mt328)
  have db102_b338 : b102 ≠ b338 := fun h => hnb338 (h ▸ mt329)
  have db103_b338 : b103 ≠ b338 := fun h => hnb338 (h ▸ mt330)
  have db133_b338 : b133 ≠ b338 := fun h => hnb338 (h ▸ mt331)
  have do187_b338 : o187 ≠ b338 := fun h => hnb338 (h ▸ mt332)
  have db208_b338 : b208 ≠ b338 := fun h => hnb338 (h ▸ mt333)
  have do247_b338 : o247 ≠ b338 := fun h => hnb338 (h ▸ mt334)
  have db270_b338 : b270 ≠ b338 := fun h => hnb338 (h ▸ mt335)
  have do313_b338 : o313 ≠ b338 := fun h => hnb338 (h ▸ mo313)
  have fb338 : b338 ∉ (((((((((((((((((((((u.1 ++ [o1]) ++ [b6]) ++ [b7]) ++ [b8]) ++ [b17]) ++ [o52]) ++ [b62]) ++ [b63]) ++ [b64]) ++ [b65]) ++ [o85]) ++ [b100]) ++ [b101]) ++ [b102]) ++ [b103]) ++ [b133]) ++ [o187]) ++ [b208]) ++ [o247]) ++ [b270]) ++ [o313]) := by rw [← hLu314]; exact hnb338
  have hLu336 : u336.1 = ((((((((((((((((((((((u.1 ++ [o1]) ++ [b6]) ++ [b7]) ++ [b8]) ++ [b17]) ++ [o52]) ++ [b62]) ++ [b63]) ++ [b64]) ++ [b65]) ++ [o85]) ++ [b100]) ++ [b101]) ++ [b102]) ++ [b103]) ++ [b133]) ++ [o187]) ++ [b208]) ++ [o247]) ++ [b270]) ++ [o313]) ++ [b338]) := by rw [hu336, hLu314]
  have hMu336 : ∀ x, x ∈ u.1 → x ∈ u336.1 := fun x hx => by rw [hu336]; exact (List.mem_append_left _ (hMu314 x hx))
  have hOu336 : ∀ x, x ∈ u.1 → x ≠ a → u336.2 x = u.2 x := fun x hx ne => (hpu336 x (hMu314 x hx) (fun h => fo313 (h ▸ (List.mem_append_left _ (List.mem_append_left _ (List.mem_append_left _ (List.mem_append_left _ (List.mem_append_left _ (List.mem_append_left _ (List.mem_append_left _ (List.mem_append_left _ (List.mem_append_left _ (List.mem_append_left _ (List.mem_append_left _ (List.mem_append_left _ (List.mem_append_left _ (List.mem_append_left _ (List.mem_append_left _ (List.mem_append_left _ (List.mem_append_left _ (List.mem_append_left _ (List.mem_append_left _ (List.mem_append_left _ hx))))))))))))))))))))))).trans (hOu314 x hx ne)
  have mt339 : a ∈ u336.1 := (fun x hx => by rw [hu336]; exact (List.mem_append_left _ hx) : ∀ x, x ∈ u314.1 → x ∈ u336.1) a mt315
  have et339 : u336.2 a = .inr (10, [.ref o1, .ref b17, .int (zI 0), .int (zI 5), .int (zI 20), .ref o52, .ref o85, .ref b133, .int (zI 0), .ref o187, .ref o247, .null, .null, .null]) := (hpu336 a mt315 da_o313).trans et315
  have mt340 : o1 ∈ u336.1 := (fun x hx => by rw [hu336]; exact (List.mem_append_left _ hx) : ∀ x, x ∈ u314.1 → x ∈ u336.1) o1 mt316
  have et340 : u336.2 o1 = .inr (7, [.ref b6, .int (zI 0), .ref b7, .ref b8]) := (hpu336 o1 mt316 do1_o313).trans et316
  have mt341 : b6 ∈ u336.1 := (fun x hx => by rw [hu336]; exact (List.mem_append_left _ hx) : ∀ x, x ∈ u314.1 → x ∈ u336.1) b6 mt317
  have et341 : u336.2 b6 = .inl (cy 2, 288, .inl (fun _ => zI 0)) := (hpu336 b6 mt317 db6_o313).trans et317
  have mt342 : b7 ∈ u336.1 := (fun x hx => by rw [hu336]; exact (List.mem_append_left _ hx) : ∀ x, x ∈ u314.1 → x ∈ u336.1) b7 mt318
  have et342 : u336.2 b7 = .inl (cy 0, 36, .inl (fun _ => zI 0)) := (hpu336 b7 mt318 db7_o313).trans et318
  have mt343 : b8 ∈ u336.1 := (fun x hx => by rw [hu336]; exact (List.mem_append_left _ hx) : ∀ x, x ∈ u314.1 → x ∈ u336.1) b8 mt319
  have et343 : u336.2 b8 = .inl (cy 0, 36, .inl (fun _ => zI 0)) := (hpu336 b8 mt319 db8_o313).trans et319
  have mt344 : b17 ∈ u336.1 := (fun x hx => by rw [hu336]; exact (List.mem_append_left _ hx) : ∀ x, x ∈ u314.1 → x ∈ u336.1) b17 mt320
  have et344 : u336.2 b17 = .inl (cy 4, 10, .inr (.inr (.inr (.inr (fun _ => none))))) := (hpu336 b17 mt320 db17_o313).trans et320
  have mt345 : o52 ∈ u336.1 := (fun x hx => by rw [hu336]; exact (List.mem_append_left _ hx) : ∀ x, x ∈ u314.1 → x ∈ u336.1) o52 mt321
  have et345 : u336.2 o52 = .inr (8, [.int (zI 0), .int (zI 0), .int (zI 0), .ref b62, .ref b63, .ref b64, .ref b65, .int (zI 0), .int (zI 0)]) := (hpu336 o52 mt321 do52_o313).trans et321
  have mt346 : b62 ∈ u336.1 := (fun x hx => by rw [hu336]; exact (List.mem_append_left _ hx) : ∀ x, x ∈ u314.1 → x ∈ u336.1) b62 mt322
  have et346 : u336.2 b62 = .inl (cy 0, 101, .inl (fun _ => zI 0)) := (hpu336 b62 mt322 db62_o313).trans et322
  have mt347 : b63 ∈ u336.1 := (fun x hx => by rw [hu336]; exact (List.mem_append_left _ hx) : ∀ x, x ∈ u314.1 → x ∈ u336.1) b63 mt323
  have et347 : u336.2 b63 = .inl (cy 0, 101, .inl (fun _ => zI 0)) := (hpu336 b63 mt323 db63_o313).trans et323
  have mt348 : b64 ∈ u336.1 := (fun x hx => by rw [hu336]; exact (List.mem_append_left _ hx) : ∀ x, x ∈ u314.1 → x ∈ u336.1) b64 mt324
  have et348 : u336.2 b64 = .inl (cy 0, 100, .inl (fun _ => zI 0)) := (hpu336 b64 mt324 db64_o313).trans et324
  have mt349 : b65 ∈ u336.1 := (fun x hx => by rw [hu336]; exact (List.mem_append_left _ hx) : ∀ x, x ∈ u314.1 → x ∈ u336.1) b65 mt325
  have et349 : u336.2 b65 = .inl (cy 0, 101, .inl (fun _ => zI 0)) := (hpu336 b65 mt325 db65_o313).trans et325
  have mt350 : o85 ∈ u336.1 := (fun x hx => by rw [hu336]; exact (List.mem_append_left _ hx) : ∀ x, x ∈ u314.1 → x ∈ u336.1) o85 mt326
  have et350 : u336.2 o85 = .inr (8, [.int (zI 0), .int (zI 0), .int (zI 0), .ref b100, .ref b101, .ref b102, .ref b103, .int (zI 0), .int (zI 0)]) := (hpu336 o85 mt326 do85_o313).trans et326
  have mt351 : b100 ∈ u336.1 := (fun x hx => by rw [hu336]; exact (List.mem_append_left _ hx) : ∀ x, x ∈ u314.1 → x ∈ u336.1) b100 mt327
  have et351 : u336.2 b100 = .inl (cy 0, 101, .inl (fun _ => zI 0)) := (hpu336 b100 mt327 db100_o313).trans et327
  have mt352 : b101 ∈ u336.1 := (fun x hx => by rw [hu336]; exact (List.mem_append_left _ hx) : ∀ x, x ∈ u314.1 → x ∈ u336.1) b101 mt328
  have et352 : u336.2 b101 = .inl (cy 0, 101, .inl (fun _ => zI 0)) := (hpu336 b101 mt328 db101_o313).trans et328
  have mt353 : b102 ∈ u336.1 := (fun x hx => by rw [hu336]; exact (List.mem_append_left _ hx) : ∀ x, x ∈ u314.1 → x ∈ u336.1) b102 mt329
  have et353 : u336.2 b102 = .inl (cy 0, 100, .inl (fun _ => zI 0)) := (hpu336 b102 mt329 db102_o313).trans et329
  have mt354 : b103 ∈ u336.1 := (fun x hx => by rw [hu336]; exact (List.mem_append_left _ hx) : ∀ x, x ∈ u314.1 → x ∈ u336.1) b103 mt330
  have et354 : u336.2 b103 = .inl (cy 0, 101, .inl (fun _ => zI 0)) := (hpu336 b103 mt330 db103_o313).trans et330
  have mt355 : b133 ∈ u336.1 := (fun x hx => by rw [hu336]; exact (List.mem_append_left _ hx) : ∀ x, x ∈ u314.1 → x ∈ u336.1) b133 mt331
  have et355 : u336.2 b133 = .inl (cy 5, 8, .inr (.inr (.inr (.inr (fun _ => none))))) := (hpu336 b133 mt331 db133_o313).trans et331
  have mt356 : o187 ∈ u336.1 := (fun x hx => by rw [hu336]; exact (List.mem_append_left _ hx) : ∀ x, x ∈ u314.1 → x ∈ u336.1) o187 mt332
  have et356 : u336.2 o187 = .inr (9, [.ref b208, .int (zI 0)]) := (hpu336 o187 mt332 do187_o313).trans et332
  have mt357 : b208 ∈ u336.1 := (fun x hx => by rw [hu336]; exact (List.mem_append_left _ hx) : ∀ x, x ∈ u314.1 → x ∈ u336.1) b208 mt333
  have et357 : u336.2 b208 = .inl (cy 0, 60, .inl (fun _ => zI 0)) := (hpu336 b208 mt333 db208_o313).trans et333
  have mt358 : o247 ∈ u336.1 := (fun x hx => by rw [hu336]; exact (List.mem_append_left _ hx) : ∀ x, x ∈ u314.1 → x ∈ u336.1) o247 mt334
  have et358 : u336.2 o247 = .inr (9, [.ref b270, .int (zI 0)]) := (hpu336 o247 mt334 do247_o313).trans et334
  have mt359 : b270 ∈ u336.1 := (fun x hx => by rw [hu336]; exact (List.mem_append_left _ hx) : ∀ x, x ∈ u314.1 → x ∈ u336.1) b270 mt335
  have et359 : u336.2 b270 = .inl (cy 0, 6, .inl (fun _ => zI 0)) := (hpu336 b270 mt335 db270_o313).trans et335
  have mt360 : o313 ∈ u336.1 := (fun x hx => by rw [hu336]; exact (List.mem_append_left _ hx) : ∀ x, x ∈ u314.1 → x ∈ u336.1) o313 mo313
  have mb338 : b338 ∈ u336.1 := by rw [hu336]; exact (List.mem_append_right _ List.mem_cons_self)
  obtain ⟨k9, hk9⟩ := p_get D u336 mt339
  refine va_putF (C := RX11) (T := TX11) (N := 14) (ci := 10) (ty := tyX11 11) hx hb hts (fun _ h => (List.mem_cons_of_mem _ (List.mem_append_left _ (List.mem_append_left _ (List.mem_append_left _ (List.mem_append_right _ h)))))) tyX11 tyX11_ok nmX11 hown hI.1 hG.1 hG.2 hS k9 (hk9.trans (by rw [et339])) rfl 11 (by decide) (hts (.fieldLink RX11 63 "StraitSwim" "turns" "LStraitSwim$Tally;") (List.mem_cons_of_mem _ (List.mem_append_left _ (List.mem_append_left _ (List.mem_append_left _ (List.mem_append_left _ (List.mem_append_left _ (List.mem_append_right _ (List.mem_append_left _ (List.mem_of_getElem? (i := 1) rfl)))))))))) (fun _ h9 => h9) rfl hin2 rfl (tyX11_ok 11 (by decide)) rfl rfl (Nat.le_of_ble_eq_true rfl) dX11_init_112 (fun H locs hP hD hS => ?_)
  obtain ⟨u361, hu361, hEu361, hpu361, hG⟩ := p_set (e := .inr (10, [.ref o1, .ref b17, .int (zI 0), .int (zI 5), .int (zI 20), .ref o52, .ref o85, .ref b133, .int (zI 0), .ref o187, .ref o247, .ref o313, .null, .null])) hG mt339 hk9 hP hD
  have mt362 : a ∈ u361.1 := (fun x hx => by rw [hu361]; exact hx : ∀ x, x ∈ u336.1 → x ∈ u361.1) a mt339
  have mt363 : o1 ∈ u361.1 := (fun x hx => by rw [hu361]; exact hx : ∀ x, x ∈ u336.1 → x ∈ u361.1) o1 mt340
  have et363 : u361.2 o1 = .inr (7, [.ref b6, .int (zI 0), .ref b7, .ref b8]) := (hpu361 o1 (fun h => (fun h9 => da_o1 h9.symm) h)).trans et340
  have mt364 : b6 ∈ u361.1 := (fun x hx => by rw [hu361]; exact hx : ∀ x, x ∈ u336.1 → x ∈ u361.1) b6 mt341
  have et364 : u361.2 b6 = .inl (cy 2, 288, .inl (fun _ => zI 0)) := (hpu361 b6 (fun h => (fun h9 => da_b6 h9.symm) h)).trans et341
  have mt365 : b7 ∈ u361.1 := (fun x hx => by rw [hu361]; exact hx : ∀ x, x ∈ u336.1 → x ∈ u361.1) b7 mt342
  have et365 : u361.2 b7 = .inl (cy 0, 36, .inl (fun _ => zI 0)) := (hpu361 b7 (fun h => (fun h9 => da_b7 h9.symm) h)).trans et342
  have mt366 : b8 ∈ u361.1 := (fun x hx => by rw [hu361]; exact hx : ∀ x, x ∈ u336.1 → x ∈ u361.1) b8 mt343
  have et366 : u361.2 b8 = .inl (cy 0, 36, .inl (fun _ => zI 0)) := (hpu361 b8 (fun h => (fun h9 => da_b8 h9.symm) h)).trans et343
  have mt367 : b17 ∈ u361.1 := (fun x hx => by rw [hu361]; exact hx : ∀ x, x ∈ u336.1 → x ∈ u361.1) b17 mt344
  have et367 : u361.2 b17 = .inl (cy 4, 10, .inr (.inr (.inr (.inr (fun _ => none))))) := (hpu361 b17 (fun h => (fun h9 => da_b17 h9.symm) h)).trans et344
  have mt368 : o52 ∈ u361.1 := (fun x hx => by rw [hu361]; exact hx : ∀ x, x ∈ u336.1 → x ∈ u361.1) o52 mt345
  have et368 : u361.2 o52 = .inr (8, [.int (zI 0), .int (zI 0), .int (zI 0), .ref b62, .ref b63, .ref b64, .ref b65, .int (zI 0), .int (zI 0)]) := (hpu361 o52 (fun h => (fun h9 => da_o52 h9.symm) h)).trans et345
  have mt369 : b62 ∈ u361.1 := (fun x hx => by rw [hu361]; exact hx : ∀ x, x ∈ u336.1 → x ∈ u361.1) b62 mt346
  have et369 : u361.2 b62 = .inl (cy 0, 101, .inl (fun _ => zI 0)) := (hpu361 b62 (fun h => (fun h9 => da_b62 h9.symm) h)).trans et346
  have mt370 : b63 ∈ u361.1 := (fun x hx => by rw [hu361]; exact hx : ∀ x, x ∈ u336.1 → x ∈ u361.1) b63 mt347
  have et370 : u361.2 b63 = .inl (cy 0, 101, .inl (fun _ => zI 0)) := (hpu361 b63 (fun h => (fun h9 => da_b63 h9.symm) h)).trans et347
  have mt371 : b64 ∈ u361.1 := (fun x hx => by rw [hu361]; exact hx : ∀ x, x ∈ u336.1 → x ∈ u361.1) b64 mt348
  have et371 : u361.2 b64 = .inl (cy 0, 100, .inl (fun _ => zI 0)) := (hpu361 b64 (fun h => (fun h9 => da_b64 h9.symm) h)).trans et348
  have mt372 : b65 ∈ u361.1 := (fun x hx => by rw [hu361]; exact hx : ∀ x, x ∈ u336.1 → x ∈ u361.1) b65 mt349
  have et372 : u361.2 b65 = .inl (cy 0, 101, .inl (fun _ => zI 0)) := (hpu361 b65 (fun h => (fun h9 => da_b65 h9.symm) h)).trans et349
  have mt373 : o85 ∈ u361.1 := (fun x hx => by rw [hu361]; exact hx : ∀ x, x ∈ u336.1 → x ∈ u361.1) o85 mt350
  have et373 : u361.2 o85 = .inr (8, [.int (zI 0), .int (zI 0), .int (zI 0), .ref b100, .ref b101, .ref b102, .ref b103, .int (zI 0), .int (zI 0)]) := (hpu361 o85 (fun h => (fun h9 => da_o85 h9.symm) h)).trans et350
  have mt374 : b100 ∈ u361.1 := (fun x hx => by rw [hu361]; exact hx : ∀ x, x ∈ u336.1 → x ∈ u361.1) b100 mt351
  have et374 : u361.2 b100 = .inl (cy 0, 101, .inl (fun _ => zI 0)) := (hpu361 b100 (fun h => (fun h9 => da_b100 h9.symm) h)).trans et351
  have mt375 : b101 ∈ u361.1 := (fun x hx => by rw [hu361]; exact hx : ∀ x, x ∈ u336.1 → x ∈ u361.1) b101 mt352
  have et375 : u361.2 b101 = .inl (cy 0, 101, .inl (fun _ => zI 0)) := (hpu361 b101 (fun h => (fun h9 => da_b101 h9.symm) h)).trans et352
  have mt376 : b102 ∈ u361.1 := (fun x hx => by rw [hu361]; exact hx : ∀ x, x ∈ u336.1 → x ∈ u361.1) b102 mt353
  have et376 : u361.2 b102 = .inl (cy 0, 100, .inl (fun _ => zI 0)) := (hpu361 b102 (fun h => (fun h9 => da_b102 h9.symm) h)).trans et353
  have mt377 : b103 ∈ u361.1 := (fun x hx => by rw [hu361]; exact hx : ∀ x, x ∈ u336.1 → x ∈ u361.1) b103 mt354
  have et377 : u361.2 b103 = .inl (cy 0, 101, .inl (fun _ => zI 0)) := (hpu361 b103 (fun h => (fun h9 => da_b103 h9.symm) h)).trans et354
  have mt378 : b133 ∈ u361.1 := (fun x hx => by rw [hu361]; exact hx : ∀ x, x ∈ u336.1 → x ∈ u361.1) b133 mt355
  have et378 : u361.2 b133 = .inl (cy 5, 8, .inr (.inr (.inr (.inr (fun _ => none))))) := (hpu361 b133 (fun h => (fun h9 => da_b133 h9.symm) h)).trans et355
  have mt379 : o187 ∈ u361.1 := (fun x hx => by rw [hu361]; exact hx : ∀ x, x ∈ u336.1 → x ∈ u361.1) o187 mt356
  have et379 : u361.2 o187 = .inr (9, [.ref b208, .int (zI 0)]) := (hpu361 o187 (fun h => (fun h9 => da_o187 h9.symm) h)).trans et356
  have mt380 : b208 ∈ u361.1 := (fun x hx => by rw [hu361]; exact hx : ∀ x, x ∈ u336.1 → x ∈ u361.1) b208 mt357
  have et380 : u361.2 b208 = .inl (cy 0, 60, .inl (fun _ => zI 0)) := (hpu361 b208 (fun h => (fun h9 => da_b208 h9.symm) h)).trans et357
  have mt381 : o247 ∈ u361.1 := (fun x hx => by rw [hu361]; exact hx : ∀ x, x ∈ u336.1 → x ∈ u361.1) o247 mt358
  have et381 : u361.2 o247 = .inr (9, [.ref b270, .int (zI 0)]) := (hpu361 o247 (fun h => (fun h9 => da_o247 h9.symm) h)).trans et358
  have mt382 : b270 ∈ u361.1 := (fun x hx => by rw [hu361]; exact hx : ∀ x, x ∈ u336.1 → x ∈ u361.1) b270 mt359
  have et382 : u361.2 b270 = .inl (cy 0, 6, .inl (fun _ => zI 0)) := (hpu361 b270 (fun h => (fun h9 => da_b270 h9.symm) h)).trans et359
  have mt383 : o313 ∈ u361.1 := (fun x hx => by rw [hu361]; exact hx : ∀ x, x ∈ u336.1 → x ∈ u361.1) o313 mt360
  have et383 : u361.2 o313 = .inr (9, [.ref b338, .int (zI 0)]) := (hpu361 o313 (fun h => (fun h9 => da_o313 h9.symm) h)).trans hEou336
  have mt384 : b338 ∈ u361.1 := (fun x hx => by rw [hu361]; exact hx : ∀ x, x ∈ u336.1 → x ∈ u361.1) b338 mb338
  have et384 : u361.2 b338 = .inl (cy 0, 40, .inl (fun _ => zI 0)) := (hpu361 b338 (fun h => (fun h9 => da_b338 h9.symm) h)).trans hEb338
  have hLu361 : u361.1 = ((((((((((((((((((((((u.1 ++ [o1]) ++ [b6]) ++ [b7]) ++ [b8]) ++ [b17]) ++ [o52]) ++ [b62]) ++ [b63]) ++ [b64]) ++ [b65]) ++ [o85]) ++ [b100]) ++ [b101]) ++ [b102]) ++ [b103]) ++ [b133]) ++ [o187]) ++ [b208]) ++ [o247]) ++ [b270]) ++ [o313]) ++ [b338]) := by rw [hu361, hLu336]
  have hMu361 : ∀ x, x ∈ u.1 → x ∈ u361.1 := fun x hx => by rw [hu361]; exact hMu336 x hx
  have hOu361 : ∀ x, x ∈ u.1 → x ≠ a → u361.2 x = u.2 x := fun x hx ne => (hpu361 x ne).trans (hOu336 x hx ne)
  refine lv_aload_n hx hb dX11_init_115 rfl (lv_at hl 0 rfl) ?_
  refine va_new (ci := 1) (fs := [.int (zI 0), .null, .null, .null, .null, .null, .int (zI 0)]) (C := RX2) (T := TX2) (N := 7) hx hb hts (fun _ h => (List.mem_cons_of_mem _ (List.mem_append_right _ h))) tyX2 tyX2_ok hown (hts (.classLink RX11 66 RX2) (List.mem_cons_of_mem _ (List.mem_append_left _ (List.mem_append_left _ (List.mem_append_left _ (List.mem_append_left _ (List.mem_append_left _ (List.mem_append_right _ (List.mem_append_left _ (List.mem_of_getElem? (i := 2) rfl)))))))))) (hts (.instantiable RX2 7) (List.mem_cons_of_mem _ (List.mem_append_left _ (List.mem_append_left _ (List.mem_append_left _ (List.mem_append_left _ (List.mem_append_left _ (List.mem_append_right _ (List.mem_append_left _ (List.mem_of_getElem? (i := 3) rfl)))))))))) (hts (.initialized RX2) (List.mem_cons_of_mem _ (List.mem_append_left _ (List.mem_append_left _ (List.mem_append_left _ (List.mem_append_left _ (List.mem_append_left _ (List.mem_append_right _ (List.mem_append_left _ (List.mem_of_getElem? (i := 4) rfl)))))))))) hI.1 hG.1 hG.2 hS hI.2.1 rfl (fun j hj => by rcases (show j = 0 ∨ j = 1 ∨ j = 2 ∨ j = 3 ∨ j = 4 ∨ j = 5 ∨ j = 6 by omega) with rfl | rfl | rfl | rfl | rfl | rfl | rfl <;> rfl) (Nat.le_of_ble_eq_true rfl) (Nat.le_of_ble_eq_true rfl) dX11_init_116 (fun o385 H hP hD hS => ?_)
  obtain ⟨u386, hu386, hEo385, hpu386, hno385, hG⟩ := p_push hP hD
  have fo385 : o385 ∉ ((((((((((((((((((((((u.1 ++ [o1]) ++ [b6]) ++ [b7]) ++ [b8]) ++ [b17]) ++ [o52]) ++ [b62]) ++ [b63]) ++ [b64]) ++ [b65]) ++ [o85]) ++ [b100]) ++ [b101]) ++ [b102]) ++ [b103]) ++ [b133]) ++ [o187]) ++ [b208]) ++ [o247]) ++ [b270]) ++ [o313]) ++ [b338]) := by rw [← hLu361]; exact hno385
  have hLu386 : u386.1 = (((((((((((((((((((((((u.1 ++ [o1]) ++ [b6]) ++ [b7]) ++ [b8]) ++ [b17]) ++ [o52]) ++ [b62]) ++ [b63]) ++ [b64]) ++ [b65]) ++ [o85]) ++ [b100]) ++ [b101]) ++ [b102]) ++ [b103]) ++ [b133]) ++ [o187]) ++ [b208]) ++ [o247]) ++ [b270]) ++ [o313]) ++ [b338]) ++ [o385]) := by rw [hu386, hLu361]
  have hMu386 : ∀ x, x ∈ u.1 → x ∈ u386.1 := fun x hx => by rw [hu386]; exact List.mem_append_left _ (hMu361 x hx)
  have hOu386 : ∀ x, x ∈ u.1 → x ≠ a → u386.2 x = u.2 x := fun x hx ne => (hpu386 x (hMu361 x hx)).trans (hOu361 x hx ne)
  have da_o385 : a ≠ o385 := fun h => hno385 (h ▸ mt362)
  have do1_o385 : o1 ≠ o385 := fun h => hno385 (h ▸ mt363)
  have db6_o385 : b6 ≠ o385 := fun h => hno385 (h ▸ mt364)
  have db7_o385 : b7 ≠ o385 := fun h => hno385 (h ▸ mt365)
  have db8_o385 : b8 ≠ o385 := fun h => hno385 (h ▸ mt366)
  have db17_o385 : b17 ≠ o385 := fun h => hno385 (h ▸ mt367)
  have do52_o385 : o52 ≠ o385 := fun h => hno385 (h ▸ mt368)
  have db62_o385 : b62 ≠ o385 := fun h => hno385 (h ▸ mt369)
  have db63_o385 : b63 ≠ o385 := fun h => hno385 (h ▸ mt370)
  have db64_o385 : b64 ≠ o385 := fun h => hno385 (h ▸ mt371)
  have db65_o385 : b65 ≠ o385 := fun h => hno385 (h ▸ mt372)
  have do85_o385 : o85 ≠ o385 := fun h => hno385 (h ▸ mt373)
  have db100_o385 : b100 ≠ o385 := fun h => hno385 (h ▸ mt374)
  have db101_o385 : b101 ≠ o385 := fun h => hno385 (h ▸ mt375)
  have db102_o385 : b102 ≠ o385 := fun h => hno385 (h ▸ mt376)
  have db103_o385 : b103 ≠ o385 := fun h => hno385 (h ▸ mt377)
  have db133_o385 : b133 ≠ o385 := fun h => hno385 (h ▸ mt378)
  have do187_o385 : o187 ≠ o385 := fun h => hno385 (h ▸ mt379)
  have db208_o385 : b208 ≠ o385 := fun h => hno385 (h ▸ mt380)
  have do247_o385 : o247 ≠ o385 := fun h => hno385 (h ▸ mt381)
  have db270_o385 : b270 ≠ o385 := fun h => hno385 (h ▸ mt382)
  have do313_o385 : o313 ≠ o385 := fun h => hno385 (h ▸ mt383)
  have db338_o385 : b338 ≠ o385 := fun h => hno385 (h ▸ mt384)
  have mt387 : a ∈ u386.1 := (fun x hx => by rw [hu386]; exact List.mem_append_left _ hx : ∀ x, x ∈ u361.1 → x ∈ u386.1) a mt362
  have et387 : u386.2 a = .inr (10, [.ref o1, .ref b17, .int (zI 0), .int (zI 5), .int (zI 20), .ref o52, .ref o85, .ref b133, .int (zI 0), .ref o187, .ref o247, .ref o313, .null, .null]) := (hpu386 a mt362).trans hEu361
  have mt388 : o1 ∈ u386.1 := (fun x hx => by rw [hu386]; exact List.mem_append_left _ hx : ∀ x, x ∈ u361.1 → x ∈ u386.1) o1 mt363
  have et388 : u386.2 o1 = .inr (7, [.ref b6, .int (zI 0), .ref b7, .ref b8]) := (hpu386 o1 mt363).trans et363
  have mt389 : b6 ∈ u386.1 := (fun x hx => by rw [hu386]; exact List.mem_append_left _ hx : ∀ x, x ∈ u361.1 → x ∈ u386.1) b6 mt364
  have et389 : u386.2 b6 = .inl (cy 2, 288, .inl (fun _ => zI 0)) := (hpu386 b6 mt364).trans et364
  have mt390 : b7 ∈ u386.1 := (fun x hx => by rw [hu386]; exact List.mem_append_left _ hx : ∀ x, x ∈ u361.1 → x ∈ u386.1) b7 mt365
  have et390 : u386.2 b7 = .inl (cy 0, 36, .inl (fun _ => zI 0)) := (hpu386 b7 mt365).trans et365
  have mt391 : b8 ∈ u386.1 := (fun x hx => by rw [hu386]; exact List.mem_append_left _ hx : ∀ x, x ∈ u361.1 → x ∈ u386.1) b8 mt366
  have et391 : u386.2 b8 = .inl (cy 0, 36, .inl (fun _ => zI 0)) := (hpu386 b8 mt366).trans et366
  have mt392 : b17 ∈ u386.1 := (fun x hx => by rw [hu386]; exact List.mem_append_left _ hx : ∀ x, x ∈ u361.1 → x ∈ u386.1) b17 mt367
  have et392 : u386.2 b17 = .inl (cy 4, 10, .inr (.inr (.inr (.inr (fun _ => none))))) := (hpu386 b17 mt367).trans et367
  have mt393 : o52 ∈ u386.1 := (fun x hx => by rw [hu386]; exact List.mem_append_left _ hx : ∀ x, x ∈ u361.1 → x ∈ u386.1) o52 mt368
  have et393 : u386.2 o52 = .inr (8, [.int (zI 0), .int (zI 0), .int (zI 0), .ref b62, .ref b63, .ref b64, .ref b65, .int (zI 0), .int (zI 0)]) := (hpu386 o52 mt368).trans et368
  have mt394 : b62 ∈ u386.1 := (fun x hx => by rw [hu386]; exact List.mem_append_left _ hx : ∀ x, x ∈ u361.1 → x ∈ u386.1) b62 mt369
  have et394 : u386.2 b62 = .inl (cy 0, 101, .inl (fun _ => zI 0)) := (hpu386 b62 mt369).trans et369
  have mt395 : b63 ∈ u386.1 := (fun x hx => by rw [hu386]; exact List.mem_append_left _ hx : ∀ x, x ∈ u361.1 → x ∈ u386.1) b63 mt370
  have et395 : u386.2 b63 = .inl (cy 0, 101, .inl (fun _ => zI 0)) := (hpu386 b63 mt370).trans et370
  have mt396 : b64 ∈ u386.1 := (fun x hx => by rw [hu386]; exact List.mem_append_left _ hx : ∀ x, x ∈ u361.1 → x ∈ u386.1) b64 mt371
  have et396 : u386.2 b64 = .inl (cy 0, 100, .inl (fun _ => zI 0)) := (hpu386 b64 mt371).trans et371
  have mt397 : b65 ∈ u386.1 := (fun x hx => by rw [hu386]; exact List.mem_append_left _ hx : ∀ x, x ∈ u361.1 → x ∈ u386.1) b65 mt372
  have et397 : u386.2 b65 = .inl (cy 0, 101, .inl (fun _ => zI 0)) := (hpu386 b65 mt372).trans et372
  have mt398 : o85 ∈ u386.1 := (fun x hx => by rw [hu386]; exact List.mem_append_left _ hx : ∀ x, x ∈ u361.1 → x ∈ u386.1) o85 mt373
  have et398 : u386.2 o85 = .inr (8, [.int (zI 0), .int (zI 0), .int (zI 0), .ref b100, .ref b101, .ref b102, .ref b103, .int (zI 0), .int (zI 0)]) := (hpu386 o85 mt373).trans et373
  have mt399 : b100 ∈ u386.1 := (fun x hx => by rw [hu386]; exact List.mem_append_left _ hx : ∀ x, x ∈ u361.1 → x ∈ u386.1) b100 mt374
  have et399 : u386.2 b100 = .inl (cy 0, 101, .inl (fun _ => zI 0)) := (hpu386 b100 mt374).trans et374
  have mt400 : b101 ∈ u386.1 := (fun x hx => by rw [hu386]; exact List.mem_append_left _ hx : ∀ x, x ∈ u361.1 → x ∈ u386.1) b101 mt375
  have et400 : u386.2 b101 = .inl (cy 0, 101, .inl (fun _ => zI 0)) := (hpu386 b101 mt375).trans et375
  have mt401 : b102 ∈ u386.1 := (fun x hx => by rw [hu386]; exact List.mem_append_left _ hx : ∀ x, x ∈ u361.1 → x ∈ u386.1) b102 mt376
  have et401 : u386.2 b102 = .inl (cy 0, 100, .inl (fun _ => zI 0)) := (hpu386 b102 mt376).trans et376
  have mt402 : b103 ∈ u386.1 := (fun x hx => by rw [hu386]; exact List.mem_append_left _ hx : ∀ x, x ∈ u361.1 → x ∈ u386.1) b103 mt377
  have et402 : u386.2 b103 = .inl (cy 0, 101, .inl (fun _ => zI 0)) := (hpu386 b103 mt377).trans et377
  have mt403 : b133 ∈ u386.1 := (fun x hx => by rw [hu386]; exact List.mem_append_left _ hx : ∀ x, x ∈ u361.1 → x ∈ u386.1) b133 mt378
  have et403 : u386.2 b133 = .inl (cy 5, 8, .inr (.inr (.inr (.inr (fun _ => none))))) := (hpu386 b133 mt378).trans et378
  have mt404 : o187 ∈ u386.1 := (fun x hx => by rw [hu386]; exact List.mem_append_left _ hx : ∀ x, x ∈ u361.1 → x ∈ u386.1) o187 mt379
  have et404 : u386.2 o187 = .inr (9, [.ref b208, .int (zI 0)]) := (hpu386 o187 mt379).trans et379
  have mt405 : b208 ∈ u386.1 := (fun x hx => by rw [hu386]; exact List.mem_append_left _ hx : ∀ x, x ∈ u361.1 → x ∈ u386.1) b208 mt380
  have et405 : u386.2 b208 = .inl (cy 0, 60, .inl (fun _ => zI 0)) := (hpu386 b208 mt380).trans et380
  have mt406 : o247 ∈ u386.1 := (fun x hx => by rw [hu386]; exact List.mem_append_left _ hx : ∀ x, x ∈ u361.1 → x ∈ u386.1) o247 mt381
  have et406 : u386.2 o247 = .inr (9, [.ref b270, .int (zI 0)]) := (hpu386 o247 mt381).trans et381
  have mt407 : b270 ∈ u386.1 := (fun x hx => by rw [hu386]; exact List.mem_append_left _ hx : ∀ x, x ∈ u361.1 → x ∈ u386.1) b270 mt382
  have et407 : u386.2 b270 = .inl (cy 0, 6, .inl (fun _ => zI 0)) := (hpu386 b270 mt382).trans et382
  have mt408 : o313 ∈ u386.1 := (fun x hx => by rw [hu386]; exact List.mem_append_left _ hx : ∀ x, x ∈ u361.1 → x ∈ u386.1) o313 mt383
  have et408 : u386.2 o313 = .inr (9, [.ref b338, .int (zI 0)]) := (hpu386 o313 mt383).trans et383
  have mt409 : b338 ∈ u386.1 := (fun x hx => by rw [hu386]; exact List.mem_append_left _ hx : ∀ x, x ∈ u361.1 → x ∈ u386.1) b338 mt384
  have et409 : u386.2 b338 = .inl (cy 0, 40, .inl (fun _ => zI 0)) := (hpu386 b338 mt384).trans et384
  have mo385 : o385 ∈ u386.1 := by rw [hu386]; exact List.mem_append_right _ List.mem_cons_self
  refine lv_dup hx hb dX11_init_119 rfl ?_
  refine p_callv (va_runIN (As := []) (rest := [.ref o385, .ref a]) ⟨hx, hb, hml, hown, hts⟩ (kX2_init l D cy A u386 o385  mo385 hEo385) ⟨va_cnB 0 hts gX11_init_X2_init_n68 rfl rfl rfl hI.2.2.2.2.2 (hts (.initialized RX2) (List.mem_cons_of_mem _ (List.mem_append_left _ (List.mem_append_left _ (List.mem_append_left _ (List.mem_append_left _ (List.mem_append_left _ (List.mem_append_right _ (List.mem_append_left _ (List.mem_of_getElem? (i := 4) rfl)))))))))) (by decide +kernel) ⟨by decide, by decide⟩, rfl, (hts (.instanceMethod yX2_init) (List.mem_cons_of_mem _ (List.mem_append_left _ (List.mem_append_left _ (List.mem_append_left _ (List.mem_append_left _ (List.mem_append_left _ (List.mem_append_right _ (List.mem_append_right _ (List.mem_of_getElem? (i := 11) rfl))))))))))⟩ (p_preS hG hI hS) rfl rfl hl.1 rfl (lv_room (Nat.le_of_ble_eq_true rfl)) dX11_init_120 ⟨Nat.le_of_ble_eq_true rfl, Nat.le_of_ble_eq_true rfl⟩) hS (fun u410 H locs p_411 hG hS => ?_)
  obtain ⟨b412, b413, b414, b415, b416, hu410, ⟨hnb412, hnb413, hnb414, hnb415, hnb416⟩, ⟨hEou410, hEb412, hEb413, hEb414, hEb415, hEb416⟩, hpu410⟩ := p_411
  have da_b412 : a ≠ b412 := fun h => hnb412 (h ▸ mt387)
  have do1_b412 : o1 ≠ b412 := fun h => hnb412 (h ▸ mt388)
  have db6_b412 : b6 ≠ b412 := fun h => hnb412 (h ▸ mt389)
  have db7_b412 : b7 ≠ b412 := fun h => hnb412 (h ▸ mt390)
  have db8_b412 : b8 ≠ b412 := fun h => hnb412 (h ▸ mt391)
  have db17_b412 : b17 ≠ b412 := fun h => hnb412 (h ▸ mt392)
  have do52_b412 : o52 ≠ b412 := fun h => hnb412 (h ▸ mt393)
  have db62_b412 : b62 ≠ b412 := fun h => hnb412 (h ▸ mt394)
  have db63_b412 : b63 ≠ b412 := fun h => hnb412 (h ▸ mt395)
  have db64_b412 : b64 ≠ b412 := fun h => hnb412 (h ▸ mt396)
  have db65_b412 : b65 ≠ b412 := fun h => hnb412 (h ▸ mt397)
  have do85_b412 : o85 ≠ b412 := fun h => hnb412 (h ▸ mt398)
  have db100_b412 : b100 ≠ b412 := fun h => hnb412 (h ▸ mt399)
  have db101_b412 : b101 ≠ b412 := fun h => hnb412 (h ▸ mt400)
  have db102_b412 : b102 ≠ b412 := fun h => hnb412 (h ▸ mt401)
  have db103_b412 : b103 ≠ b412 := fun h => hnb412 (h ▸ mt402)
  have db133_b412 : b133 ≠ b412 := fun h => hnb412 (h ▸ mt403)
  have do187_b412 : o187 ≠ b412 := fun h => hnb412 (h ▸ mt404)
  have db208_b412 : b208 ≠ b412 := fun h => hnb412 (h ▸ mt405)
  have do247_b412 : o247 ≠ b412 := fun h => hnb412 (h ▸ mt406)
  have db270_b412 : b270 ≠ b412 := fun h => hnb412 (h ▸ mt407)
  have do313_b412 : o313 ≠ b412 := fun h => hnb412 (h ▸ mt408)
  have db338_b412 : b338 ≠ b412 := fun h => hnb412 (h ▸ mt409)
  have do385_b412 : o385 ≠ b412 := fun h => hnb412 (h ▸ mo385)
  have da_b413 : a ≠ b413 := fun h => hnb413 (h ▸ (List.mem_append_left _ mt387))
  have do1_b413 : o1 ≠ b413 := fun h => hnb413 (h ▸ (List.mem_append_left _ mt388))
  have db6_b413 : b6 ≠ b413 := fun h => hnb413 (h ▸ (List.mem_append_left _ mt389))
  have db7_b413 : b7 ≠ b413 := fun h => hnb413 (h ▸ (List.mem_append_left _ mt390))
  have db8_b413 : b8 ≠ b413 := fun h => hnb413 (h ▸ (List.mem_append_left _ mt391))
  have db17_b413 : b17 ≠ b413 := fun h => hnb413 (h ▸ (List.mem_append_left _ mt392))
  have do52_b413 : o52 ≠ b413 := fun h => hnb413 (h ▸ (List.mem_append_left _ mt393))
  have db62_b413 : b62 ≠ b413 := fun h => hnb413 (h ▸ (List.mem_append_left _ mt394))
  have db63_b413 : b63 ≠ b413 := fun h => hnb413 (h ▸ (List.mem_append_left _ mt395))
  have db64_b413 : b64 ≠ b413 := fun h => hnb413 (h ▸ (List.mem_append_left _ mt396))
  have db65_b413 : b65 ≠ b413 := fun h => hnb413 (h ▸ (List.mem_append_left _ mt397))
  have do85_b413 : o85 ≠ b413 := fun h => hnb413 (h ▸ (List.mem_append_left _ mt398))
  have db100_b413 : b100 ≠ b413 := fun h => hnb413 (h ▸ (List.mem_append_left _ mt399))
  have db101_b413 : b101 ≠ b413 := fun h => hnb413 (h ▸ (List.mem_append_left _ mt400))
  have db102_b413 : b102 ≠ b413 := fun h => hnb413 (h ▸ (List.mem_append_left _ mt401))
  have db103_b413 : b103 ≠ b413 := fun h => hnb413 (h ▸ (List.mem_append_left _ mt402))
  have db133_b413 : b133 ≠ b413 := fun h => hnb413 (h ▸ (List.mem_append_left _ mt403))
  have do187_b413 : o187 ≠ b413 := fun h => hnb413 (h ▸ (List.mem_append_left _ mt404))
  have db208_b413 : b208 ≠ b413 := fun h => hnb413 (h ▸ (List.mem_append_left _ mt405))
  have do247_b413 : o247 ≠ b413 := fun h => hnb413 (h ▸ (List.mem_append_left _ mt406))
  have db270_b413 : b270 ≠ b413 := fun h => hnb413 (h ▸ (List.mem_append_left _ mt407))
  have do313_b413 : o313 ≠ b413 := fun h => hnb413 (h ▸ (List.mem_append_left _ mt408))
  have db338_b413 : b338 ≠ b413 := fun h => hnb413 (h ▸ (List.mem_append_left _ mt409))
  have do385_b413 : o385 ≠ b413 := fun h => hnb413 (h ▸ (List.mem_append_left _ mo385))
  have db412_b413 : b412 ≠ b413 := fun h => hnb413 (h ▸ (List.mem_append_right _ List.mem_cons_self))
  have da_b414 : a ≠ b414 := fun h => hnb414 (h ▸ (List.mem_append_left _ (List.mem_append_left _ mt387)))
  have do1_b414 : o1 ≠ b414 := fun h => hnb414 (h ▸ (List.mem_append_left _ (List.mem_append_left _ mt388)))
  have db6_b414 : b6 ≠ b414 := fun h => hnb414 (h ▸ (List.mem_append_left _ (List.mem_append_left _ mt389)))
  have db7_b414 : b7 ≠ b414 := fun h => hnb414 (h ▸ (List.mem_append_left _ (List.mem_append_left _ mt390)))
  have db8_b414 : b8 ≠ b414 := fun h => hnb414 (h ▸ (List.mem_append_left _ (List.mem_append_left _ mt391)))
  have db17_b414 : b17 ≠ b414 := fun h => hnb414 (h ▸ (List.mem_append_left _ (List.mem_append_left _ mt392)))
  have do52_b414 : o52 ≠ b414 := fun h => hnb414 (h ▸ (List.mem_append_left _ (List.mem_append_left _ mt393)))
  have db62_b414 : b62 ≠ b414 := fun h => hnb414 (h ▸ (List.mem_append_left _ (List.mem_append_left _ mt394)))
  have db63_b414 : b63 ≠ b414 := fun h => hnb414 (h ▸ (List.mem_append_left _ (List.mem_append_left _ mt395)))
  have db64_b414 : b64 ≠ b414 := fun h => hnb414 (h ▸ (List.mem_append_left _ (List.mem_append_left _ mt396)))
  have db65_b414 : b65 ≠ b414 := fun h => hnb414 (h ▸ (List.mem_append_left _ (List.mem_append_left _ mt397)))
  have do85_b414 : o85 ≠ b414 := fun h => hnb414 (h ▸ (List.mem_append_left _ (List.mem_append_left _ mt398)))
  have db100_b414 : b100 ≠ b414 := fun h => hnb414 (h ▸ (List.mem_append_left _ (List.mem_append_left _ mt399)))
  have db101_b414 : b101 ≠ b414 := fun h => hnb414 (h ▸ (List.mem_append_left _ (List.mem_append_left _ mt400)))
  have db102_b414 : b102 ≠ b414 := fun h => hnb414 (h ▸ (List.mem_append_left _ (List.mem_append_left _ mt401)))
  have db103_b414 : b103 ≠ b414 := fun h => hnb414 (h ▸ (List.mem_append_left _ (List.mem_append_left _ mt402)))
  have db133_b414 : b133 ≠ b414 := fun h => hnb414 (h ▸ (List.mem_append_left _ (List.mem_append_left _ mt403)))
  have do187_b414 : o187 ≠ b414 := fun h => hnb414 (h ▸ (List.mem_append_left _ (List.mem_append_left _ mt404)))
  have db208_b414 : b208 ≠ b414 := fun h => hnb414 (h ▸ (List.mem_append_left _ (List.mem_append_left _ mt405)))
  have do247_b414 : o247 ≠ b414 := fun h => hnb414 (h ▸ (List.mem_append_left _ (List.mem_append_left _ mt406)))
  have db270_b414 : b270 ≠ b414 := fun h => hnb414 (h ▸ (List.mem_append_left _ (List.mem_append_left _ mt407)))
  have do313_b414 : o313 ≠ b414 := fun h => hnb414 (h ▸ (List.mem_append_left _ (List.mem_append_left _ mt408)))
  have db338_b414 : b338 ≠ b414 := fun h => hnb414 (h ▸ (List.mem_append_left _ (List.mem_append_left _ mt409)))
  have do385_b414 : o385 ≠ b414 := fun h => hnb414 (h ▸ (List.mem_append_left _ (List.mem_append_left _ mo385)))
  have db412_b414 : b412 ≠ b414 := fun h => hnb414 (h ▸ (List.mem_append_left _ (List.mem_append_right _ List.mem_cons_self)))
  have db413_b414 : b413 ≠ b414 := fun h => hnb414 (h ▸ (List.mem_append_right _ List.mem_cons_self))
  have da_b415 : a ≠ b415 := fun h => hnb415 (h ▸ (List.mem_append_left _ (List.mem_append_left _ (List.mem_append_left _ mt387))))
  have do1_b415 : o1 ≠ b415 := fun h => hnb415 (h ▸ (List.mem_append_left _ (List.mem_append_left _ (List.mem_append_left _ mt388))))
  have db6_b415 : b6 ≠ b415 := fun h => hnb415 (h ▸ (List.mem_append_left _ (List.mem_append_left _ (List.mem_append_left _ mt389))))
  have db7_b415 : b7 ≠ b415 := fun h => hnb415 (h ▸ (List.mem_append_left _ (List.mem_append_left _ (List.mem_append_left _ mt390))))
  have db8_b415 : b8 ≠ b415 := fun h => hnb415 (h ▸ (List.mem_append_left _ (List.mem_append_left _ (List.mem_append_left _ mt391))))
  have db17_b415 : b17 ≠ b415 := fun h => hnb415 (h ▸ (List.mem_append_left _ (List.mem_append_left _ (List.mem_append_left _ mt392))))
  have do52_b415 : o52 ≠ b415 := fun h => hnb415 (h ▸ (List.mem_append_left _ (List.mem_append_left _ (List.mem_append_left _ mt393))))
  have db62_b415 : b62 ≠ b415 := fun h => hnb415 (h ▸ (List.mem_append_left _ (List.mem_append_left _ (List.mem_append_left _ mt394))))
  have db63_b415 : b63 ≠ b415 := fun h => hnb415 (h ▸ (List.mem_append_left _ (List.mem_append_left _ (List.mem_append_left _ mt395))))
  have db64_b415 : b64 ≠ b415 := fun h => hnb415 (h ▸ (List.mem_append_left _ (List.mem_append_left _ (List.mem_append_left _ mt396))))
  have db65_b415 : b65 ≠ b415 := fun h => hnb415 (h ▸ (List.mem_append_left _ (List.mem_append_left _ (List.mem_append_left _ mt397))))
  have do85_b415 : o85 ≠ b415 := fun h => hnb415 (h ▸ (List.mem_append_left _ (List.mem_append_left _ (List.mem_append_left _ mt398))))
  have db100_b415 : b100 ≠ b415 := fun h => hnb415 (h ▸ (List.mem_append_left _ (List.mem_append_left _ (List.mem_append_left _ mt399))))
  have db101_b415 : b101 ≠ b415 := fun h => hnb415 (h ▸ (List.mem_append_left _ (List.mem_append_left _ (List.mem_append_left _ mt400))))
  have db102_b415 : b102 ≠ b415 := fun h => hnb415 (h ▸ (List.mem_append_left _ (List.mem_append_left _ (List.mem_append_left _ mt401))))
  have db103_b415 : b103 ≠ b415 := fun h => hnb415 (h ▸ (List.mem_append_left _ (List.mem_append_left _ (List.mem_append_left _ mt402))))
  have db133_b415 : b133 ≠ b415 := fun h => hnb415 (h ▸ (List.mem_append_left _ (List.mem_append_left _ (List.mem_append_left _ mt403))))
  have do187_b415 : o187 ≠ b415 := fun h => hnb415 (h ▸ (List.mem_append_left _ (List.mem_append_left _ (List.mem_append_left _ mt404))))
  have db208_b415 : b208 ≠ b415 := fun h => hnb415 (h ▸ (List.mem_append_left _ (List.mem_append_left _ (List.mem_append_left _ mt405))))
  have do247_b415 : o247 ≠ b415 := fun h => hnb415 (h ▸ (List.mem_append_left _ (List.mem_append_left _ (List.mem_append_left _ mt406))))
  have db270_b415 : b270 ≠ b415 := fun h => hnb415 (h ▸ (List.mem_append_left _ (List.mem_append_left _ (List.mem_append_left _ mt407))))
  have do313_b415 : o313 ≠ b415 := fun h => hnb415 (h ▸ (List.mem_append_left _ (List.mem_append_left _ (List.mem_append_left _ mt408))))
  have db338_b415 : b338 ≠ b415 := fun h => hnb415 (h ▸ (List.mem_append_left _ (List.mem_append_left _ (List.mem_append_left _ mt409))))
  have do385_b415 : o385 ≠ b415 := fun h => hnb415 (h ▸ (List.mem_append_left _ (List.mem_append_left _ (List.mem_append_left _ mo385))))
  have db412_b415 : b412 ≠ b415 := fun h => hnb415 (h ▸ (List.mem_append_left _ (List.mem_append_left _ (List.mem_append_right _ List.mem_cons_self))))
  have db413_b415 : b413 ≠ b415 := fun h => hnb415 (h ▸ (List.mem_append_left _ (List.mem_append_right _ List.mem_cons_self)))
  have db414_b415 : b414 ≠ b415 := fun h => hnb415 (h ▸ (List.mem_append_right _ List.mem_cons_self))
  have da_b416 : a ≠ b416 := fun h => hnb416 (h ▸ (List.mem_append_left _ (List.mem_append_left _ (List.mem_append_left _ (List.mem_append_left _ mt387)))))
  have do1_b416 : o1 ≠ b416 := fun h => hnb416 (h ▸ (List.mem_append_left _ (List.mem_append_left _ (List.mem_append_left _ (List.mem_append_left _ mt388)))))
  have db6_b416 : b6 ≠ b416 := fun h => hnb416 (h ▸ (List.mem_append_left _ (List.mem_append_left _ (List.mem_append_left _ (List.mem_append_left _ mt389)))))
  have db7_b416 : b7 ≠ b416 := fun h => hnb416 (h ▸ (List.mem_append_left _ (List.mem_append_left _ (List.mem_append_left _ (List.mem_append_left _ mt390)))))
  have db8_b416 : b8 ≠ b416 := fun h => hnb416 (h ▸ (List.mem_append_left _ (List.mem_append_left _ (List.mem_append_left _ (List.mem_append_left _ mt391)))))
  have db17_b416 : b17 ≠ b416 := fun h => hnb416 (h ▸ (List.mem_append_left _ (List.mem_append_left _ (List.mem_append_left _ (List.mem_append_left _ mt392)))))
  have do52_b416 : o52 ≠ b416 := fun h => hnb416 (h ▸ (List.mem_append_left _ (List.mem_append_left _ (List.mem_append_left _ (List.mem_append_left _ mt393)))))
  have db62_b416 : b62 ≠ b416 := fun h => hnb416 (h ▸ (List.mem_append_left _ (List.mem_append_left _ (List.mem_append_left _ (List.mem_append_left _ mt394)))))
  have db63_b416 : b63 ≠ b416 := fun h => hnb416 (h ▸ (List.mem_append_left _ (List.mem_append_left _ (List.mem_append_left _ (List.mem_append_left _ mt395)))))
  have db64_b416 : b64 ≠ b416 := fun h => hnb416 (h ▸ (List.mem_append_left _ (List.mem_append_left _ (List.mem_append_left _ (List.mem_append_left _ mt396)))))
  have db65_b416 : b65 ≠ b416 := fun h => hnb416 (h ▸ (List.mem_append_left _ (List.mem_append_left _ (List.mem_append_left _ (List.mem_append_left _ mt397)))))
  have do85_b416 : o85 ≠ b416 := fun h => hnb416 (h ▸ (List.mem_append_left _ (List.mem_append_left _ (List.mem_append_left _ (List.mem_append_left _ mt398)))))
  have db100_b416 : b100 ≠ b416 := fun h => hnb416 (h ▸ (List.mem_append_left _ (List.mem_append_left _ (List.mem_append_left _ (List.mem_append_left _ mt399)))))
  have db101_b416 : b101 ≠ b416 := fun h => hnb416 (h ▸ (List.mem_append_left _ (List.mem_append_left _ (List.mem_append_left _ (List.mem_append_left _ mt400)))))
  have db102_b416 : b102 ≠ b416 := fun h => hnb416 (h ▸ (List.mem_append_left _ (List.mem_append_left _ (List.mem_append_left _ (List.mem_append_left _ mt401)))))
  have db103_b416 : b103 ≠ b416 := fun h => hnb416 (h ▸ (List.mem_append_left _ (List.mem_append_left _ (List.mem_append_left _ (List.mem_append_left _ mt402)))))
  have db133_b416 : b133 ≠ b416 := fun h => hnb416 (h ▸ (List.mem_append_left _ (List.mem_append_left _ (List.mem_append_left _ (List.mem_append_left _ mt403)))))
  have do187_b416 : o187 ≠ b416 := fun h => hnb416 (h ▸ (List.mem_append_left _ (List.mem_append_left _ (List.mem_append_left _ (List.mem_append_left _ mt404)))))
  have db208_b416 : b208 ≠ b416 := fun h => hnb416 (h ▸ (List.mem_append_left _ (List.mem_append_left _ (List.mem_append_left _ (List.mem_append_left _ mt405)))))
  have do247_b416 : o247 ≠ b416 := fun h => hnb416 (h ▸ (List.mem_append_left _ (List.mem_append_left _ (List.mem_append_left _ (List.mem_append_left _ mt406)))))
  have db270_b416 : b270 ≠ b416 := fun h => hnb416 (h ▸ (List.mem_append_left _ (List.mem_append_left _ (List.mem_append_left _ (List.mem_append_left _ mt407)))))
  have do313_b416 : o313 ≠ b416 := fun h => hnb416 (h ▸ (List.mem_append_left _ (List.mem_append_left _ (List.mem_append_left _ (List.mem_append_left _ mt408)))))
  have db338_b416 : b338 ≠ b416 := fun h => hnb416 (h ▸ (List.mem_append_left _ (List.mem_append_left _ (List.mem_append_left _ (List.mem_append_left _ mt409)))))
  have do385_b416 : o385 ≠ b416 := fun h => hnb416 (h ▸ (List.mem_append_left _ (List.mem_append_left _ (List.mem_append_left _ (List.mem_append_left _ mo385)))))
  have db412_b416 : b412 ≠ b416 := fun h => hnb416 (h ▸ (List.mem_append_left _ (List.mem_append_left _ (List.mem_append_left _ (List.mem_append_right _ List.mem_cons_self)))))
  have db413_b416 : b413 ≠ b416 := fun h => hnb416 (h ▸ (List.mem_append_left _ (List.mem_append_left _ (List.mem_append_right _ List.mem_cons_self))))
  have db414_b416 : b414 ≠ b416 := fun h => hnb416 (h ▸ (List.mem_append_left _ (List.mem_append_right _ List.mem_cons_self)))
  have db415_b416 : b415 ≠ b416 := fun h => hnb416 (h ▸ (List.mem_append_right _ List.mem_cons_self))
  have fb412 : b412 ∉ (((((((((((((((((((((((u.1 ++ [o1]) ++ [b6]) ++ [b7]) ++ [b8]) ++ [b17]) ++ [o52]) ++ [b62]) ++ [b63]) ++ [b64]) ++ [b65]) ++ [o85]) ++ [b100]) ++ [b101]) ++ [b102]) ++ [b103]) ++ [b133]) ++ [o187]) ++ [b208]) ++ [o247]) ++ [b270]) ++ [o313]) ++ [b338]) ++ [o385]) := by rw [← hLu386]; exact hnb412
  have fb413 : b413 ∉ ((((((((((((((((((((((((u.1 ++ [o1]) ++ [b6]) ++ [b7]) ++ [b8]) ++ [b17]) ++ [o52]) ++ [b62]) ++ [b63]) ++ [b64]) ++ [b65]) ++ [o85]) ++ [b100]) ++ [b101]) ++ [b102]) ++ [b103]) ++ [b133]) ++ [o187]) ++ [b208]) ++ [o247]) ++ [b270]) ++ [o313]) ++ [b338]) ++ [o385]) ++ [b412]) := by rw [← hLu386]; exact hnb413
  have fb414 : b414 ∉ (((((((((((((((((((((((((u.1 ++ [o1]) ++ [b6]) ++ [b7]) ++ [b8]) ++ [b17]) ++ [o52]) ++ [b62]) ++ [b63]) ++ [b64]) ++ [b65]) ++ [o85]) ++ [b100]) ++ [b101]) ++ [b102]) ++ [b103]) ++ [b133]) ++ [o187]) ++ [b208]) ++ [o247]) ++ [b270]) ++ [o313]) ++ [b338]) ++ [o385]) ++ [b412]) ++ [b413]) := by rw [← hLu386]; exact hnb414
  have fb415 : b415 ∉ ((((((((((((((((((((((((((u.1 ++ [o1]) ++ [b6]) ++ [b7]) ++ [b8]) ++ [b17]) ++ [o52]) ++ [b62]) ++ [b63]) ++ [b64]) ++ [b65]) ++ [o85]) ++ [b100]) ++ [b101]) ++ [b102]) ++ [b103]) ++ [b133]) ++ [o187]) ++ [b208]) ++ [o247]) ++ [b270]) ++ [o313]) ++ [b338]) ++ [o385]) ++ [b412]) ++ [b413]) ++ [b414]) := by rw [← hLu386]; exact hnb415
  have fb416 : b416 ∉ (((((((((((((((((((((((((((u.1 ++ [o1]) ++ [b6]) ++ [b7]) ++ [b8]) ++ [b17]) ++ [o52]) ++ [b62]) ++ [b63]) ++ [b64]) ++ [b65]) ++ [o85]) ++ [b100]) ++ [b101]) ++ [b102]) ++ [b103]) ++ [b133]) ++ [o187]) ++ [b208]) ++ [o247]) ++ [b270]) ++ [o313]) ++ [b338]) ++ [o385]) ++ [b412]) ++ [b413]) ++ [b414]) ++ [b415]) := by rw [← hLu386]; exact hnb416
  have hLu410 : u410.1 = ((((((((((((((((((((((((((((u.1 ++ [o1]) ++ [b6]) ++ [b7]) ++ [b8]) ++ [b17]) ++ [o52]) ++ [b62]) ++ [b63]) ++ [b64]) ++ [b65]) ++ [o85]) ++ [b100]) ++ [b101]) ++ [b102]) ++ [b103]) ++ [b133]) ++ [o187]) ++ [b208]) ++ [o247]) ++ [b270]) ++ [o313]) ++ [b338]) ++ [o385]) ++ [b412]) ++ [b413]) ++ [b414]) ++ [b415]) ++ [b416]) := by rw [hu410, hLu386]
  have hMu410 : ∀ x, x ∈ u.1 → x ∈ u410.1 := fun x hx => by rw [hu410]; exact (List.mem_append_left _ (List.mem_append_left _ (List.mem_append_left _ (List.mem_append_left _ (List.mem_append_left _ (hMu386 x hx))))))
  have hOu410 : ∀ x, x ∈ u.1 → x ≠ a → u410.2 x = u.2 x := fun x hx ne => (hpu410 x (hMu386 x hx) (fun h => fo385 (h ▸ (List.mem_append_left _ (List.mem_append_left _ (List.mem_append_left _ (List.mem_append_left _ (List.mem_append_left _ (List.mem_append_left _ (List.mem_append_left _ (List.mem_append_left _ (List.mem_append_left _ (List.mem_append_left _ (List.mem_append_left _ (List.mem_append_left _ (List.mem_append_left _ (List.mem_append_left _ (List.mem_append_left _ (List.mem_append_left _ (List.mem_append_left _ (List.mem_append_left _ (List.mem_append_left _ (List.mem_append_left _ (List.mem_append_left _ (List.mem_append_left _ hx))))))))))))))))))))))))).trans (hOu386 x hx ne)
  have mt417 : a ∈ u410.1 := (fun x hx => by rw [hu410]; exact (List.mem_append_left _ (List.mem_append_left _ (List.mem_append_left _ (List.mem_append_left _ (List.mem_append_left _ hx))))) : ∀ x, x ∈ u386.1 → x ∈ u410.1) a mt387
  have et417 : u410.2 a = .inr (10, [.ref o1, .ref b17, .int (zI 0), .int (zI 5), .int (zI 20), .ref o52, .ref o85, .ref b133, .int (zI 0), .ref o187, .ref o247, .ref o313, .null, .null]) := (hpu410 a mt387 da_o385).trans et387
  have mt418 : o1 ∈ u410.1 := (fun x hx => by rw [hu410]; exact (List.mem_append_left _ (List.mem_append_left _ (List.mem_append_left _ (List.mem_append_left _ (List.mem_append_left _ hx))))) : ∀ x, x ∈ u386.1 → x ∈ u410.1) o1 mt388
  have et418 : u410.2 o1 = .inr (7, [.ref b6, .int (zI 0), .ref b7, .ref b8]) := (hpu410 o1 mt388 do1_o385).trans et388
  have mt419 : b6 ∈ u410.1 := (fun x hx => by rw [hu410]; exact (List.mem_append_left _ (List.mem_append_left _ (List.mem_append_left _ (List.mem_append_left _ (List.mem_append_left _ hx))))) : ∀ x, x ∈ u386.1 → x ∈ u410.1) b6 mt389
  have et419 : u410.2 b6 = .inl (cy 2, 288, .inl (fun _ => zI 0)) := (hpu410 b6 mt389 db6_o385).trans et389
  have mt420 : b7 ∈ u410.1 := (fun x hx => by rw [hu410]; exact (List.mem_append_left _ (List.mem_append_left _ (List.mem_append_left _ (List.mem_append_left _ (List.mem_append_left _ hx))))) : ∀ x, x ∈ u386.1 → x ∈ u410.1) b7 mt390
  have et420 : u410.2 b7 = .inl (cy 0, 36, .inl (fun _ => zI 0)) := (hpu410 b7 mt390 db7_o385).trans et390
  have mt421 : b8 ∈ u410.1 := (fun x hx => by rw [hu410]; exact (List.mem_append_left _ (List.mem_append_left _ (List.mem_append_left _ (List.mem_append_left _ (List.mem_append_left _ hx))))) : ∀ x, x ∈ u386.1 → x ∈ u410.1) b8 mt391
  have et421 : u410.2 b8 = .inl (cy 0, 36, .inl (fun _ => zI 0)) := (hpu410 b8 mt391 db8_o385).trans et391
  have mt422 : b17 ∈ u410.1 := (fun x hx => by rw [hu410]; exact (List.mem_append_left _ (List.mem_append_left _ (List.mem_append_left _ (List.mem_append_left _ (List.mem_append_left _ hx))))) : ∀ x, x ∈ u386.1 → x ∈ u410.1) b17 mt392
  have et422 : u410.2 b17 = .inl (cy 4, 10, .inr (.inr (.inr (.inr (fun _ => none))))) := (hpu410 b17 mt392 db17_o385).trans et392
  have mt423 : o52 ∈ u410.1 := (fun x hx => by rw [hu410]; exact (List.mem_append_left _ (List.mem_append_left _ (List.mem_append_left _ (List.mem_append_left _ (List.mem_append_left _ hx))))) : ∀ x, x ∈ u386.1 → x ∈ u410.1) o52 mt393
  have et423 : u410.2 o52 = .inr (8, [.int (zI 0), .int (zI 0), .int (zI 0), .ref b62, .ref b63, .ref b64, .ref b65, .int (zI 0), .int (zI 0)]) := (hpu410 o52 mt393 do52_o385).trans et393
  have mt424 : b62 ∈ u410.1 := (fun x hx => by rw [hu410]; exact (List.mem_append_left _ (List.mem_append_left _ (List.mem_append_left _ (List.mem_append_left _ (List.mem_append_left _ hx))))) : ∀ x, x ∈ u386.1 → x ∈ u410.1) b62 mt394
  have et424 : u410.2 b62 = .inl (cy 0, 101, .inl (fun _ => zI 0)) := (hpu410 b62 mt394 db62_o385).trans et394
  have mt425 : b63 ∈ u410.1 := (fun x hx => by rw [hu410]; exact (List.mem_append_left _ (List.mem_append_left _ (List.mem_append_left _ (List.mem_append_left _ (List.mem_append_left _ hx))))) : ∀ x, x ∈ u386.1 → x ∈ u410.1) b63 mt395
  have et425 : u410.2 b63 = .inl (cy 0, 101, .inl (fun _ => zI 0)) := (hpu410 b63 mt395 db63_o385).trans et395
  have mt426 : b64 ∈ u410.1 := (fun x hx => by rw [hu410]; exact (List.mem_append_left _ (List.mem_append_left _ (List.mem_append_left _ (List.mem_append_left _ (List.mem_append_left _ hx))))) : ∀ x, x ∈ u386.1 → x ∈ u410.1) b64 mt396
  have et426 : u410.2 b64 = .inl (cy 0, 100, .inl (fun _ => zI 0)) := (hpu410 b64 mt396 db64_o385).trans et396
  have mt427 : b65 ∈ u410.1 := (fun x hx => by rw [hu410]; exact (List.mem_append_left _ (List.mem_append_left _ (List.mem_append_left _ (List.mem_append_left _ (List.mem_append_left _ hx))))) : ∀ x, x ∈ u386.1 → x ∈ u410.1) b65 mt397
  have et427 : u410.2 b65 = .inl (cy 0, 101, .inl (fun _ => zI 0)) := (hpu410 b65 mt397 db65_o385).trans et397
  have mt428 : o85 ∈ u410.1 := (fun x hx => by rw [hu410]; exact (List.mem_append_left _ (List.mem_append_left _ (List.mem_append_left _ (List.mem_append_left _ (List.mem_append_left _ hx))))) : ∀ x, x ∈ u386.1 → x ∈ u410.1) o85 mt398
  have et428 : u410.2 o85 = .inr (8, [.int (zI 0), .int (zI 0), .int (zI 0), .ref b100, .ref b101, .ref b102, .ref b103, .int (zI 0), .int (zI 0)]) := (hpu410 o85 mt398 do85_o385).trans et398
  have mt429 : b100 ∈ u410.1 := (fun x hx => by rw [hu410]; exact (List.mem_append_left _ (List.mem_append_left _ (List.mem_append_left _ (List.mem_append_left _ (List.mem_append_left _ hx))))) : ∀ x, x ∈ u386.1 → x ∈ u410.1) b100 mt399
  have et429 : u410.2 b100 = .inl (cy 0, 101, .inl (fun _ => zI 0)) := (hpu410 b100 mt399 db100_o385).trans et399
  have mt430 : b101 ∈ u410.1 := (fun x hx => by rw [hu410]; exact (List.mem_append_left _ (List.mem_append_left _ (List.mem_append_left _ (List.mem_append_left _ (List.mem_append_left _ hx))))) : ∀ x, x ∈ u386.1 → x ∈ u410.1) b101 mt400
  have et430 : u410.2 b101 = .inl (cy 0, 101, .inl (fun _ => zI 0)) := (hpu410 b101 mt400 db101_o385).trans et400
  have mt431 : b102 ∈ u410.1 := (fun x hx => by rw [hu410]; exact (List.mem_append_left _ (List.mem_append_left _ (List.mem_append_left _ (List.mem_append_left _ (List.mem_append_left _ hx))))) : ∀ x, x ∈ u386.1 → x ∈ u410.1) b102 mt401
  have et431 : u410.2 b102 = .inl (cy 0, 100, .inl (fun _ => zI 0)) := (hpu410 b102 mt401 db102_o385).trans et401
  have mt432 : b103 ∈ u410.1 := (fun x hx => by rw [hu410]; exact (List.mem_append_left _ (List.mem_append_left _ (List.mem_append_left _ (List.mem_append_left _ (List.mem_append_left _ hx))))) : ∀ x, x ∈ u386.1 → x ∈ u410.1) b103 mt402
  have et432 : u410.2 b103 = .inl (cy 0, 101, .inl (fun _ => zI 0)) := (hpu410 b103 mt402 db103_o385).trans et402
  have mt433 : b133 ∈ u410.1 := (fun x hx => by rw [hu410]; exact (List.mem_append_left _ (List.mem_append_left _ (List.mem_append_left _ (List.mem_append_left _ (List.mem_append_left _ hx))))) : ∀ x, x ∈ u386.1 → x ∈ u410.1) b133 mt403
  have et433 : u410.2 b133 = .inl (cy 5, 8, .inr (.inr (.inr (.inr (fun _ => none))))) := (hpu410 b133 mt403 db133_o385).trans et403
  have mt434 : o187 ∈ u410.1 := (fun x hx => by rw [hu410]; exact (List.mem_append_left _ (List.mem_append_left _ (List.mem_append_left _ (List.mem_append_left _ (List.mem_append_left _ hx))))) : ∀ x, x ∈ u386.1 → x ∈ u410.1) o187 mt404
  have et434 : u410.2 o187 = .inr (9, [.ref b208, .int (zI 0)]) := (hpu410 o187 mt404 do187_o385).trans et404
  have mt435 : b208 ∈ u410.1 := (fun x hx => by rw [hu410]; exact (List.mem_append_left _ (List.mem_append_left _ (List.mem_append_left _ (List.mem_append_left _ (List.mem_append_left _ hx))))) : ∀ x, x ∈ u386.1 → x ∈ u410.1) b208 mt405
  have et435 : u410.2 b208 = .inl (cy 0, 60, .inl (fun _ => zI 0)) := (hpu410 b208 mt405 db208_o385).trans et405
  have mt436 : o247 ∈ u410.1 := (fun x hx => by rw [hu410]; exact (List.mem_append_left _ (List.mem_append_left _ (List.mem_append_left _ (List.mem_append_left _ (List.mem_append_left _ hx))))) : ∀ x, x ∈ u386.1 → x ∈ u410.1) o247 mt406
  have et436 : u410.2 o247 = .inr (9, [.ref b270, .int (zI 0)]) := (hpu410 o247 mt406 do247_o385).trans et406
  have mt437 : b270 ∈ u410.1 := (fun x hx => by rw [hu410]; exact (List.mem_append_left _ (List.mem_append_left _ (List.mem_append_left _ (List.mem_append_left _ (List.mem_append_left _ hx))))) : ∀ x, x ∈ u386.1 → x ∈ u410.1) b270 mt407
  have et437 : u410.2 b270 = .inl (cy 0, 6, .inl (fun _ => zI 0)) := (hpu410 b270 mt407 db270_o385).trans et407
  have mt438 : o313 ∈ u410.1 := (fun x hx => by rw [hu410]; exact (List.mem_append_left _ (List.mem_append_left _ (List.mem_append_left _ (List.mem_append_left _ (List.mem_append_left _ hx))))) : ∀ x, x ∈ u386.1 → x ∈ u410.1) o313 mt408
  have et438 : u410.2 o313 = .inr (9, [.ref b338, .int (zI 0)]) := (hpu410 o313 mt408 do313_o385).trans et408
  have mt439 : b338 ∈ u410.1 := (fun x hx => by rw [hu410]; exact (List.mem_append_left _ (List.mem_append_left _ (List.mem_append_left _ (List.mem_append_left _ (List.mem_append_left _ hx))))) : ∀ x, x ∈ u386.1 → x ∈ u410.1) b338 mt409
  have et439 : u410.2 b338 = .inl (cy 0, 40, .inl (fun _ => zI 0)) := (hpu410 b338 mt409 db338_o385).trans et409
  have mt440 : o385 ∈ u410.1 := (fun x hx => by rw [hu410]; exact (List.mem_append_left _ (List.mem_append_left _ (List.mem_append_left _ (List.mem_append_left _ (List.mem_append_left _ hx))))) : ∀ x, x ∈ u386.1 → x ∈ u410.1) o385 mo385
  have mb412 : b412 ∈ u410.1 := by rw [hu410]; exact (List.mem_append_left _ (List.mem_append_left _ (List.mem_append_left _ (List.mem_append_left _ (List.mem_append_right _ List.mem_cons_self)))))
  have mb413 : b413 ∈ u410.1 := by rw [hu410]; exact (List.mem_append_left _ (List.mem_append_left _ (List.mem_append_left _ (List.mem_append_right _ List.mem_cons_self))))
  have mb414 : b414 ∈ u410.1 := by rw [hu410]; exact (List.mem_append_left _ (List.mem_append_left _ (List.mem_append_right _ List.mem_cons_self)))
  have mb415 : b415 ∈ u410.1 := by rw [hu410]; exact (List.mem_append_left _ (List.mem_append_right _ List.mem_cons_self))
  have mb416 : b416 ∈ u410.1 := by rw [hu410]; exact (List.mem_append_right _ List.mem_cons_self)
  obtain ⟨k9, hk9⟩ := p_get D u410 mt417
  refine va_putF (C := RX11) (T := TX11) (N := 14) (ci := 10) (ty := tyX11 12) hx hb hts (fun _ h => (List.mem_cons_of_mem _ (List.mem_append_left _ (List.mem_append_left _ (List.mem_append_left _ (List.mem_append_right _ h)))))) tyX11 tyX11_ok nmX11 hown hI.1 hG.1 hG.2 hS k9 (hk9.trans (by rw [et417])) rfl 12 (by decide) (hts (.fieldLink RX11 69 "StraitSwim" "neap" "LStraitSwim$Neap;") (List.mem_cons_of_mem _ (List.mem_append_left _ (List.mem_append_left _ (List.mem_append_left _ (List.mem_append_left _ (List.mem_append_left _ (List.mem_append_right _ (List.mem_append_left _ (List.mem_of_getElem? (i := 5) rfl)))))))))) (fun _ h9 => h9) rfl hin2 rfl (tyX11_ok 12 (by decide)) rfl rfl (Nat.le_of_ble_eq_true rfl) dX11_init_123 (fun H locs hP hD hS => ?_)
  obtain ⟨u441, hu441, hEu441, hpu441, hG⟩ := p_set (e := .inr (10, [.ref o1, .ref b17, .int (zI 0), .int (zI 5), .int (zI 20), .ref o52, .ref o85, .ref b133, .int (zI 0), .ref o187, .ref o247, .ref o313, .ref o385, .null])) hG mt417 hk9 hP hD
  have mt442 : a ∈ u441.1 := (fun x hx => by rw [hu441]; exact hx : ∀ x, x ∈ u410.1 → x ∈ u441.1) a mt417
  have mt443 : o1 ∈ u441.1 := (fun x hx => by rw [hu441]; exact hx : ∀ x, x ∈ u410.1 → x ∈ u441.1) o1 mt418
  have et443 : u441.2 o1 = .inr (7, [.ref b6, .int (zI 0), .ref b7, .ref b8]) := (hpu441 o1 (fun h => (fun h9 => da_o1 h9.symm) h)).trans et418
  have mt444 : b6 ∈ u441.1 := (fun x hx => by rw [hu441]; exact hx : ∀ x, x ∈ u410.1 → x ∈ u441.1) b6 mt419
  have et444 : u441.2 b6 = .inl (cy 2, 288, .inl (fun _ => zI 0)) := (hpu441 b6 (fun h => (fun h9 => da_b6 h9.symm) h)).trans et419
  have mt445 : b7 ∈ u441.1 := (fun x hx => by rw [hu441]; exact hx : ∀ x, x ∈ u410.1 → x ∈ u441.1) b7 mt420
  have et445 : u441.2 b7 = .inl (cy 0, 36, .inl (fun _ => zI 0)) := (hpu441 b7 (fun h => (fun h9 => da_b7 h9.symm) h)).trans et420
  have mt446 : b8 ∈ u441.1 := (fun x hx => by rw [hu441]; exact hx : ∀ x, x ∈ u410.1 → x ∈ u441.1) b8 mt421
  have et446 : u441.2 b8 = .inl (cy 0, 36, .inl (fun _ => zI 0)) := (hpu441 b8 (fun h => (fun h9 => da_b8 h9.symm) h)).trans et421
  have mt447 : b17 ∈ u441.1 := (fun x hx => by rw [hu441]; exact hx : ∀ x, x ∈ u410.1 → x ∈ u441.1) b17 mt422
  have et447 : u441.2 b17 = .inl (cy 4, 10, .inr (.inr (.inr (.inr (fun _ => none))))) := (hpu441 b17 (fun h => (fun h9 => da_b17 h9.symm) h)).trans et422
  have mt448 : o52 ∈ u441.1 := (fun x hx => by rw [hu441]; exact hx : ∀ x, x ∈ u410.1 → x ∈ u441.1) o52 mt423
  have et448 : u441.2 o52 = .inr (8, [.int (zI 0), .int (zI 0), .int (zI 0), .ref b62, .ref b63, .ref b64, .ref b65, .int (zI 0), .int (zI 0)]) := (hpu441 o52 (fun h => (fun h9 => da_o52 h9.symm) h)).trans et423
  have mt449 : b62 ∈ u441.1 := (fun x hx => by rw [hu441]; exact hx : ∀ x, x ∈ u410.1 → x ∈ u441.1) b62 mt424
  have et449 : u441.2 b62 = .inl (cy 0, 101, .inl (fun _ => zI 0)) := (hpu441 b62 (fun h => (fun h9 => da_b62 h9.symm) h)).trans et424
  have mt450 : b63 ∈ u441.1 := (fun x hx => by rw [hu441]; exact hx : ∀ x, x ∈ u410.1 → x ∈ u441.1) b63 mt425
  have et450 : u441.2 b63 = .inl (cy 0, 101, .inl (fun _ => zI 0)) := (hpu441 b63 (fun h => (fun h9 => da_b63 h9.symm) h)).trans et425
  have mt451 : b64 ∈ u441.1 := (fun x hx => by rw [hu441]; exact hx : ∀ x, x ∈ u410.1 → x ∈ u441.1) b64 mt426
  have et451 : u441.2 b64 = .inl (cy 0, 100, .inl (fun _ => zI 0)) := (hpu441 b64 (fun h => (fun h9 => da_b64 h9.symm) h)).trans et426
  have mt452 : b65 ∈ u441.1 := (fun x hx => by rw [hu441]; exact hx : ∀ x, x ∈ u410.1 → x ∈ u441.1) b65 mt427
  have et452 : u441.2 b65 = .inl (cy 0, 101, .inl (fun _ => zI 0)) := (hpu441 b65 (fun h => (fun h9 => da_b65 h9.symm) h)).trans et427
  have mt453 : o85 ∈ u441.1 := (fun x hx => by rw [hu441]; exact hx : ∀ x, x ∈ u410.1 → x ∈ u441.1) o85 mt428
  have et453 : u441.2 o85 = .inr (8, [.int (zI 0), .int (zI 0), .int (zI 0), .ref b100, .ref b101, .ref b102, .ref b103, .int (zI 0), .int (zI 0)]) := (hpu441 o85 (fun h => (fun h9 => da_o85 h9.symm) h)).trans et428
  have mt454 : b100 ∈ u441.1 := (fun x hx => by rw [hu441]; exact hx : ∀ x, x ∈ u410.1 → x ∈ u441.1) b100 mt429
  have et454 : u441.2 b100 = .inl (cy 0, 101, .inl (fun _ => zI 0)) := (hpu441 b100 (fun h => (fun h9 => da_b100 h9.symm) h)).trans et429
  have mt455 : b101 ∈ u441.1 := (fun x hx => by rw [hu441]; exact hx : ∀ x, x ∈ u410.1 → x ∈ u441.1) b101 mt430
  have et455 : u441.2 b101 = .inl (cy 0, 101, .inl (fun _ => zI 0)) := (hpu441 b101 (fun h => (fun h9 => da_b101 h9.symm) h)).trans et430
  have mt456 : b102 ∈ u441.1 := (fun x hx => by rw [hu441]; exact hx : ∀ x, x ∈ u410.1 → x ∈ u441.1) b102 mt431
  have et456 : u441.2 b102 = .inl (cy 0, 100, .inl (fun _ => zI 0)) := (hpu441 b102 (fun h => (fun h9 => da_b102 h9.symm) h)).trans et431
  have mt457 : b103 ∈ u441.1 := (fun x hx => by rw [hu441]; exact hx : ∀ x, x ∈ u410.1 → x ∈ u441.1) b103 mt432
  have et457 : u441.2 b103 = .inl (cy 0, 101, .inl (fun _ => zI 0)) := (hpu441 b103 (fun h => (fun h9 => da_b103 h9.symm) h)).trans et432
  have mt458 : b133 ∈ u441.1 := (fun x hx => by rw [hu441]; exact hx : ∀ x, x ∈ u410.1 → x ∈ u441.1) b133 mt433
  have et458 : u441.2 b133 = .inl (cy 5, 8, .inr (.inr (.inr (.inr (fun _ => none))))) := (hpu441 b133 (fun h => (fun h9 => da_b133 h9.symm) h)).trans et433
  have mt459 : o187 ∈ u441.1 := (fun x hx => by rw [hu441]; exact hx : ∀ x, x ∈ u410.1 → x ∈ u441.1) o187 mt434
  have et459 : u441.2 o187 = .inr (9, [.ref b208, .int (zI 0)]) := (hpu441 o187 (fun h => (fun h9 => da_o187 h9.symm) h)).trans et434
  have mt460 : b208 ∈ u441.1 := (fun x hx => by rw [hu441]; exact hx : ∀ x, x ∈ u410.1 → x ∈ u441.1) b208 mt435
  have et460 : u441.2 b208 = .inl (cy 0, 60, .inl (fun _ => zI 0)) := (hpu441 b208 (fun h => (fun h9 => da_b208 h9.symm) h)).trans et435
  have mt461 : o247 ∈ u441.1 := (fun x hx => by rw [hu441]; exact hx : ∀ x, x ∈ u410.1 → x ∈ u441.1) o247 mt436
  have et461 : u441.2 o247 = .inr (9, [.ref b270, .int (zI 0)]) := (hpu441 o247 (fun h => (fun h9 => da_o247 h9.symm) h)).trans et436
  have mt462 : b270 ∈ u441.1 := (fun x hx => by rw [hu441]; exact hx : ∀ x, x ∈ u410.1 → x ∈ u441.1) b270 mt437
  have et462 : u441.2 b270 = .inl (cy 0, 6, .inl (fun _ => zI 0)) := (hpu441 b270 (fun h => (fun h9 => da_b270 h9.symm) h)).trans et437
  have mt463 : o313 ∈ u441.1 := (fun x hx => by rw [hu441]; exact hx : ∀ x, x ∈ u410.1 → x ∈ u441.1) o313 mt438
  have et463 : u441.2 o313 = .inr (9, [.ref b338, .int (zI 0)]) := (hpu441 o313 (fun h => (fun h9 => da_o313 h9.symm) h)).trans et438
  have mt464 : b338 ∈ u441.1 := (fun x hx => by rw [hu441]; exact hx : ∀ x, x ∈ u410.1 → x ∈ u441.1) b338 mt439
  have et464 : u441.2 b338 = .inl (cy 0, 40, .inl (fun _ => zI 0)) := (hpu441 b338 (fun h => (fun h9 => da_b338 h9.symm) h)).trans et439
  have mt465 : o385 ∈ u441.1 := (fun x hx => by rw [hu441]; exact hx : ∀ x, x ∈ u410.1 → x ∈ u441.1) o385 mt440
  have et465 : u441.2 o385 = .inr (1, [.int (zI 0), .ref b412, .ref b413, .ref b414, .ref b415, .ref b416, .int (zI 0)]) := (hpu441 o385 (fun h => (fun h9 => da_o385 h9.symm) h)).trans hEou410
  have mt466 : b412 ∈ u441.1 := (fun x hx => by rw [hu441]; exact hx : ∀ x, x ∈ u410.1 → x ∈ u441.1) b412 mb412
  have et466 : u441.2 b412 = .inl (cy 2, 10, .inl (fun _ => zI 0)) := (hpu441 b412 (fun h => (fun h9 => da_b412 h9.symm) h)).trans hEb412
  have mt467 : b413 ∈ u441.1 := (fun x hx => by rw [hu441]; exact hx : ∀ x, x ∈ u410.1 → x ∈ u441.1) b413 mb413
  have et467 : u441.2 b413 = .inl (cy 0, 10, .inl (fun _ => zI 0)) := (hpu441 b413 (fun h => (fun h9 => da_b413 h9.symm) h)).trans hEb413
  have mt468 : b414 ∈ u441.1 := (fun x hx => by rw [hu441]; exact hx : ∀ x, x ∈ u410.1 → x ∈ u441.1) b414 mb414
  have et468 : u441.2 b414 = .inl (cy 0, 10, .inl (fun _ => zI 0)) := (hpu441 b414 (fun h => (fun h9 => da_b414 h9.symm) h)).trans hEb414
  have mt469 : b415 ∈ u441.1 := (fun x hx => by rw [hu441]; exact hx : ∀ x, x ∈ u410.1 → x ∈ u441.1) b415 mb415
  have et469 : u441.2 b415 = .inl (cy 0, 10, .inl (fun _ => zI 0)) := (hpu441 b415 (fun h => (fun h9 => da_b415 h9.symm) h)).trans hEb415
  have mt470 : b416 ∈ u441.1 := (fun x hx => by rw [hu441]; exact hx : ∀ x, x ∈ u410.1 → x ∈ u441.1) b416 mb416
  have et470 : u441.2 b416 = .inl (cy 0, 16, .inl (fun _ => zI 0)) := (hpu441 b416 (fun h => (fun h9 => da_b416 h9.symm) h)).trans hEb416
  have hLu441 : u441.1 = ((((((((((((((((((((((((((((u.1 ++ [o1]) ++ [b6]) ++ [b7]) ++ [b8]) ++ [b17]) ++ [o52]) ++ [b62]) ++ [b63]) ++ [b64]) ++ [b65]) ++ [o85]) ++ [b100]) ++ [b101]) ++ [b102]) ++ [b103]) ++ [b133]) ++ [o187]) ++ [b208]) ++ [o247]) ++ [b270]) ++ [o313]) ++ [b338]) ++ [o385]) ++ [b412]) ++ [b413]) ++ [b414]) ++ [b415]) ++ [b416]) := by rw [hu441, hLu410]
  have hMu441 : ∀ x, x ∈ u.1 → x ∈ u441.1 := fun x hx => by rw [hu441]; exact hMu410 x hx
  have hOu441 : ∀ x, x ∈ u.1 → x ≠ a → u441.2 x = u.2 x := fun x hx ne => (hpu441 x ne).trans (hOu410 x hx ne)
  refine lv_aload_n hx hb dX11_init_126 rfl (lv_at hl 0 rfl) ?_
  refine z_bipush hx hb dX11_init_127 (by decide) ?_
  refine p_newQ (C := RX1) (k := 3) (z := 8) (M := 8) hx hb hown (hts (.classLink RX11 73 RX1) (List.mem_cons_of_mem _ (List.mem_append_left _ (List.mem_append_left _ (List.mem_append_left _ (List.mem_append_left _ (List.mem_append_left _ (List.mem_append_right _ (List.mem_append_left _ (List.mem_of_getElem? (i := 6) rfl)))))))))) hI.2.2.1.2.2 rfl hI hG hS (by omega) (by omega) (by omega) (Nat.le_of_ble_eq_true rfl) (Nat.le_of_ble_eq_true rfl) dX11_init_129 (fun b471 u472 H hu472 hEb471 hpu472 hnb471 hG hS => ?_)
  have hEb471 : u472.2 b471 = .inl (cy 3, 8, .inr (.inr (.inr (.inr (fun _ => none))))) := hEb471
  have fb471 : b471 ∉ ((((((((((((((((((((((((((((u.1 ++ [o1]) ++ [b6]) ++ [b7]) ++ [b8]) ++ [b17]) ++ [o52]) ++ [b62]) ++ [b63]) ++ [b64]) ++ [b65]) ++ [o85]) ++ [b100]) ++ [b101]) ++ [b102]) ++ [b103]) ++ [b133]) ++ [o187]) ++ [b208]) ++ [o247]) ++ [b270]) ++ [o313]) ++ [b338]) ++ [o385]) ++ [b412]) ++ [b413]) ++ [b414]) ++ [b415]) ++ [b416]) := by rw [← hLu441]; exact hnb471
  have hLu472 : u472.1 = (((((((((((((((((((((((((((((u.1 ++ [o1]) ++ [b6]) ++ [b7]) ++ [b8]) ++ [b17]) ++ [o52]) ++ [b62]) ++ [b63]) ++ [b64]) ++ [b65]) ++ [o85]) ++ [b100]) ++ [b101]) ++ [b102]) ++ [b103]) ++ [b133]) ++ [o187]) ++ [b208]) ++ [o247]) ++ [b270]) ++ [o313]) ++ [b338]) ++ [o385]) ++ [b412]) ++ [b413]) ++ [b414]) ++ [b415]) ++ [b416]) ++ [b471]) := by rw [hu472, hLu441]
  have hMu472 : ∀ x, x ∈ u.1 → x ∈ u472.1 := fun x hx => by rw [hu472]; exact List.mem_append_left _ (hMu441 x hx)
  have hOu472 : ∀ x, x ∈ u.1 → x ≠ a → u472.2 x = u.2 x := fun x hx ne => (hpu472 x (hMu441 x hx)).trans (hOu441 x hx ne)
  have da_b471 : a ≠ b471 := fun h => hnb471 (h ▸ mt442)
  have do1_b471 : o1 ≠ b471 := fun h => hnb471 (h ▸ mt443)
  have db6_b471 : b6 ≠ b471 := fun h => hnb471 (h ▸ mt444)
  have db7_b471 : b7 ≠ b471 := fun h => hnb471 (h ▸ mt445)
  have db8_b471 : b8 ≠ b471 := fun h => hnb471 (h ▸ mt446)
  have db17_b471 : b17 ≠ b471 := fun h => hnb471 (h ▸ mt447)
  have do52_b471 : o52 ≠ b471 := fun h => hnb471 (h ▸ mt448)
  have db62_b471 : b62 ≠ b471 := fun h => hnb471 (h ▸ mt449)
  have db63_b471 : b63 ≠ b471 := fun h => hnb471 (h ▸ mt450)
  have db64_b471 : b64 ≠ b471 := fun h => hnb471 (h ▸ mt451)
  have db65_b471 : b65 ≠ b471 := fun h => hnb471 (h ▸ mt452)
  have do85_b471 : o85 ≠ b471 := fun h => hnb471 (h ▸ mt453)
  have db100_b471 : b100 ≠ b471 := fun h => hnb471 (h ▸ mt454)
  have db101_b471 : b101 ≠ b471 := fun h => hnb471 (h ▸ mt455)
  have db102_b471 : b102 ≠ b471 := fun h => hnb471 (h ▸ mt456)
  have db103_b471 : b103 ≠ b471 := fun h => hnb471 (h ▸ mt457)
  have db133_b471 : b133 ≠ b471 := fun h => hnb471 (h ▸ mt458)
  have do187_b471 : o187 ≠ b471 := fun h => hnb471 (h ▸ mt459)
  have db208_b471 : b208 ≠ b471 := fun h => hnb471 (h ▸ mt460)
  have do247_b471 : o247 ≠ b471 := fun h => hnb471 (h ▸ mt461)
  have db270_b471 : b270 ≠ b471 := fun h => hnb471 (h ▸ mt462)
  have do313_b471 : o313 ≠ b471 := fun h => hnb471 (h ▸ mt463)
  have db338_b471 : b338 ≠ b471 := fun h => hnb471 (h ▸ mt464)
  have do385_b471 : o385 ≠ b471 := fun h => hnb471 (h ▸ mt465)
  have db412_b471 : b412 ≠ b471 := fun h => hnb471 (h ▸ mt466)
  have db413_b471 : b413 ≠ b471 := fun h => hnb471 (h ▸ mt467)
  have db414_b471 : b414 ≠ b471 := fun h => hnb471 (h ▸ mt468)
  have db415_b471 : b415 ≠ b471 := fun h => hnb471 (h ▸ mt469)
  have db416_b471 : b416 ≠ b471 := fun h => hnb471 (h ▸ mt470)
  have mt473 : a ∈ u472.1 := (fun x hx => by rw [hu472]; exact List.mem_append_left _ hx : ∀ x, x ∈ u441.1 → x ∈ u472.1) a mt442
  have et473 : u472.2 a = .inr (10, [.ref o1, .ref b17, .int (zI 0), .int (zI 5), .int (zI 20), .ref o52, .ref o85, .ref b133, .int (zI 0), .ref o187, .ref o247, .ref o313, .ref o385, .null]) := (hpu472 a mt442).trans hEu441
  have mt474 : o1 ∈ u472.1 := (fun x hx => by rw [hu472]; exact List.mem_append_left _ hx : ∀ x, x ∈ u441.1 → x ∈ u472.1) o1 mt443
  have et474 : u472.2 o1 = .inr (7, [.ref b6, .int (zI 0), .ref b7, .ref b8]) := (hpu472 o1 mt443).trans et443
  have mt475 : b6 ∈ u472.1 := (fun x hx => by rw [hu472]; exact List.mem_append_left _ hx : ∀ x, x ∈ u441.1 → x ∈ u472.1) b6 mt444
  have et475 : u472.2 b6 = .inl (cy 2, 288, .inl (fun _ => zI 0)) := (hpu472 b6 mt444).trans et444
  have mt476 : b7 ∈ u472.1 := (fun x hx => by rw [hu472]; exact List.mem_append_left _ hx : ∀ x, x ∈ u441.1 → x ∈ u472.1) b7 mt445
  have et476 : u472.2 b7 = .inl (cy 0, 36, .inl (fun _ => zI 0)) := (hpu472 b7 mt445).trans et445
  have mt477 : b8 ∈ u472.1 := (fun x hx => by rw [hu472]; exact List.mem_append_left _ hx : ∀ x, x ∈ u441.1 → x ∈ u472.1) b8 mt446
  have et477 : u472.2 b8 = .inl (cy 0, 36, .inl (fun _ => zI 0)) := (hpu472 b8 mt446).trans et446
  have mt478 : b17 ∈ u472.1 := (fun x hx => by rw [hu472]; exact List.mem_append_left _ hx : ∀ x, x ∈ u441.1 → x ∈ u472.1) b17 mt447
  have et478 : u472.2 b17 = .inl (cy 4, 10, .inr (.inr (.inr (.inr (fun _ => none))))) := (hpu472 b17 mt447).trans et447
  have mt479 : o52 ∈ u472.1 := (fun x hx => by rw [hu472]; exact List.mem_append_left _ hx : ∀ x, x ∈ u441.1 → x ∈ u472.1) o52 mt448
  have et479 : u472.2 o52 = .inr (8, [.int (zI 0), .int (zI 0), .int (zI 0), .ref b62, .ref b63, .ref b64, .ref b65, .int (zI 0), .int (zI 0)]) := (hpu472 o52 mt448).trans et448
  have mt480 : b62 ∈ u472.1 := (fun x hx => by rw [hu472]; exact List.mem_append_left _ hx : ∀ x, x ∈ u441.1 → x ∈ u472.1) b62 mt449
  have et480 : u472.2 b62 = .inl (cy 0, 101, .inl (fun _ => zI 0)) := (hpu472 b62 mt449).trans et449
  have mt481 : b63 ∈ u472.1 := (fun x hx => by rw [hu472]; exact List.mem_append_left _ hx : ∀ x, x ∈ u441.1 → x ∈ u472.1) b63 mt450
  have et481 : u472.2 b63 = .inl (cy 0, 101, .inl (fun _ => zI 0)) := (hpu472 b63 mt450).trans et450
  have mt482 : b64 ∈ u472.1 := (fun x hx => by rw [hu472]; exact List.mem_append_left _ hx : ∀ x, x ∈ u441.1 → x ∈ u472.1) b64 mt451
  have et482 : u472.2 b64 = .inl (cy 0, 100, .inl (fun _ => zI 0)) := (hpu472 b64 mt451).trans et451
  have mt483 : b65 ∈ u472.1 := (fun x hx => by rw [hu472]; exact List.mem_append_left _ hx : ∀ x, x ∈ u441.1 → x ∈ u472.1) b65 mt452
  have et483 : u472.2 b65 = .inl (cy 0, 101, .inl (fun _ => zI 0)) := (hpu472 b65 mt452).trans et452
  have mt484 : o85 ∈ u472.1 := (fun x hx => by rw [hu472]; exact List.mem_append_left _ hx : ∀ x, x ∈ u441.1 → x ∈ u472.1) o85 mt453
  have et484 : u472.2 o85 = .inr (8, [.int (zI 0), .int (zI 0), .int (zI 0), .ref b100, .ref b101, .ref b102, .ref b103, .int (zI 0), .int (zI 0)]) := (hpu472 o85 mt453).trans et453
  have mt485 : b100 ∈ u472.1 := (fun x hx => by rw [hu472]; exact List.mem_append_left _ hx : ∀ x, x ∈ u441.1 → x ∈ u472.1) b100 mt454
  have et485 : u472.2 b100 = .inl (cy 0, 101, .inl (fun _ => zI 0)) := (hpu472 b100 mt454).trans et454
  have mt486 : b101 ∈ u472.1 := (fun x hx => by rw [hu472]; exact List.mem_append_left _ hx : ∀ x, x ∈ u441.1 → x ∈ u472.1) b101 mt455
  have et486 : u472.2 b101 = .inl (cy 0, 101, .inl (fun _ => zI 0)) := (hpu472 b101 mt455).trans et455
  have mt487 : b102 ∈ u472.1 := (fun x hx => by rw [hu472]; exact List.mem_append_left _ hx : ∀ x, x ∈ u441.1 → x ∈ u472.1) b102 mt456
  have et487 : u472.2 b102 = .inl (cy 0, 100, .inl (fun _ => zI 0)) := (hpu472 b102 mt456).trans et456
  have mt488 : b103 ∈ u472.1 := (fun x hx => by rw [hu472]; exact List.mem_append_left _ hx : ∀ x, x ∈ u441.1 → x ∈ u472.1) b103 mt457
  have et488 : u472.2 b103 = .inl (cy 0, 101, .inl (fun _ => zI 0)) := (hpu472 b103 mt457).trans et457
  have mt489 : b133 ∈ u472.1 := (fun x hx => by rw [hu472]; exact List.mem_append_left _ hx : ∀ x, x ∈ u441.1 → x ∈ u472.1) b133 mt458
  have et489 : u472.2 b133 = .inl (cy 5, 8, .inr (.inr (.inr (.inr (fun _ => none))))) := (hpu472 b133 mt458).trans et458
  have mt490 : o187 ∈ u472.1 := (fun x hx => by rw [hu472]; exact List.mem_append_left _ hx : ∀ x, x ∈ u441.1 → x ∈ u472.1) o187 mt459
  have et490 : u472.2 o187 = .inr (9, [.ref b208, .int (zI 0)]) := (hpu472 o187 mt459).trans et459
  have mt491 : b208 ∈ u472.1 := (fun x hx => by rw [hu472]; exact List.mem_append_left _ hx : ∀ x, x ∈ u441.1 → x ∈ u472.1) b208 mt460
  have et491 : u472.2 b208 = .inl (cy 0, 60, .inl (fun _ => zI 0)) := (hpu472 b208 mt460).trans et460
  have mt492 : o247 ∈ u472.1 := (fun x hx => by rw [hu472]; exact List.mem_append_left _ hx : ∀ x, x ∈ u441.1 → x ∈ u472.1) o247 mt461
  have et492 : u472.2 o247 = .inr (9, [.ref b270, .int (zI 0)]) := (hpu472 o247 mt461).trans et461
  have mt493 : b270 ∈ u472.1 := (fun x hx => by rw [hu472]; exact List.mem_append_left _ hx : ∀ x, x ∈ u441.1 → x ∈ u472.1) b270 mt462
  have et493 : u472.2 b270 = .inl (cy 0, 6, .inl (fun _ => zI 0)) := (hpu472 b270 mt462).trans et462
  have mt494 : o313 ∈ u472.1 := (fun x hx => by rw [hu472]; exact List.mem_append_left _ hx : ∀ x, x ∈ u441.1 → x ∈ u472.1) o313 mt463
  have et494 : u472.2 o313 = .inr (9, [.ref b338, .int (zI 0)]) := (hpu472 o313 mt463).trans et463
  have mt495 : b338 ∈ u472.1 := (fun x hx => by rw [hu472]; exact List.mem_append_left _ hx : ∀ x, x ∈ u441.1 → x ∈ u472.1) b338 mt464
  have et495 : u472.2 b338 = .inl (cy 0, 40, .inl (fun _ => zI 0)) := (hpu472 b338 mt464).trans et464
  have mt496 : o385 ∈ u472.1 := (fun x hx => by rw [hu472]; exact List.mem_append_left _ hx : ∀ x, x ∈ u441.1 → x ∈ u472.1) o385 mt465
  have et496 : u472.2 o385 = .inr (1, [.int (zI 0), .ref b412, .ref b413, .ref b414, .ref b415, .ref b416, .int (zI 0)]) := (hpu472 o385 mt465).trans et465
  have mt497 : b412 ∈ u472.1 := (fun x hx => by rw [hu472]; exact List.mem_append_left _ hx : ∀ x, x ∈ u441.1 → x ∈ u472.1) b412 mt466
  have et497 : u472.2 b412 = .inl (cy 2, 10, .inl (fun _ => zI 0)) := (hpu472 b412 mt466).trans et466
  have mt498 : b413 ∈ u472.1 := (fun x hx => by rw [hu472]; exact List.mem_append_left _ hx : ∀ x, x ∈ u441.1 → x ∈ u472.1) b413 mt467
  have et498 : u472.2 b413 = .inl (cy 0, 10, .inl (fun _ => zI 0)) := (hpu472 b413 mt467).trans et467
  have mt499 : b414 ∈ u472.1 := (fun x hx => by rw [hu472]; exact List.mem_append_left _ hx : ∀ x, x ∈ u441.1 → x ∈ u472.1) b414 mt468
  have et499 : u472.2 b414 = .inl (cy 0, 10, .inl (fun _ => zI 0)) := (hpu472 b414 mt468).trans et468
  have mt500 : b415 ∈ u472.1 := (fun x hx => by rw [hu472]; exact List.mem_append_left _ hx : ∀ x, x ∈ u441.1 → x ∈ u472.1) b415 mt469
  have et500 : u472.2 b415 = .inl (cy 0, 10, .inl (fun _ => zI 0)) := (hpu472 b415 mt469).trans et469
  have mt501 : b416 ∈ u472.1 := (fun x hx => by rw [hu472]; exact List.mem_append_left _ hx : ∀ x, x ∈ u441.1 → x ∈ u472.1) b416 mt470
  have et501 : u472.2 b416 = .inl (cy 0, 16, .inl (fun _ => zI 0)) := (hpu472 b416 mt470).trans et470
  have mb471 : b471 ∈ u472.1 := by rw [hu472]; exact List.mem_append_right _ List.mem_cons_self
  obtain ⟨k9, hk9⟩ := p_get D u472 mt473
  refine va_putF (C := RX11) (T := TX11) (N := 14) (ci := 10) (ty := tyX11 13) hx hb hts (fun _ h => (List.mem_cons_of_mem _ (List.mem_append_left _ (List.mem_append_left _ (List.mem_append_left _ (List.mem_append_right _ h)))))) tyX11 tyX11_ok nmX11 hown hI.1 hG.1 hG.2 hS k9 (hk9.trans (by rw [et473])) rfl 13 (by decide) (hts (.fieldLink RX11 75 "StraitSwim" "shelves" "[LStraitSwim$Held;") (List.mem_cons_of_mem _ (List.mem_append_left _ (List.mem_append_left _ (List.mem_append_left _ (List.mem_append_left _ (List.mem_append_left _ (List.mem_append_right _ (List.mem_append_left _ (List.mem_of_getElem? (i := 7) rfl)))))))))) (fun _ h9 => h9) rfl hin2 rfl (tyX11_ok 13 (by decide)) rfl rfl (Nat.le_of_ble_eq_true rfl) dX11_init_132 (fun H locs hP hD hS => ?_)
  obtain ⟨u502, hu502, hEu502, hpu502, hG⟩ := p_set (e := .inr (10, [.ref o1, .ref b17, .int (zI 0), .int (zI 5), .int (zI 20), .ref o52, .ref o85, .ref b133, .int (zI 0), .ref o187, .ref o247, .ref o313, .ref o385, .ref b471])) hG mt473 hk9 hP hD
  have mt503 : a ∈ u502.1 := (fun x hx => by rw [hu502]; exact hx : ∀ x, x ∈ u472.1 → x ∈ u502.1) a mt473
  have mt504 : o1 ∈ u502.1 := (fun x hx => by rw [hu502]; exact hx : ∀ x, x ∈ u472.1 → x ∈ u502.1) o1 mt474
  have et504 : u502.2 o1 = .inr (7, [.ref b6, .int (zI 0), .ref b7, .ref b8]) := (hpu502 o1 (fun h => (fun h9 => da_o1 h9.symm) h)).trans et474
  have mt505 : b6 ∈ u502.1 := (fun x hx => by rw [hu502]; exact hx : ∀ x, x ∈ u472.1 → x ∈ u502.1) b6 mt475
  have et505 : u502.2 b6 = .inl (cy 2, 288, .inl (fun _ => zI 0)) := (hpu502 b6 (fun h => (fun h9 => da_b6 h9.symm) h)).trans et475
  have mt506 : b7 ∈ u502.1 := (fun x hx => by rw [hu502]; exact hx : ∀ x, x ∈ u472.1 → x ∈ u502.1) b7 mt476
  have et506 : u502.2 b7 = .inl (cy 0, 36, .inl (fun _ => zI 0)) := (hpu502 b7 (fun h => (fun h9 => da_b7 h9.symm) h)).trans et476
  have mt507 : b8 ∈ u502.1 := (fun x hx => by rw [hu502]; exact hx : ∀ x, x ∈ u472.1 → x ∈ u502.1) b8 mt477
  have et507 : u502.2 b8 = .inl (cy 0, 36, .inl (fun _ => zI 0)) := (hpu502 b8 (fun h => (fun h9 => da_b8 h9.symm) h)).trans et477
  have mt508 : b17 ∈ u502.1 := (fun x hx => by rw [hu502]; exact hx : ∀ x, x ∈ u472.1 → x ∈ u502.1) b17 mt478
  have et508 : u502.2 b17 = .inl (cy 4, 10, .inr (.inr (.inr (.inr (fun _ => none))))) := (hpu502 b17 (fun h => (fun h9 => da_b17 h9.symm) h)).trans et478
  have mt509 : o52 ∈ u502.1 := (fun x hx => by rw [hu502]; exact hx : ∀ x, x ∈ u472.1 → x ∈ u502.1) o52 mt479
  have et509 : u502.2 o52 = .inr (8, [.int (zI 0), .int (zI 0), .int (zI 0), .ref b62, .ref b63, .ref b64, .ref b65, .int (zI 0), .int (zI 0)]) := (hpu502 o52 (fun h => (fun h9 => da_o52 h9.symm) h)).trans et479
  have mt510 : b62 ∈ u502.1 := (fun x hx => by rw [hu502]; exact hx : ∀ x, x ∈ u472.1 → x ∈ u502.1) b62 mt480
  have et510 : u502.2 b62 = .inl (cy 0, 101, .inl (fun _ => zI 0)) := (hpu502 b62 (fun h => (fun h9 => da_b62 h9.symm) h)).trans et480
  have mt511 : b63 ∈ u502.1 := (fun x hx => by rw [hu502]; exact hx : ∀ x, x ∈ u472.1 → x ∈ u502.1) b63 mt481
  have et511 : u502.2 b63 = .inl (cy 0, 101, .inl (fun _ => zI 0)) := (hpu502 b63 (fun h => (fun h9 => da_b63 h9.symm) h)).trans et481
  have mt512 : b64 ∈ u502.1 := (fun x hx => by rw [hu502]; exact hx : ∀ x, x ∈ u472.1 → x ∈ u502.1) b64 mt482
  have et512 : u502.2 b64 = .inl (cy 0, 100, .inl (fun _ => zI 0)) := (hpu502 b64 (fun h => (fun h9 => da_b64 h9.symm) h)).trans et482
  have mt513 : b65 ∈ u502.1 := (fun x hx => by rw [hu502]; exact hx : ∀ x, x ∈ u472.1 → x ∈ u502.1) b65 mt483
  have et513 : u502.2 b65 = .inl (cy 0, 101, .inl (fun _ => zI 0)) := (hpu502 b65 (fun h => (fun h9 => da_b65 h9.symm) h)).trans et483
  have mt514 : o85 ∈ u502.1 := (fun x hx => by rw [hu502]; exact hx : ∀ x, x ∈ u472.1 → x ∈ u502.1) o85 mt484
  have et514 : u502.2 o85 = .inr (8, [.int (zI 0), .int (zI 0), .int (zI 0), .ref b100, .ref b101, .ref b102, .ref b103, .int (zI 0), .int (zI 0)]) := (hpu502 o85 (fun h => (fun h9 => da_o85 h9.symm) h)).trans et484
  have mt515 : b100 ∈ u502.1 := (fun x hx => by rw [hu502]; exact hx : ∀ x, x ∈ u472.1 → x ∈ u502.1) b100 mt485
  have et515 : u502.2 b100 = .inl (cy 0, 101, .inl (fun _ => zI 0)) := (hpu502 b100 (fun h => (fun h9 => da_b100 h9.symm) h)).trans et485
  have mt516 : b101 ∈ u502.1 := (fun x hx => by rw [hu502]; exact hx : ∀ x, x ∈ u472.1 → x ∈ u502.1) b101 mt486
  have et516 : u502.2 b101 = .inl (cy 0, 101, .inl (fun _ => zI 0)) := (hpu502 b101 (fun h => (fun h9 => da_b101 h9.symm) h)).trans et486
  have mt517 : b102 ∈ u502.1 := (fun x hx => by rw [hu502]; exact hx : ∀ x, x ∈ u472.1 → x ∈ u502.1) b102 mt487
  have et517 : u502.2 b102 = .inl (cy 0, 100, .inl (fun _ => zI 0)) := (hpu502 b102 (fun h => (fun h9 => da_b102 h9.symm) h)).trans et487
  have mt518 : b103 ∈ u502.1 := (fun x hx => by rw [hu502]; exact hx : ∀ x, x ∈ u472.1 → x ∈ u502.1) b103 mt488
  have et518 : u502.2 b103 = .inl (cy 0, 101, .inl (fun _ => zI 0)) := (hpu502 b103 (fun h => (fun h9 => da_b103 h9.symm) h)).trans et488
  have mt519 : b133 ∈ u502.1 := (fun x hx => by rw [hu502]; exact hx : ∀ x, x ∈ u472.1 → x ∈ u502.1) b133 mt489
  have et519 : u502.2 b133 = .inl (cy 5, 8, .inr (.inr (.inr (.inr (fun _ => none))))) := (hpu502 b133 (fun h => (fun h9 => da_b133 h9.symm) h)).trans et489
  have mt520 : o187 ∈ u502.1 := (fun x hx => by rw [hu502]; exact hx : ∀ x, x ∈ u472.1 → x ∈ u502.1) o187 mt490
  have et520 : u502.2 o187 = .inr (9, [.ref b208, .int (zI 0)]) := (hpu502 o187 (fun h => (fun h9 => da_o187 h9.symm) h)).trans et490
  have mt521 : b208 ∈ u502.1 := (fun x hx => by rw [hu502]; exact hx : ∀ x, x ∈ u472.1 → x ∈ u502.1) b208 mt491
  have et521 : u502.2 b208 = .inl (cy 0, 60, .inl (fun _ => zI 0)) := (hpu502 b208 (fun h => (fun h9 => da_b208 h9.symm) h)).trans et491
  have mt522 : o247 ∈ u502.1 := (fun x hx => by rw [hu502]; exact hx : ∀ x, x ∈ u472.1 → x ∈ u502.1) o247 mt492
  have et522 : u502.2 o247 = .inr (9, [.ref b270, .int (zI 0)]) := (hpu502 o247 (fun h => (fun h9 => da_o247 h9.symm) h)).trans et492
  have mt523 : b270 ∈ u502.1 := (fun x hx => by rw [hu502]; exact hx : ∀ x, x ∈ u472.1 → x ∈ u502.1) b270 mt493
  have et523 : u502.2 b270 = .inl (cy 0, 6, .inl (fun _ => zI 0)) := (hpu502 b270 (fun h => (fun h9 => da_b270 h9.symm) h)).trans et493
  have mt524 : o313 ∈ u502.1 := (fun x hx => by rw [hu502]; exact hx : ∀ x, x ∈ u472.1 → x ∈ u502.1) o313 mt494
  have et524 : u502.2 o313 = .inr (9, [.ref b338, .int (zI 0)]) := (hpu502 o313 (fun h => (fun h9 => da_o313 h9.symm) h)).trans et494
  have mt525 : b338 ∈ u502.1 := (fun x hx => by rw [hu502]; exact hx : ∀ x, x ∈ u472.1 → x ∈ u502.1) b338 mt495
  have et525 : u502.2 b338 = .inl (cy 0, 40, .inl (fun _ => zI 0)) := (hpu502 b338 (fun h => (fun h9 => da_b338 h9.symm) h)).trans et495
  have mt526 : o385 ∈ u502.1 := (fun x hx => by rw [hu502]; exact hx : ∀ x, x ∈ u472.1 → x ∈ u502.1) o385 mt496
  have et526 : u502.2 o385 = .inr (1, [.int (zI 0), .ref b412, .ref b413, .ref b414, .ref b415, .ref b416, .int (zI 0)]) := (hpu502 o385 (fun h => (fun h9 => da_o385 h9.symm) h)).trans et496
  have mt527 : b412 ∈ u502.1 := (fun x hx => by rw [hu502]; exact hx : ∀ x, x ∈ u472.1 → x ∈ u502.1) b412 mt497
  have et527 : u502.2 b412 = .inl (cy 2, 10, .inl (fun _ => zI 0)) := (hpu502 b412 (fun h => (fun h9 => da_b412 h9.symm) h)).trans et497
  have mt528 : b413 ∈ u502.1 := (fun x hx => by rw [hu502]; exact hx : ∀ x, x ∈ u472.1 → x ∈ u502.1) b413 mt498
  have et528 : u502.2 b413 = .inl (cy 0, 10, .inl (fun _ => zI 0)) := (hpu502 b413 (fun h => (fun h9 => da_b413 h9.symm) h)).trans et498
  have mt529 : b414 ∈ u502.1 := (fun x hx => by rw [hu502]; exact hx : ∀ x, x ∈ u472.1 → x ∈ u502.1) b414 mt499
  have et529 : u502.2 b414 = .inl (cy 0, 10, .inl (fun _ => zI 0)) := (hpu502 b414 (fun h => (fun h9 => da_b414 h9.symm) h)).trans et499
  have mt530 : b415 ∈ u502.1 := (fun x hx => by rw [hu502]; exact hx : ∀ x, x ∈ u472.1 → x ∈ u502.1) b415 mt500
  have et530 : u502.2 b415 = .inl (cy 0, 10, .inl (fun _ => zI 0)) := (hpu502 b415 (fun h => (fun h9 => da_b415 h9.symm) h)).trans et500
  have mt531 : b416 ∈ u502.1 := (fun x hx => by rw [hu502]; exact hx : ∀ x, x ∈ u472.1 → x ∈ u502.1) b416 mt501
  have et531 : u502.2 b416 = .inl (cy 0, 16, .inl (fun _ => zI 0)) := (hpu502 b416 (fun h => (fun h9 => da_b416 h9.symm) h)).trans et501
  have mt532 : b471 ∈ u502.1 := (fun x hx => by rw [hu502]; exact hx : ∀ x, x ∈ u472.1 → x ∈ u502.1) b471 mb471
  have et532 : u502.2 b471 = .inl (cy 3, 8, .inr (.inr (.inr (.inr (fun _ => none))))) := (hpu502 b471 (fun h => (fun h9 => da_b471 h9.symm) h)).trans hEb471
  have hLu502 : u502.1 = (((((((((((((((((((((((((((((u.1 ++ [o1]) ++ [b6]) ++ [b7]) ++ [b8]) ++ [b17]) ++ [o52]) ++ [b62]) ++ [b63]) ++ [b64]) ++ [b65]) ++ [o85]) ++ [b100]) ++ [b101]) ++ [b102]) ++ [b103]) ++ [b133]) ++ [o187]) ++ [b208]) ++ [o247]) ++ [b270]) ++ [o313]) ++ [b338]) ++ [o385]) ++ [b412]) ++ [b413]) ++ [b414]) ++ [b415]) ++ [b416]) ++ [b471]) := by rw [hu502, hLu472]
  have hMu502 : ∀ x, x ∈ u.1 → x ∈ u502.1 := fun x hx => by rw [hu502]; exact hMu472 x hx
  have hOu502 : ∀ x, x ∈ u.1 → x ≠ a → u502.2 x = u.2 x := fun x hx ne => (hpu502 x ne).trans (hOu472 x hx ne)
  refine W.widen (k := 29) (n := 1463) (Nat.le_of_ble_eq_true rfl) (Nat.le_of_ble_eq_true rfl) ?_
  exact W.vret hx hb hr (fun t9 ht9_ hW => ⟨⟨u502, rfl, ⟨o1, b6, b7, b8, b17, o52, b62, b63, b64, b65, o85, b100, b101, b102, b103, b133, o187, b208, o247, b270, o313, b338, o385, b412, b413, b414, b415, b416, b471, hLu502, ⟨fo1, fb6, fb7, fb8, fb17, fo52, fb62, fb63, fb64, fb65, fo85, fb100, fb101, fb102, fb103, fb133, fo187, fb208, fo247, fb270, fo313, fb338, fo385, fb412, fb413, fb414, fb415, fb416, fb471⟩, ⟨hEu502, et504, et505, et506, et507, et508, et509, et510, et511, et512, et513, et514, et515, et516, et517, et518, et519, et520, et521, et522, et523, et524, et525, et526, et527, et528, et529, et530, et531, et532⟩, hOu502⟩, pB.mk' hG hI hS ht9_ hW⟩, hS.F ht9_⟩) hS.2.2 dX11_init_135
