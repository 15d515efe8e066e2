set_option maxHeartbeats 4000000 in
set_option maxRecDepth 100000 in
/-- whether a number lies within two -/
theorem kX11_isWithin (l : Launch) (D : va_G) (cy : Nat → ClassId) (ad : Nat → Nat) (jf : Nat → Int64) (A : Nat → Prop) (u : gS) (a0 a1 a2 : Int) (j_a0 : -2147483648 ≤ a0 ∧ a0 < 2147483648) (j_a1 : -2147483648 ≤ a1 ∧ a1 < 2147483648) (j_a2 : -2147483648 ≤ a2 ∧ a2 < 2147483648) : Met l yX11_isWithin wsX11_isWithin ({ frames := 0, cells := 0, slots := 0, locals := 0 }) (va_Pc [.int (zI a0), .int (zI a1), .int (zI a2)] (gB D cy ad jf A u)) (va_Qi (fun (r : Int32) (v : gS) => (∃ b : Int, r = zI b ∧ (b = 1 ∧ a1 ≤ a0 ∧ a0 ≤ a2 ∨ b = 0 ∧ ¬ (a1 ≤ a0 ∧ a0 ≤ a2))) ∧ v = u) (gB D cy ad jf A) A) 0 0 A := by
  refine Met.ofW (cc := cX11_isWithin) (maxL := 3) (ret := (some .boolean)) (by decide) rfl ?_
  intro p e s m args below meth c s₁ B hml hv
  obtain ⟨rfl, hG, hC⟩ := hv
  have hx := B.exec
  have hb := B.bytes
  have hr := B.returns
  have hts := atoms_spec (ws := wsX11_isWithin) B.pre
  have hown : s.vm.findClass RX11 = some m.cls := findClass_of_methodNamed B.named
  have hlocks := B.notSynchronized
  have hS : va_S A s.heap s.heap [] := va_S.rf
  have hl := lv_entry ([.int (zI a0), .int (zI a1), .int (zI a2)]) (n := 3) (Nat.le_of_ble_eq_true rfl)
  rw [lg_entry_eq]
  generalize (lg_sl ([.int (zI a0), .int (zI a1), .int (zI a2)]) ++ List.replicate (3 - (lg_sl ([.int (zI a0), .int (zI a1), .int (zI a2)])).length) Slot.unset).toArray = ls at hl ⊢
  have hl : lv_has ls 3 [(0, .int (zI a0)), (1, .int (zI a1)), (2, .int (zI a2))] := hl
  refine lv_iload_n hx hb dX11_isWithin_0 rfl (lv_at hl 0 rfl) ?_
  refine lv_iload_n hx hb dX11_isWithin_1 rfl (lv_at hl 1 rfl) ?_
  refine z_icmp_lt (tgt := 14) hx hb dX11_isWithin_2 (by decide) (by omega) (by omega) (by omega) (by omega) (fun c_1 => ?_) (fun c_1 => ?_)
  · refine z_iconst hx hb dX11_isWithin_14 ?_
    exact W.zret (ty := .boolean) (v := zI 0) hx hb hr (nar_b (by omega)) (fun t9 ht9_ hW => ⟨⟨zI 0, u, rfl, (by exact ⟨⟨0, rfl, by omega⟩, rfl⟩), gB.mk' hG hC hS ht9_ hW⟩, hS.F ht9_⟩) hS.2.2 dX11_isWithin_15
  · refine lv_iload_n hx hb dX11_isWithin_5 rfl (lv_at hl 0 rfl) ?_
    refine lv_iload_n hx hb dX11_isWithin_6 rfl (lv_at hl 2 rfl) ?_
    refine z_icmp_gt (tgt := 14) hx hb dX11_isWithin_7 (by decide) (by omega) (by omega) (by omega) (by omega) (fun c_2 => ?_) (fun c_2 => ?_)
    · refine z_iconst hx hb dX11_isWithin_14 ?_
      exact W.zret (ty := .boolean) (v := zI 0) hx hb hr (nar_b (by omega)) (fun t9 ht9_ hW => ⟨⟨zI 0, u, rfl, (by exact ⟨⟨0, rfl, by omega⟩, rfl⟩), gB.mk' hG hC hS ht9_ hW⟩, hS.F ht9_⟩) hS.2.2 dX11_isWithin_15
    · refine z_iconst hx hb dX11_isWithin_10 ?_
      refine lv_goto (tgt := 15) hx hb dX11_isWithin_11 (by decide) ?_
      exact W.zret (ty := .boolean) (v := zI 1) hx hb hr (nar_b (by omega)) (fun t9 ht9_ hW => ⟨⟨zI 1, u, rfl, (by exact ⟨⟨1, rfl, by omega⟩, rfl⟩), gB.mk' hG hC hS ht9_ hW⟩, hS.F ht9_⟩) hS.2.2 dX11_isWithin_15
set_option maxHeartbeats 4000000 in
set_option maxRecDepth 100000 in
/-- whether a number lies within two -/
theorem kX12_in (l : Launch) (D : va_G) (cy : Nat → ClassId) (ad : Nat → Nat) (jf : Nat → Int64) (A : Nat → Prop) (u : gS) (a0 a1 a2 : Int) (j_a0 : -2147483648 ≤ a0 ∧ a0 < 2147483648) (j_a1 : -2147483648 ≤ a1 ∧ a1 < 2147483648) (j_a2 : -2147483648 ≤ a2 ∧ a2 < 2147483648) : Met l yX12_in wsX12_in ({ frames := 0, cells := 0, slots := 0, locals := 0 }) (va_Pc [.int (zI a0), .int (zI a1), .int (zI a2)] (gB D cy ad jf A u)) (va_Qi (fun (r : Int32) (v : gS) => (∃ b : Int, r = zI b ∧ (b = 1 ∧ a1 ≤ a0 ∧ a0 ≤ a2 ∨ b = 0 ∧ ¬ (a1 ≤ a0 ∧ a0 ≤ a2))) ∧ v = u) (gB D cy ad jf A) A) 0 0 A := by
  refine Met.ofW (cc := cX12_in) (maxL := 3) (ret := (some .boolean)) (by decide) rfl ?_
  intro p e s m args below meth c s₁ B hml hv
  obtain ⟨rfl, hG, hC⟩ := hv
  have hx := B.exec
  have hb := B.bytes
  have hr := B.returns
  have hts := atoms_spec (ws := wsX12_in) B.pre
  have hown : s.vm.findClass RX12 = some m.cls := findClass_of_methodNamed B.named
  have hlocks := B.notSynchronized
  have hS : va_S A s.heap s.heap [] := va_S.rf
  have hl := lv_entry ([.int (zI a0), .int (zI a1), .int (zI a2)]) (n := 3) (Nat.le_of_ble_eq_true rfl)
  rw [lg_entry_eq]
  generalize (lg_sl ([.int (zI a0), .int (zI a1), .int (zI a2)]) ++ List.replicate (3 - (lg_sl ([.int (zI a0), .int (zI a1), .int (zI a2)])).length) Slot.unset).toArray = ls at hl ⊢
  have hl : lv_has ls 3 [(0, .int (zI a0)), (1, .int (zI a1)), (2, .int (zI a2))] := hl
  refine lv_iload_n hx hb dX12_in_0 rfl (lv_at hl 0 rfl) ?_
  refine lv_iload_n hx hb dX12_in_1 rfl (lv_at hl 1 rfl) ?_
  refine z_icmp_lt (tgt := 14) hx hb dX12_in_2 (by decide) (by omega) (by omega) (by omega) (by omega) (fun c_1 => ?_) (fun c_1 => ?_)
  · refine z_iconst hx hb dX12_in_14 ?_
    exact W.zret (ty := .boolean) (v := zI 0) hx hb hr (nar_b (by omega)) (fun t9 ht9_ hW => ⟨⟨zI 0, u, rfl, (by exact ⟨⟨0, rfl, by omega⟩, rfl⟩), gB.mk' hG hC hS ht9_ hW⟩, hS.F ht9_⟩) hS.2.2 dX12_in_15
  · refine lv_iload_n hx hb dX12_in_5 rfl (lv_at hl 0 rfl) ?_
    refine lv_iload_n hx hb dX12_in_6 rfl (lv_at hl 2 rfl) ?_
    refine z_icmp_gt (tgt := 14) hx hb dX12_in_7 (by decide) (by omega) (by omega) (by omega) (by omega) (fun c_2 => ?_) (fun c_2 => ?_)
    · refine z_iconst hx hb dX12_in_14 ?_
      exact W.zret (ty := .boolean) (v := zI 0) hx hb hr (nar_b (by omega)) (fun t9 ht9_ hW => ⟨⟨zI 0, u, rfl, (by exact ⟨⟨0, rfl, by omega⟩, rfl⟩), gB.mk' hG hC hS ht9_ hW⟩, hS.F ht9_⟩) hS.2.2 dX12_in_15
    · refine z_iconst hx hb dX12_in_10 ?_
      refine lv_goto (tgt := 15) hx hb dX12_in_11 (by decide) ?_
      exact W.zret (ty := .boolean) (v := zI 1) hx hb hr (nar_b (by omega)) (fun t9 ht9_ hW => ⟨⟨zI 1, u, rfl, (by exact ⟨⟨1, rfl, by omega⟩, rfl⟩), gB.mk' hG hC hS ht9_ hW⟩, hS.F ht9_⟩) hS.2.2 dX12_in_15
set_option maxHeartbeats 4000000 in
set_option maxRecDepth 100000 in
theorem kX11_isPlace (l : Launch) (D : va_G) (cy : Nat → ClassId) (ad : Nat → Nat) (jf : Nat → Int64) (A : Nat → Prop) (u : gS) (x y : Int) (j_x : -2147483648 ≤ x ∧ x < 2147483648) (j_y : -2147483648 ≤ y ∧ y < 2147483648) : Met l yX11_isPlace wsX11_isPlace ({ frames := 1, cells := 0, slots := 0, locals := 22 }) (va_Pc [.int (zI x), .int (zI y)] (gB D cy ad jf A u)) (va_Qi (fun (r : Int32) (v : gS) => (∃ b : Int, r = zI b ∧ (b = 1 ∧ (0 ≤ x ∧ x ≤ 239) ∧ (0 ≤ y ∧ y ≤ 119) ∨ b = 0 ∧ ¬ ((0 ≤ x ∧ x ≤ 239) ∧ (0 ≤ y ∧ y ≤ 119)))) ∧ v = u) (gB D cy ad jf A) A) 0 0 A := by
  refine Met.ofW (cc := cX11_isPlace) (maxL := 2) (ret := (some .boolean)) (by decide) rfl ?_
  intro p e s m args below meth c s₁ B hml hv
  obtain ⟨rfl, hG, hC⟩ := hv
  have hx := B.exec
  have hb := B.bytes
  have hr := B.returns
  have hts := atoms_spec (ws := wsX11_isPlace) B.pre
  have hown : s.vm.findClass RX11 = some m.cls := findClass_of_methodNamed B.named
  have hlocks := B.notSynchronized
  have hS : va_S A s.heap s.heap [] := va_S.rf
  have hl := lv_entry ([.int (zI x), .int (zI y)]) (n := 2) (Nat.le_of_ble_eq_true rfl)
  rw [lg_entry_eq]
  generalize (lg_sl ([.int (zI x), .int (zI y)]) ++ List.replicate (2 - (lg_sl ([.int (zI x), .int (zI y)])).length) Slot.unset).toArray = ls at hl ⊢
  have hl : lv_has ls 2 [(0, .int (zI x)), (1, .int (zI y))] := hl
  refine lv_iload_n hx hb dX11_isPlace_0 rfl (lv_at hl 0 rfl) ?_
  refine z_iconst hx hb dX11_isPlace_1 ?_
  refine z_sipush hx hb dX11_isPlace_2 (by decide) ?_
  refine g_calli (va_runS (As := [.int (zI x), .int (zI 0), .int (zI 239)]) (rest := []) ⟨hx, hb, hml, hown, hts⟩ (kX11_isWithin l D cy ad jf A u x 0 239 (by omega) (by omega) (by omega)) (va_cwS 3 hts gX11_isPlace_X11_isWithin rfl rfl rfl (by decide +kernel) ⟨by decide, by decide⟩) (g_preS hG hC hS) rfl rfl hl.1 rfl (lv_room (Nat.le_of_ble_eq_true rfl)) dX11_isPlace_5 ⟨Nat.le_of_ble_eq_true rfl, Nat.le_of_ble_eq_true rfl⟩) hS (fun r1 u2 H locs p_3 hG hS => ?_)
  obtain ⟨⟨b4, rfl, q_5⟩, he_⟩ := p_3
  rw [he_] at hG; clear he_
  have hbb4 : 0 ≤ b4 ∧ b4 ≤ 1 := by rcases q_5 with ⟨h, _⟩ | ⟨h, _⟩ <;> omega
  refine z_if_eq (tgt := 25) hx hb dX11_isPlace_8 (by decide) (by omega) (by omega) (fun c_6 => ?_) (fun c_6 => ?_)
  · refine z_iconst hx hb dX11_isPlace_25 ?_
    exact W.zret (ty := .boolean) (v := zI 0) hx hb hr (nar_b (by omega)) (fun t9 ht9_ hW => ⟨⟨zI 0, u, rfl, (by exact ⟨⟨0, rfl, by omega⟩, rfl⟩), gB.mk' hG hC hS ht9_ hW⟩, hS.F ht9_⟩) hS.2.2 dX11_isPlace_26
  · refine lv_iload_n hx hb dX11_isPlace_11 rfl (lv_at hl 1 rfl) ?_
    refine z_iconst hx hb dX11_isPlace_12 ?_
    refine z_bipush hx hb dX11_isPlace_13 (by decide) ?_
    refine g_calli (va_runS (As := [.int (zI y), .int (zI 0), .int (zI 119)]) (rest := []) ⟨hx, hb, hml, hown, hts⟩ (kX11_isWithin l D cy ad jf A u y 0 119 (by omega) (by omega) (by omega)) (va_cwS 3 hts gX11_isPlace_X11_isWithin rfl rfl rfl (by decide +kernel) ⟨by decide, by decide⟩) (g_preS hG hC hS) rfl rfl hl.1 rfl (lv_room (Nat.le_of_ble_eq_true rfl)) dX11_isPlace_15 ⟨Nat.le_of_ble_eq_true rfl, Nat.le_of_ble_eq_true rfl⟩) hS (fun r7 u8 H locs p_9 hG hS => ?_)
    obtain ⟨⟨b10, rfl, q_11⟩, he_⟩ := p_9
    rw [he_] at hG; clear he_
    have hbb10 : 0 ≤ b10 ∧ b10 ≤ 1 := by rcases q_11 with ⟨h, _⟩ | ⟨h, _⟩ <;> omega
    refine z_if_eq (tgt := 25) hx hb dX11_isPlace_18 (by decide) (by omega) (by omega) (fun c_12 => ?_) (fun c_12 => ?_)
    · refine z_iconst hx hb dX11_isPlace_25 ?_
      exact W.zret (ty := .boolean) (v := zI 0) hx hb hr (nar_b (by omega)) (fun t9 ht9_ hW => ⟨⟨zI 0, u, rfl, (by exact ⟨⟨0, rfl, by omega⟩, rfl⟩), gB.mk' hG hC hS ht9_ hW⟩, hS.F ht9_⟩) hS.2.2 dX11_isPlace_26
    · refine z_iconst hx hb dX11_isPlace_21 ?_
      refine lv_goto (tgt := 26) hx hb dX11_isPlace_22 (by decide) ?_
      exact W.zret (ty := .boolean) (v := zI 1) hx hb hr (nar_b (by omega)) (fun t9 ht9_ hW => ⟨⟨zI 1, u, rfl, (by exact ⟨⟨1, rfl, by omega⟩, rfl⟩), gB.mk' hG hC hS ht9_ hW⟩, hS.F ht9_⟩) hS.2.2 dX11_isPlace_26
set_option maxHeartbeats 4000000 in
set_option maxRecDepth 100000 in
theorem kX11_isShelf (l : Launch) (D : va_G) (cy : Nat → ClassId) (ad : Nat → Nat) (jf : Nat → Int64) (A : Nat → Prop) (u : gS) (d : Int) (j_d : -2147483648 ≤ d ∧ d < 2147483648) : Met l yX11_isShelf wsX11_isShelf ({ frames := 1, cells := 0, slots := 0, locals := 22 }) (va_Pc [.int (zI d)] (gB D cy ad jf A u)) (va_Qi (fun (r : Int32) (v : gS) => (∃ b : Int, r = zI b ∧ (b = 1 ∧ 0 ≤ d ∧ d ≤ 7 ∨ b = 0 ∧ ¬ (0 ≤ d ∧ d ≤ 7))) ∧ v = u) (gB D cy ad jf A) A) 0 0 A := by
  refine Met.ofW (cc := cX11_isShelf) (maxL := 1) (ret := (some .boolean)) (by decide) rfl ?_
  intro p e s m args below meth c s₁ B hml hv
  obtain ⟨rfl, hG, hC⟩ := hv
  have hx := B.exec
  have hb := B.bytes
  have hr := B.returns
  have hts := atoms_spec (ws := wsX11_isShelf) B.pre
  have hown : s.vm.findClass RX11 = some m.cls := findClass_of_methodNamed B.named
  have hlocks := B.notSynchronized
  have hS : va_S A s.heap s.heap [] := va_S.rf
  have hl := lv_entry ([.int (zI d)]) (n := 1) (Nat.le_of_ble_eq_true rfl)
  rw [lg_entry_eq]
  generalize (lg_sl ([.int (zI d)]) ++ List.replicate (1 - (lg_sl ([.int (zI d)])).length) Slot.unset).toArray = ls at hl ⊢
  have hl : lv_has ls 1 [(0, .int (zI d))] := hl
  refine lv_iload_n hx hb dX11_isShelf_0 rfl (lv_at hl 0 rfl) ?_
  refine z_iconst hx hb dX11_isShelf_1 ?_
  refine z_bipush hx hb dX11_isShelf_2 (by decide) ?_
  refine g_calli (va_runS (As := [.int (zI d), .int (zI 0), .int (zI 7)]) (rest := []) ⟨hx, hb, hml, hown, hts⟩ (kX11_isWithin l D cy ad jf A u d 0 7 (by omega) (by omega) (by omega)) (va_cwS 3 hts gX11_isShelf_X11_isWithin rfl rfl rfl (by decide +kernel) ⟨by decide, by decide⟩) (g_preS hG hC hS) rfl rfl hl.1 rfl (lv_room (Nat.le_of_ble_eq_true rfl)) dX11_isShelf_4 ⟨Nat.le_of_ble_eq_true rfl, Nat.le_of_ble_eq_true rfl⟩) hS (fun r1 u2 H locs p_3 hG hS => ?_)
  obtain ⟨⟨b4, rfl, q_5⟩, he_⟩ := p_3
  rw [he_] at hG; clear he_
  have hbb4 : 0 ≤ b4 ∧ b4 ≤ 1 := by rcases q_5 with ⟨h, _⟩ | ⟨h, _⟩ <;> omega
  exact W.zret (ty := .boolean) (v := zI b4) hx hb hr (nar_b (by omega)) (fun t9 ht9_ hW => ⟨⟨zI b4, u, rfl, (by exact ⟨⟨b4, rfl, by omega⟩, rfl⟩), gB.mk' hG hC hS ht9_ hW⟩, hS.F ht9_⟩) hS.2.2 dX11_isShelf_7
set_option maxHeartbeats 4000000 in
set_option maxRecDepth 100000 in
theorem kX12_isPlace (l : Launch) (D : va_G) (cy : Nat → ClassId) (ad : Nat → Nat) (jf : Nat → Int64) (A : Nat → Prop) (u : gS) (x y : Int) (j_x : -2147483648 ≤ x ∧ x < 2147483648) (j_y : -2147483648 ≤ y ∧ y < 2147483648) : Met l yX12_isPlace wsX12_isPlace ({ frames := 1, cells := 0, slots := 0, locals := 22 }) (va_Pc [.int (zI x), .int (zI y)] (gB D cy ad jf A u)) (va_Qi (fun (r : Int32) (v : gS) => (∃ b : Int, r = zI b ∧ (b = 1 ∧ (0 ≤ x ∧ x ≤ 239) ∧ (0 ≤ y ∧ y ≤ 119) ∨ b = 0 ∧ ¬ ((0 ≤ x ∧ x ≤ 239) ∧ (0 ≤ y ∧ y ≤ 119)))) ∧ v = u) (gB D cy ad jf A) A) 0 0 A := by
  refine Met.ofW (cc := cX12_isPlace) (maxL := 2) (ret := (some .boolean)) (by decide) rfl ?_
  intro p e s m args below meth c s₁ B hml hv
  obtain ⟨rfl, hG, hC⟩ := hv
  have hx := B.exec
  have hb := B.bytes
  have hr := B.returns
  have hts := atoms_spec (ws := wsX12_isPlace) B.pre
  have hown : s.vm.findClass RX12 = some m.cls := findClass_of_methodNamed B.named
  have hlocks := B.notSynchronized
  have hS : va_S A s.heap s.heap [] := va_S.rf
  have hl := lv_entry ([.int (zI x), .int (zI y)]) (n := 2) (Nat.le_of_ble_eq_true rfl)
  rw [lg_entry_eq]
  generalize (lg_sl ([.int (zI x), .int (zI y)]) ++ List.replicate (2 - (lg_sl ([.int (zI x), .int (zI y)])).length) Slot.unset).toArray = ls at hl ⊢
  have hl : lv_has ls 2 [(0, .int (zI x)), (1, .int (zI y))] := hl
  refine lv_iload_n hx hb dX12_isPlace_0 rfl (lv_at hl 0 rfl) ?_
  refine z_iconst hx hb dX12_isPlace_1 ?_
  refine z_sipush hx hb dX12_isPlace_2 (by decide) ?_
  refine g_calli (va_runS (As := [.int (zI x), .int (zI 0), .int (zI 239)]) (rest := []) ⟨hx, hb, hml, hown, hts⟩ (kX12_in l D cy ad jf A u x 0 239 (by omega) (by omega) (by omega)) (va_cwS 3 hts gX12_isPlace_X12_in rfl rfl rfl (by decide +kernel) ⟨by decide, by decide⟩) (g_preS hG hC hS) rfl rfl hl.1 rfl (lv_room (Nat.le_of_ble_eq_true rfl)) dX12_isPlace_5 ⟨Nat.le_of_ble_eq_true rfl, Nat.le_of_ble_eq_true rfl⟩) hS (fun r1 u2 H locs p_3 hG hS => ?_)
  obtain ⟨⟨b4, rfl, q_5⟩, he_⟩ := p_3
  rw [he_] at hG; clear he_
  have hbb4 : 0 ≤ b4 ∧ b4 ≤ 1 := by rcases q_5 with ⟨h, _⟩ | ⟨h, _⟩ <;> omega
  refine z_if_eq (tgt := 25) hx hb dX12_isPlace_8 (by decide) (by omega) (by omega) (fun c_6 => ?_) (fun c_6 => ?_)
  · refine z_iconst hx hb dX12_isPlace_25 ?_
    exact W.zret (ty := .boolean) (v := zI 0) hx hb hr (nar_b (by omega)) (fun t9 ht9_ hW => ⟨⟨zI 0, u, rfl, (by exact ⟨⟨0, rfl, by omega⟩, rfl⟩), gB.mk' hG hC hS ht9_ hW⟩, hS.F ht9_⟩) hS.2.2 dX12_isPlace_26
  · refine lv_iload_n hx hb dX12_isPlace_11 rfl (lv_at hl 1 rfl) ?_
    refine z_iconst hx hb dX12_isPlace_12 ?_
    refine z_bipush hx hb dX12_isPlace_13 (by decide) ?_
    refine g_calli (va_runS (As := [.int (zI y), .int (zI 0), .int (zI 119)]) (rest := []) ⟨hx, hb, hml, hown, hts⟩ (kX12_in l D cy ad jf A u y 0 119 (by omega) (by omega) (by omega)) (va_cwS 3 hts gX12_isPlace_X12_in rfl rfl rfl (by decide +kernel) ⟨by decide, by decide⟩) (g_preS hG hC hS) rfl rfl hl.1 rfl (lv_room (Nat.le_of_ble_eq_true rfl)) dX12_isPlace_15 ⟨Nat.le_of_ble_eq_true rfl, Nat.le_of_ble_eq_true rfl⟩) hS (fun r7 u8 H locs p_9 hG hS => ?_)
    obtain ⟨⟨b10, rfl, q_11⟩, he_⟩ := p_9
    rw [he_] at hG; clear he_
    have hbb10 : 0 ≤ b10 ∧ b10 ≤ 1 := by rcases q_11 with ⟨h, _⟩ | ⟨h, _⟩ <;> omega
    refine z_if_eq (tgt := 25) hx hb dX12_isPlace_18 (by decide) (by omega) (by omega) (fun c_12 => ?_) (fun c_12 => ?_)
    · refine z_iconst hx hb dX12_isPlace_25 ?_
      exact W.zret (ty := .boolean) (v := zI 0) hx hb hr (nar_b (by omega)) (fun t9 ht9_ hW => ⟨⟨zI 0, u, rfl, (by exact ⟨⟨0, rfl, by omega⟩, rfl⟩), gB.mk' hG hC hS ht9_ hW⟩, hS.F ht9_⟩) hS.2.2 dX12_isPlace_26
    · refine z_iconst hx hb dX12_isPlace_21 ?_
      refine lv_goto (tgt := 26) hx hb dX12_isPlace_22 (by decide) ?_
      exact W.zret (ty := .boolean) (v := zI 1) hx hb hr (nar_b (by omega)) (fun t9 ht9_ hW => ⟨⟨zI 1, u, rfl, (by exact ⟨⟨1, rfl, by omega⟩, rfl⟩), gB.mk' hG hC hS ht9_ hW⟩, hS.F ht9_⟩) hS.2.2 dX12_isPlace_26
set_option maxHeartbeats 4000000 in
set_option maxRecDepth 100000 in
theorem kX12_isShelf (l : Launch) (D : va_G) (cy : Nat → ClassId) (ad : Nat → Nat) (jf : Nat → Int64) (A : Nat → Prop) (u : gS) (d : Int) (j_d : -2147483648 ≤ d ∧ d < 2147483648) : Met l yX12_isShelf wsX12_isShelf ({ frames := 1, cells := 0, slots := 0, locals := 22 }) (va_Pc [.int (zI d)] (gB D cy ad jf A u)) (va_Qi (fun (r : Int32) (v : gS) => (∃ b : Int, r = zI b ∧ (b = 1 ∧ 0 ≤ d ∧ d ≤ 7 ∨ b = 0 ∧ ¬ (0 ≤ d ∧ d ≤ 7))) ∧ v = u) (gB D cy ad jf A) A) 0 0 A := by
  refine Met.ofW (cc := cX12_isShelf) (maxL := 1) (ret := (some .boolean)) (by decide) rfl ?_
  intro p e s m args below meth c s₁ B hml hv
  obtain ⟨rfl, hG, hC⟩ := hv
  have hx := B.exec
  have hb := B.bytes
  have hr := B.returns
  have hts := atoms_spec (ws := wsX12_isShelf) B.pre
  have hown : s.vm.findClass RX12 = some m.cls := findClass_of_methodNamed B.named
  have hlocks := B.notSynchronized
  have hS : va_S A s.heap s.heap [] := va_S.rf
  have hl := lv_entry ([.int (zI d)]) (n := 1) (Nat.le_of_ble_eq_true rfl)
  rw [lg_entry_eq]
  generalize (lg_sl ([.int (zI d)]) ++ List.replicate (1 - (lg_sl ([.int (zI d)])).length) Slot.unset).toArray = ls at hl ⊢
  have hl : lv_has ls 1 [(0, .int (zI d))] := hl
  refine lv_iload_n hx hb dX12_isShelf_0 rfl (lv_at hl 0 rfl) ?_
  refine z_iconst hx hb dX12_isShelf_1 ?_
  refine z_bipush hx hb dX12_isShelf_2 (by decide) ?_
  refine g_calli (va_runS (As := [.int (zI d), .int (zI 0), .int (zI 7)]) (rest := []) ⟨hx, hb, hml, hown, hts⟩ (kX12_in l D cy ad jf A u d 0 7 (by omega) (by omega) (by omega)) (va_cwS 3 hts gX12_isShelf_X12_in rfl rfl rfl (by decide +kernel) ⟨by decide, by decide⟩) (g_preS hG hC hS) rfl rfl hl.1 rfl (lv_room (Nat.le_of_ble_eq_true rfl)) dX12_isShelf_4 ⟨Nat.le_of_ble_eq_true rfl, Nat.le_of_ble_eq_true rfl⟩) hS (fun r1 u2 H locs p_3 hG hS => ?_)
  obtain ⟨⟨b4, rfl, q_5⟩, he_⟩ := p_3
  rw [he_] at hG; clear he_
  have hbb4 : 0 ≤ b4 ∧ b4 ≤ 1 := by rcases q_5 with ⟨h, _⟩ | ⟨h, _⟩ <;> omega
  exact W.zret (ty := .boolean) (v := zI b4) hx hb hr (nar_b (by omega)) (fun t9 ht9_ hW => ⟨⟨zI b4, u, rfl, (by exact ⟨⟨b4, rfl, by omega⟩, rfl⟩), gB.mk' hG hC hS ht9_ hW⟩, hS.F ht9_⟩) hS.2.2 dX12_isShelf_7
set_option maxHeartbeats 4000000 in
set_option maxRecDepth 100000 in
theorem kX11_tideIndex (l : Launch) (D : va_G) (cy : Nat → ClassId) (ad : Nat → Nat) (jf : Nat → Int64) (A : Nat → Prop) (u : gS) (y q : Int) (j_y : 0 ≤ y ∧ y < 2147483648) (j_q : 0 ≤ q ∧ q < 2147483648) : Met l yX11_tideIndex wsX11_tideIndex ({ frames := 0, cells := 0, slots := 0, locals := 0 }) (va_Pc [.int (zI y), .int (zI q)] (gB D cy ad jf A u)) (va_Qi (fun (r : Int32) (v : gS) => r = zI (y / 40 * 12 + q / 4 % 12) ∧ v = u) (gB D cy ad jf A) A) 0 0 A := by
  refine Met.ofW (cc := cX11_tideIndex) (maxL := 2) (ret := (some .int)) (by decide) rfl ?_
  intro p e s m args below meth c s₁ B hml hv
  obtain ⟨rfl, hG, hC⟩ := hv
  have hx := B.exec
  have hb := B.bytes
  have hr := B.returns
  have hts := atoms_spec (ws := wsX11_tideIndex) B.pre
  have hown : s.vm.findClass RX11 = some m.cls := findClass_of_methodNamed B.named
  have hlocks := B.notSynchronized
  have hS : va_S A s.heap s.heap [] := va_S.rf
  have hl := lv_entry ([.int (zI y), .int (zI q)]) (n := 2) (Nat.le_of_ble_eq_true rfl)
  rw [lg_entry_eq]
  generalize (lg_sl ([.int (zI y), .int (zI q)]) ++ List.replicate (2 - (lg_sl ([.int (zI y), .int (zI q)])).length) Slot.unset).toArray = ls at hl ⊢
  have hl : lv_has ls 2 [(0, .int (zI y)), (1, .int (zI q))] := hl
  refine lv_iload_n hx hb dX11_tideIndex_0 rfl (lv_at hl 0 rfl) ?_
  refine z_bipush hx hb dX11_tideIndex_1 (by decide) ?_
  refine z_idiv hx hb dX11_tideIndex_3 (by omega) (by omega) (by omega) (by omega) ?_
  refine z_bipush hx hb dX11_tideIndex_4 (by decide) ?_
  refine z_imul hx hb dX11_tideIndex_6 ?_
  refine lv_iload_n hx hb dX11_tideIndex_7 rfl (lv_at hl 1 rfl) ?_
  refine z_iconst hx hb dX11_tideIndex_8 ?_
  refine z_idiv hx hb dX11_tideIndex_9 (by omega) (by omega) (by omega) (by omega) ?_
  refine z_bipush hx hb dX11_tideIndex_10 (by decide) ?_
  refine z_irem hx hb dX11_tideIndex_12 (by omega) (by omega) (by omega) (by omega) ?_
  refine z_iadd hx hb dX11_tideIndex_13 ?_
  exact W.iret (v := zI (((y / 40) * 12) + ((q / 4) % 12))) hx hb hr (fun t9 ht9_ hW => ⟨⟨zI (((y / 40) * 12) + ((q / 4) % 12)), u, rfl, (by exact ⟨rfl, rfl⟩), gB.mk' hG hC hS ht9_ hW⟩, hS.F ht9_⟩) hS.2.2 dX11_tideIndex_14
set_option maxHeartbeats 4000000 in
set_option maxRecDepth 100000 in
theorem kX12_tideAt (l : Launch) (D : va_G) (cy : Nat → ClassId) (ad : Nat → Nat) (jf : Nat → Int64) (A : Nat → Prop) (u : gS) (y q : Int) (j_y : 0 ≤ y ∧ y < 2147483648) (j_q : 0 ≤ q ∧ q < 2147483648) : Met l yX12_tideAt wsX12_tideAt ({ frames := 0, cells := 0, slots := 0, locals := 0 }) (va_Pc [.int (zI y), .int (zI q)] (gB D cy ad jf A u)) (va_Qi (fun (r : Int32) (v : gS) => r = zI (y / 40 * 12 + q / 4 % 12) ∧ v = u) (gB D cy ad jf A) A) 0 0 A := by
  refine Met.ofW (cc := cX12_tideAt) (maxL := 2) (ret := (some .int)) (by decide) rfl ?_
  intro p e s m args below meth c s₁ B hml hv
  obtain ⟨rfl, hG, hC⟩ := hv
  have hx := B.exec
  have hb := B.bytes
  have hr := B.returns
  have hts := atoms_spec (ws := wsX12_tideAt) B.pre
  have hown : s.vm.findClass RX12 = some m.cls := findClass_of_methodNamed B.named
  have hlocks := B.notSynchronized
  have hS : va_S A s.heap s.heap [] := va_S.rf
  have hl := lv_entry ([.int (zI y), .int (zI q)]) (n := 2) (Nat.le_of_ble_eq_true rfl)
  rw [lg_entry_eq]
  generalize (lg_sl ([.int (zI y), .int (zI q)]) ++ List.replicate (2 - (lg_sl ([.int (zI y), .int (zI q)])).length) Slot.unset).toArray = ls at hl ⊢
  have hl : lv_has ls 2 [(0, .int (zI y)), (1, .int (zI q))] := hl
  refine z_bipush hx hb dX12_tideAt_0 (by decide) ?_
  refine lv_iload_n hx hb dX12_tideAt_2 rfl (lv_at hl 0 rfl) ?_
  refine z_bipush hx hb dX12_tideAt_3 (by decide) ?_
  refine z_idiv hx hb dX12_tideAt_5 (by omega) (by omega) (by omega) (by omega) ?_
  refine z_imul hx hb dX12_tideAt_6 ?_
  refine lv_iload_n hx hb dX12_tideAt_7 rfl (lv_at hl 1 rfl) ?_
  refine z_iconst hx hb dX12_tideAt_8 ?_
  refine z_idiv hx hb dX12_tideAt_9 (by omega) (by omega) (by omega) (by omega) ?_
  refine z_bipush hx hb dX12_tideAt_10 (by decide) ?_
  refine z_irem hx hb dX12_tideAt_12 (by omega) (by omega) (by omega) (by omega) ?_
  refine z_iadd hx hb dX12_tideAt_13 ?_
  exact W.iret (v := zI ((12 * (y / 40)) + ((q / 4) % 12))) hx hb hr (fun t9 ht9_ hW => ⟨⟨zI ((12 * (y / 40)) + ((q / 4) % 12)), u, rfl, (by exact ⟨by congr 1; omega, rfl⟩), gB.mk' hG hC hS ht9_ hW⟩, hS.F ht9_⟩) hS.2.2 dX12_tideAt_14
