set_option maxHeartbeats 4000000 in
set_option maxRecDepth 100000 in
theorem kX12_isDry (l : Launch) (D : va_G) (cy : Nat → ClassId) (ad : Nat → Nat) (jf : Nat → Int64) (A : Nat → Prop) (u : gS) (x y : Int) (j_x : 0 ≤ x ∧ x ≤ 239) (j_y : 0 ≤ y ∧ y ≤ 119) (hd : ∀ j, j < 288 → u.2.1 31 j = 0 ∨ u.2.1 31 j = 1) : Met l yX12_isDry wsX12_isDry ({ frames := 0, cells := 0, slots := 0, locals := 0 }) (va_Pc [.ref (ad 8), .int (zI x), .int (zI y)] (gB D cy ad jf A u)) (va_Qi (fun (r : Int32) (v : gS) => r = zI (spDry (u.2.1 31) x y) ∧ v = u) (gB D cy ad jf A) A) 0 0 A := by
  refine Met.ofW (cc := cX12_isDry) (maxL := 3) (ret := (some .boolean)) (by decide) rfl ?_
  intro p e s m args below meth c s₁ B hml hv
  obtain ⟨rfl, hG, hC⟩ := hv
  have hx := B.exec
  have hb := B.bytes
  have hr := B.returns
  have hts := atoms_spec (ws := wsX12_isDry) B.pre
  have hown : s.vm.findClass RX12 = some m.cls := findClass_of_methodNamed B.named
  have hlocks := B.notSynchronized
  have hS : va_S A s.heap s.heap [] := va_S.rf
  have hl := lv_entry ([.ref (ad 8), .int (zI x), .int (zI y)]) (n := 3) (Nat.le_of_ble_eq_true rfl)
  rw [lg_entry_eq]
  generalize (lg_sl ([.ref (ad 8), .int (zI x), .int (zI y)]) ++ List.replicate (3 - (lg_sl ([.ref (ad 8), .int (zI x), .int (zI y)])).length) Slot.unset).toArray = ls at hl ⊢
  have hl : lv_has ls 3 [(0, .ref (ad 8)), (1, .int (zI x)), (2, .int (zI y))] := hl
  refine lv_aload_n hx hb dX12_isDry_0 rfl (lv_at hl 0 rfl) ?_
  refine g_get (C := RX12) (T := TX12) (N := 42) (ci := 11) hx hb hts (fun _ h => (List.mem_cons_of_mem _ (List.mem_append_right _ h))) hown hC.1 hG 8 (by decide) rfl rfl 1 (by decide) (hts (.fieldLink RX12 7 "StraitSwimModel" "cells" "[Z") (List.mem_cons_of_mem _ (List.mem_append_left _ (List.mem_of_getElem? (i := 0) rfl)))) (fun _ h9 => h9) rfl dX12_isDry_1 ?_
  refine z_bipush hx hb dX12_isDry_4 (by decide) ?_
  refine lv_iload_n hx hb dX12_isDry_6 rfl (lv_at hl 2 rfl) ?_
  refine z_bipush hx hb dX12_isDry_7 (by decide) ?_
  refine z_idiv hx hb dX12_isDry_9 (by omega) (by omega) (by omega) (by omega) ?_
  refine z_imul hx hb dX12_isDry_10 ?_
  refine lv_iload_n hx hb dX12_isDry_11 rfl (lv_at hl 1 rfl) ?_
  refine z_bipush hx hb dX12_isDry_12 (by decide) ?_
  refine z_idiv hx hb dX12_isDry_14 (by omega) (by omega) (by omega) (by omega) ?_
  refine z_iadd hx hb dX12_isDry_15 ?_
  refine g_zald (n := 288) hx hb hC.1 hG 31 (by decide) rfl (by omega) (by omega) (by decide) dX12_isDry_16 ?_
  have q_1 := hd ((24 * (y / 10)) + (x / 10)).toNat (by omega)
  exact W.zret (ty := .boolean) (v := zI (u.2.1 31 ((24 * (y / 10)) + (x / 10)).toNat)) hx hb hr (nar_b (by omega)) (fun t9 ht9_ hW => ⟨⟨zI (u.2.1 31 ((24 * (y / 10)) + (x / 10)).toNat), u, rfl, (by exact ⟨fz _ (by omega), rfl⟩), gB.mk' hG hC hS ht9_ hW⟩, hS.F ht9_⟩) hS.2.2 dX12_isDry_17
set_option maxHeartbeats 4000000 in
set_option maxRecDepth 100000 in
theorem kX12_isLand (l : Launch) (D : va_G) (cy : Nat → ClassId) (ad : Nat → Nat) (jf : Nat → Int64) (A : Nat → Prop) (u : gS) (x y : Int) (j_x : -2147483648 ≤ x ∧ x < 2147483648) (j_y : -2147483648 ≤ y ∧ y < 2147483648) (hd : ∀ j, j < 288 → u.2.1 31 j = 0 ∨ u.2.1 31 j = 1) : Met l yX12_isLand wsX12_isLand ({ frames := 2, cells := 0, slots := 0, locals := 44 }) (va_Pc [.ref (ad 8), .int (zI x), .int (zI y)] (gB D cy ad jf A u)) (va_Qi (fun (r : Int32) (v : gS) => r = zI (spIsLand (u.2.1 31) x y) ∧ v = u) (gB D cy ad jf A) A) 0 0 A := by
  refine Met.ofW (cc := cX12_isLand) (maxL := 3) (ret := (some .int)) (by decide) rfl ?_
  intro p e s m args below meth c s₁ B hml hv
  obtain ⟨rfl, hG, hC⟩ := hv
  have hx := B.exec
  have hb := B.bytes
  have hr := B.returns
  have hts := atoms_spec (ws := wsX12_isLand) B.pre
  have hown : s.vm.findClass RX12 = some m.cls := findClass_of_methodNamed B.named
  have hlocks := B.notSynchronized
  have hS : va_S A s.heap s.heap [] := va_S.rf
  have hl := lv_entry ([.ref (ad 8), .int (zI x), .int (zI y)]) (n := 3) (Nat.le_of_ble_eq_true rfl)
  rw [lg_entry_eq]
  generalize (lg_sl ([.ref (ad 8), .int (zI x), .int (zI y)]) ++ List.replicate (3 - (lg_sl ([.ref (ad 8), .int (zI x), .int (zI y)])).length) Slot.unset).toArray = ls at hl ⊢
  have hl : lv_has ls 3 [(0, .ref (ad 8)), (1, .int (zI x)), (2, .int (zI y))] := hl
  refine lv_iload_n hx hb dX12_isLand_0 rfl (lv_at hl 1 rfl) ?_
  refine lv_iload_n hx hb dX12_isLand_1 rfl (lv_at hl 2 rfl) ?_
  refine g_calli (va_runS (As := [.int (zI x), .int (zI y)]) (rest := []) ⟨hx, hb, hml, hown, hts⟩ (kX12_isPlace l D cy ad jf A u x y (by omega) (by omega)) (va_cwS 2 hts gX12_isLand_X12_isPlace rfl rfl rfl (by decide +kernel) ⟨by decide, by decide⟩) (g_preS hG hC hS) rfl rfl hl.1 rfl (lv_room (Nat.le_of_ble_eq_true rfl)) dX12_isLand_2 ⟨Nat.le_of_ble_eq_true rfl, Nat.le_of_ble_eq_true rfl⟩) hS (fun r1 u2 H locs p_3 hG hS => ?_)
  obtain ⟨⟨b4, rfl, q_5⟩, he_⟩ := p_3
  rw [he_] at hG; clear he_
  have hbb4 : 0 ≤ b4 ∧ b4 ≤ 1 := by rcases q_5 with ⟨h, _⟩ | ⟨h, _⟩ <;> omega
  refine z_if_ne (tgt := 12) hx hb dX12_isLand_5 (by decide) (by omega) (by omega) (fun c_6 => ?_) (fun c_6 => ?_)
  · refine lv_aload_n hx hb dX12_isLand_12 rfl (lv_at hl 0 rfl) ?_
    refine lv_iload_n hx hb dX12_isLand_13 rfl (lv_at hl 1 rfl) ?_
    refine lv_iload_n hx hb dX12_isLand_14 rfl (lv_at hl 2 rfl) ?_
    refine g_calli (va_runV (As := [.int (zI x), .int (zI y)]) (rest := []) ⟨hx, hb, hml, hown, hts⟩ (kX12_isDry l D cy ad jf A u x y (by omega) (by omega) hd) (cwV 2 hts gX12_isLand_X12_isDry rfl rfl rfl (by decide +kernel) ⟨by decide, by decide⟩) (g_preV (C := RX12) hG hC hS 8 (by decide) rfl rfl) rfl rfl hl.1 rfl (lv_room (Nat.le_of_ble_eq_true rfl)) dX12_isLand_15 ⟨Nat.le_of_ble_eq_true rfl, Nat.le_of_ble_eq_true rfl⟩) hS (fun r7 u8 H locs p_9 hG hS => ?_)
    obtain ⟨rfl, he_⟩ := p_9
    rw [he_] at hG; clear he_
    obtain ⟨z11, hz11⟩ : ∃ z : Int, z = spDry (u.2.1 31) x y := ⟨_, rfl⟩
    rw [← hz11]
    have q_10 : z11 = 0 ∨ z11 = 1 := by rw [hz11]; exact hd _ (by omega)
    refine z_if_eq (tgt := 25) hx hb dX12_isLand_18 (by decide) (by omega) (by omega) (fun c_12 => ?_) (fun c_12 => ?_)
    · refine z_iconst hx hb dX12_isLand_25 ?_
      exact W.iret (v := zI 0) hx hb hr (fun t9 ht9_ hW => ⟨⟨zI 0, u, rfl, (by refine ⟨?_, rfl⟩; unfold spIsLand; first | (rw [if_neg (by omega)]; done) | (rw [if_pos (by omega)]; congr 1; omega)), gB.mk' hG hC hS ht9_ hW⟩, hS.F ht9_⟩) hS.2.2 dX12_isLand_26
    · refine z_iconst hx hb dX12_isLand_21 ?_
      refine lv_goto (tgt := 26) hx hb dX12_isLand_22 (by decide) ?_
      exact W.iret (v := zI 1) hx hb hr (fun t9 ht9_ hW => ⟨⟨zI 1, u, rfl, (by refine ⟨?_, rfl⟩; unfold spIsLand; first | (rw [if_neg (by omega)]; done) | (rw [if_pos (by omega)]; congr 1; omega)), gB.mk' hG hC hS ht9_ hW⟩, hS.F ht9_⟩) hS.2.2 dX12_isLand_26
  · refine z_iconst hx hb dX12_isLand_8 ?_
    refine lv_goto (tgt := 26) hx hb dX12_isLand_9 (by decide) ?_
    exact W.iret (v := zI ((-1))) hx hb hr (fun t9 ht9_ hW => ⟨⟨zI ((-1)), u, rfl, (by refine ⟨?_, rfl⟩; unfold spIsLand; first | (rw [if_neg (by omega)]; done) | (rw [if_pos (by omega)]; congr 1; omega)), gB.mk' hG hC hS ht9_ hW⟩, hS.F ht9_⟩) hS.2.2 dX12_isLand_26
set_option maxHeartbeats 4000000 in
set_option maxRecDepth 100000 in
theorem kX12_tide (l : Launch) (D : va_G) (cy : Nat → ClassId) (ad : Nat → Nat) (jf : Nat → Int64) (A : Nat → Prop) (u : gS) (p1 p2 p3 p4 : Int) (j_p1 : -2147483648 ≤ p1 ∧ p1 < 2147483648) (j_p2 : -2147483648 ≤ p2 ∧ p2 < 2147483648) (j_p3 : -2147483648 ≤ p3 ∧ p3 < 2147483648) (j_p4 : -2147483648 ≤ p4 ∧ p4 < 2147483648) (i32 : ∀ j, j < 36 → -9 ≤ u.2.1 32 j ∧ u.2.1 32 j ≤ 9) (i33 : ∀ j, j < 36 → -9 ≤ u.2.1 33 j ∧ u.2.1 33 j ≤ 9) : Met l yX12_tide wsX12_tide ({ frames := 1, cells := 0, slots := 0, locals := 22 }) (va_Pc [.ref (ad 8), .int (zI p1), .int (zI p2), .int (zI p3), .int (zI p4)] (gB D cy ad jf A u)) (va_Qi (fun (r : Int32) (v : gS) => r = zI (mTide u p1 p2 p3 p4).1 ∧ v = (mTide u p1 p2 p3 p4).2) (gB D cy ad jf A) A) 0 0 A := by
  refine Met.ofW (cc := cX12_tide) (maxL := 7) (ret := (some .int)) (by decide) rfl ?_
  intro p e s m args below meth c s₁ B hml hv
  obtain ⟨rfl, hG, hC⟩ := hv
  have hx := B.exec
  have hb := B.bytes
  have hr := B.returns
  have hts := atoms_spec (ws := wsX12_tide) B.pre
  have hown : s.vm.findClass RX12 = some m.cls := findClass_of_methodNamed B.named
  have hlocks := B.notSynchronized
  have hS : va_S A s.heap s.heap [] := va_S.rf
  have hl := lv_entry ([.ref (ad 8), .int (zI p1), .int (zI p2), .int (zI p3), .int (zI p4)]) (n := 7) (Nat.le_of_ble_eq_true rfl)
  rw [lg_entry_eq]
  generalize (lg_sl ([.ref (ad 8), .int (zI p1), .int (zI p2), .int (zI p3), .int (zI p4)]) ++ List.replicate (7 - (lg_sl ([.ref (ad 8), .int (zI p1), .int (zI p2), .int (zI p3), .int (zI p4)])).length) Slot.unset).toArray = ls at hl ⊢
  have hl : lv_has ls 7 [(0, .ref (ad 8)), (1, .int (zI p1)), (2, .int (zI p2)), (3, .int (zI p3)), (4, .int (zI p4))] := hl
  refine lv_iload_n hx hb dX12_tide_0 rfl (lv_at hl 1 rfl) ?_
  refine z_iconst hx hb dX12_tide_1 ?_
  refine z_iconst hx hb dX12_tide_2 ?_
  refine g_calli (va_runS (As := [.int (zI p1), .int (zI 0), .int (zI 2)]) (rest := []) ⟨hx, hb, hml, hown, hts⟩ (kX12_in l D cy ad jf A u p1 0 2 (by omega) (by omega) (by omega)) (va_cwS 3 hts gX12_tide_X12_in rfl rfl rfl (by decide +kernel) ⟨by decide, by decide⟩) (g_preS hG hC hS) rfl rfl hl.1 rfl (lv_room (Nat.le_of_ble_eq_true rfl)) dX12_tide_3 ⟨Nat.le_of_ble_eq_true rfl, Nat.le_of_ble_eq_true rfl⟩) hS (fun r1 u2 H locs p_3 hG hS => ?_)
  obtain ⟨⟨b4, rfl, q_5⟩, he_⟩ := p_3
  rw [he_] at hG; clear he_
  have hbb4 : 0 ≤ b4 ∧ b4 ≤ 1 := by rcases q_5 with ⟨h, _⟩ | ⟨h, _⟩ <;> omega
  refine z_if_eq (tgt := 42) hx hb dX12_tide_6 (by decide) (by omega) (by omega) (fun c_6 => ?_) (fun c_6 => ?_)
  · refine z_iconst hx hb dX12_tide_42 ?_
    exact W.iret (v := zI ((-1))) hx hb hr (fun t9 ht9_ hW => ⟨⟨zI ((-1)), u, rfl, (by skip; refine ⟨?_, ?_⟩ <;> unfold mTide <;> (repeat (first | rw [if_pos (by omega)] | rw [if_neg (by omega)])) <;> first | done | rfl | (congr 1; omega) | (subst_vars; rfl)), gB.mk' hG hC hS ht9_ hW⟩, hS.F ht9_⟩) hS.2.2 dX12_tide_43
  · refine lv_iload_n hx hb dX12_tide_9 rfl (lv_at hl 2 rfl) ?_
    refine z_iconst hx hb dX12_tide_10 ?_
    refine z_bipush hx hb dX12_tide_11 (by decide) ?_
    refine g_calli (va_runS (As := [.int (zI p2), .int (zI 0), .int (zI 11)]) (rest := []) ⟨hx, hb, hml, hown, hts⟩ (kX12_in l D cy ad jf A u p2 0 11 (by omega) (by omega) (by omega)) (va_cwS 3 hts gX12_tide_X12_in rfl rfl rfl (by decide +kernel) ⟨by decide, by decide⟩) (g_preS hG hC hS) rfl rfl hl.1 rfl (lv_room (Nat.le_of_ble_eq_true rfl)) dX12_tide_13 ⟨Nat.le_of_ble_eq_true rfl, Nat.le_of_ble_eq_true rfl⟩) hS (fun r7 u8 H locs p_9 hG hS => ?_)
    obtain ⟨⟨b10, rfl, q_11⟩, he_⟩ := p_9
    rw [he_] at hG; clear he_
    have hbb10 : 0 ≤ b10 ∧ b10 ≤ 1 := by rcases q_11 with ⟨h, _⟩ | ⟨h, _⟩ <;> omega
    refine z_if_eq (tgt := 42) hx hb dX12_tide_16 (by decide) (by omega) (by omega) (fun c_12 => ?_) (fun c_12 => ?_)
    · refine z_iconst hx hb dX12_tide_42 ?_
      exact W.iret (v := zI ((-1))) hx hb hr (fun t9 ht9_ hW => ⟨⟨zI ((-1)), u, rfl, (by skip; refine ⟨?_, ?_⟩ <;> unfold mTide <;> (repeat (first | rw [if_pos (by omega)] | rw [if_neg (by omega)])) <;> first | done | rfl | (congr 1; omega) | (subst_vars; rfl)), gB.mk' hG hC hS ht9_ hW⟩, hS.F ht9_⟩) hS.2.2 dX12_tide_43
    · refine lv_iload_n hx hb dX12_tide_19 rfl (lv_at hl 3 rfl) ?_
      refine z_bipush hx hb dX12_tide_20 (by decide) ?_
      refine z_bipush hx hb dX12_tide_22 (by decide) ?_
      refine g_calli (va_runS (As := [.int (zI p3), .int (zI ((-9))), .int (zI 9)]) (rest := []) ⟨hx, hb, hml, hown, hts⟩ (kX12_in l D cy ad jf A u p3 ((-9)) 9 (by omega) (by omega) (by omega)) (va_cwS 3 hts gX12_tide_X12_in rfl rfl rfl (by decide +kernel) ⟨by decide, by decide⟩) (g_preS hG hC hS) rfl rfl hl.1 rfl (lv_room (Nat.le_of_ble_eq_true rfl)) dX12_tide_24 ⟨Nat.le_of_ble_eq_true rfl, Nat.le_of_ble_eq_true rfl⟩) hS (fun r13 u14 H locs p_15 hG hS => ?_)
      obtain ⟨⟨b16, rfl, q_17⟩, he_⟩ := p_15
      rw [he_] at hG; clear he_
      have hbb16 : 0 ≤ b16 ∧ b16 ≤ 1 := by rcases q_17 with ⟨h, _⟩ | ⟨h, _⟩ <;> omega
      refine z_if_eq (tgt := 42) hx hb dX12_tide_27 (by decide) (by omega) (by omega) (fun c_18 => ?_) (fun c_18 => ?_)
      · refine z_iconst hx hb dX12_tide_42 ?_
        exact W.iret (v := zI ((-1))) hx hb hr (fun t9 ht9_ hW => ⟨⟨zI ((-1)), u, rfl, (by skip; refine ⟨?_, ?_⟩ <;> unfold mTide <;> (repeat (first | rw [if_pos (by omega)] | rw [if_neg (by omega)])) <;> first | done | rfl | (congr 1; omega) | (subst_vars; rfl)), gB.mk' hG hC hS ht9_ hW⟩, hS.F ht9_⟩) hS.2.2 dX12_tide_43
      · refine lv_iload hx hb dX12_tide_30 (lv_at hl 4 rfl) ?_
        refine z_bipush hx hb dX12_tide_32 (by decide) ?_
        refine z_bipush hx hb dX12_tide_34 (by decide) ?_
        refine g_calli (va_runS (As := [.int (zI p4), .int (zI ((-9))), .int (zI 9)]) (rest := []) ⟨hx, hb, hml, hown, hts⟩ (kX12_in l D cy ad jf A u p4 ((-9)) 9 (by omega) (by omega) (by omega)) (va_cwS 3 hts gX12_tide_X12_in rfl rfl rfl (by decide +kernel) ⟨by decide, by decide⟩) (g_preS hG hC hS) rfl rfl hl.1 rfl (lv_room (Nat.le_of_ble_eq_true rfl)) dX12_tide_36 ⟨Nat.le_of_ble_eq_true rfl, Nat.le_of_ble_eq_true rfl⟩) hS (fun r19 u20 H locs p_21 hG hS => ?_)
        obtain ⟨⟨b22, rfl, q_23⟩, he_⟩ := p_21
        rw [he_] at hG; clear he_
        have hbb22 : 0 ≤ b22 ∧ b22 ≤ 1 := by rcases q_23 with ⟨h, _⟩ | ⟨h, _⟩ <;> omega
        refine z_if_ne (tgt := 44) hx hb dX12_tide_39 (by decide) (by omega) (by omega) (fun c_24 => ?_) (fun c_24 => ?_)
        · refine z_bipush hx hb dX12_tide_44 (by decide) ?_
          refine lv_iload_n hx hb dX12_tide_46 rfl (lv_at hl 1 rfl) ?_
          refine z_imul hx hb dX12_tide_47 ?_
          refine lv_iload_n hx hb dX12_tide_48 rfl (lv_at hl 2 rfl) ?_
          refine z_iadd hx hb dX12_tide_49 ?_
          refine lv_istore (lv' := [(5, .int (zI ((12 * p1) + p2))), (0, .ref (ad 8)), (1, .int (zI p1)), (2, .int (zI p2)), (3, .int (zI p3)), (4, .int (zI p4))]) hx hb dX12_tide_50 hl (by decide) rfl (fun ls hl => ?_)
          refine lv_aload_n hx hb dX12_tide_52 rfl (lv_at hl 1 rfl) ?_
          refine g_get (C := RX12) (T := TX12) (N := 42) (ci := 11) hx hb hts (fun _ h => (List.mem_cons_of_mem _ (List.mem_append_right _ h))) hown hC.1 hG 8 (by decide) rfl rfl 2 (by decide) (hts (.fieldLink RX12 13 "StraitSwimModel" "easts" "[I") (List.mem_cons_of_mem _ (List.mem_append_left _ (List.mem_of_getElem? (i := 0) rfl)))) (fun _ h9 => h9) rfl dX12_tide_53 ?_
          refine lv_iload hx hb dX12_tide_56 (lv_at hl 0 rfl) ?_
          refine g_iald (n := 36) hx hb hC.1 hG 32 (by decide) rfl (by omega) (by omega) (by decide) dX12_tide_58 ?_
          have q_25 := i32 ((12 * p1) + p2).toNat (by omega)
          refine lv_iload_n hx hb dX12_tide_59 rfl (lv_at hl 4 rfl) ?_
          refine z_icmp_ne (tgt := 75) hx hb dX12_tide_60 (by decide) (by omega) (by omega) (by omega) (by omega) (fun c_26 => ?_) (fun c_26 => ?_)
          · refine z_iconst hx hb dX12_tide_75 ?_
            refine lv_goto (tgt := 80) hx hb dX12_tide_76 (by decide) ?_
            refine lv_istore (lv' := [(6, .int (zI 1)), (5, .int (zI ((12 * p1) + p2))), (0, .ref (ad 8)), (1, .int (zI p1)), (2, .int (zI p2)), (3, .int (zI p3)), (4, .int (zI p4))]) hx hb dX12_tide_80 hl (by decide) rfl (fun ls hl => ?_)
            refine lv_aload_n hx hb dX12_tide_82 rfl (lv_at hl 2 rfl) ?_
            refine g_get (C := RX12) (T := TX12) (N := 42) (ci := 11) hx hb hts (fun _ h => (List.mem_cons_of_mem _ (List.mem_append_right _ h))) hown hC.1 hG 8 (by decide) rfl rfl 2 (by decide) (hts (.fieldLink RX12 13 "StraitSwimModel" "easts" "[I") (List.mem_cons_of_mem _ (List.mem_append_left _ (List.mem_of_getElem? (i := 0) rfl)))) (fun _ h9 => h9) rfl dX12_tide_83 ?_
            refine lv_iload hx hb dX12_tide_86 (lv_at hl 1 rfl) ?_
            refine lv_iload_n hx hb dX12_tide_88 rfl (lv_at hl 5 rfl) ?_
            refine g_iast (n := 36) hx hb hC.1 hG hS 32 (by decide) rfl rfl (by omega) (by omega) (by decide) dX12_tide_89 (fun u27 H locs hu27 hG hS => ?_)
            refine lv_aload_n hx hb dX12_tide_90 rfl (lv_at hl 2 rfl) ?_
            refine g_get (C := RX12) (T := TX12) (N := 42) (ci := 11) hx hb hts (fun _ h => (List.mem_cons_of_mem _ (List.mem_append_right _ h))) hown hC.1 hG 8 (by decide) rfl rfl 3 (by decide) (hts (.fieldLink RX12 17 "StraitSwimModel" "norths" "[I") (List.mem_cons_of_mem _ (List.mem_append_left _ (List.mem_of_getElem? (i := 1) rfl)))) (fun _ h9 => h9) rfl dX12_tide_91 ?_
            refine lv_iload hx hb dX12_tide_94 (lv_at hl 1 rfl) ?_
            refine lv_iload hx hb dX12_tide_96 (lv_at hl 6 rfl) ?_
            refine g_iast (n := 36) hx hb hC.1 hG hS 33 (by decide) rfl rfl (by omega) (by omega) (by decide) dX12_tide_98 (fun u28 H locs hu28 hG hS => ?_)
            refine lv_iload hx hb dX12_tide_99 (lv_at hl 0 rfl) ?_
            exact W.iret (v := zI 1) hx hb hr (fun t9 ht9_ hW => ⟨⟨zI 1, u28, rfl, (by subst hu28; subst hu27; refine ⟨?_, ?_⟩ <;> unfold mTide <;> (repeat (first | rw [if_pos (by omega)] | rw [if_neg (by omega)])) <;> first | done | rfl | (congr 1; omega) | (subst_vars; rfl)), gB.mk' hG hC hS ht9_ hW⟩, hS.F ht9_⟩) hS.2.2 dX12_tide_101
          · refine lv_aload_n hx hb dX12_tide_63 rfl (lv_at hl 1 rfl) ?_
            refine g_get (C := RX12) (T := TX12) (N := 42) (ci := 11) hx hb hts (fun _ h => (List.mem_cons_of_mem _ (List.mem_append_right _ h))) hown hC.1 hG 8 (by decide) rfl rfl 3 (by decide) (hts (.fieldLink RX12 17 "StraitSwimModel" "norths" "[I") (List.mem_cons_of_mem _ (List.mem_append_left _ (List.mem_of_getElem? (i := 1) rfl)))) (fun _ h9 => h9) rfl dX12_tide_64 ?_
            refine lv_iload hx hb dX12_tide_67 (lv_at hl 0 rfl) ?_
            refine g_iald (n := 36) hx hb hC.1 hG 33 (by decide) rfl (by omega) (by omega) (by decide) dX12_tide_69 ?_
            have q_29 := i33 ((12 * p1) + p2).toNat (by omega)
            refine lv_iload hx hb dX12_tide_70 (lv_at hl 5 rfl) ?_
            refine z_icmp_eq (tgt := 79) hx hb dX12_tide_72 (by decide) (by omega) (by omega) (by omega) (by omega) (fun c_30 => ?_) (fun c_30 => ?_)
            · refine z_iconst hx hb dX12_tide_79 ?_
              refine lv_istore (lv' := [(6, .int (zI 0)), (5, .int (zI ((12 * p1) + p2))), (0, .ref (ad 8)), (1, .int (zI p1)), (2, .int (zI p2)), (3, .int (zI p3)), (4, .int (zI p4))]) hx hb dX12_tide_80 hl (by decide) rfl (fun ls hl => ?_)
              refine lv_aload_n hx hb dX12_tide_82 rfl (lv_at hl 2 rfl) ?_
              refine g_get (C := RX12) (T := TX12) (N := 42) (ci := 11) hx hb hts (fun _ h => (List.mem_cons_of_mem _ (List.mem_append_right _ h))) hown hC.1 hG 8 (by decide) rfl rfl 2 (by decide) (hts (.fieldLink RX12 13 "StraitSwimModel" "easts" "[I") (List.mem_cons_of_mem _ (List.mem_append_left _ (List.mem_of_getElem? (i := 0) rfl)))) (fun _ h9 => h9) rfl dX12_tide_83 ?_
              refine lv_iload hx hb dX12_tide_86 (lv_at hl 1 rfl) ?_
              refine lv_iload_n hx hb dX12_tide_88 rfl (lv_at hl 5 rfl) ?_
              refine g_iast (n := 36) hx hb hC.1 hG hS 32 (by decide) rfl rfl (by omega) (by omega) (by decide) dX12_tide_89 (fun u31 H locs hu31 hG hS => ?_)
              refine lv_aload_n hx hb dX12_tide_90 rfl (lv_at hl 2 rfl) ?_
              refine g_get (C := RX12) (T := TX12) (N := 42) (ci := 11) hx hb hts (fun _ h => (List.mem_cons_of_mem _ (List.mem_append_right _ h))) hown hC.1 hG 8 (by decide) rfl rfl 3 (by decide) (hts (.fieldLink RX12 17 "StraitSwimModel" "norths" "[I") (List.mem_cons_of_mem _ (List.mem_append_left _ (List.mem_of_getElem? (i := 1) rfl)))) (fun _ h9 => h9) rfl dX12_tide_91 ?_
              refine lv_iload hx hb dX12_tide_94 (lv_at hl 1 rfl) ?_
              refine lv_iload hx hb dX12_tide_96 (lv_at hl 6 rfl) ?_
              refine g_iast (n := 36) hx hb hC.1 hG hS 33 (by decide) rfl rfl (by omega) (by omega) (by decide) dX12_tide_98 (fun u32 H locs hu32 hG hS => ?_)
              refine lv_iload hx hb dX12_tide_99 (lv_at hl 0 rfl) ?_
              exact W.iret (v := zI 0) hx hb hr (fun t9 ht9_ hW => ⟨⟨zI 0, u32, rfl, (by subst hu32; subst hu31; refine ⟨?_, ?_⟩ <;> unfold mTide <;> (repeat (first | rw [if_pos (by omega)] | rw [if_neg (by omega)])) <;> first | done | rfl | (congr 1; omega) | (subst_vars; rfl)), gB.mk' hG hC hS ht9_ hW⟩, hS.F ht9_⟩) hS.2.2 dX12_tide_101
            · refine z_iconst hx hb dX12_tide_75 ?_
              refine lv_goto (tgt := 80) hx hb dX12_tide_76 (by decide) ?_
              refine lv_istore (lv' := [(6, .int (zI 1)), (5, .int (zI ((12 * p1) + p2))), (0, .ref (ad 8)), (1, .int (zI p1)), (2, .int (zI p2)), (3, .int (zI p3)), (4, .int (zI p4))]) hx hb dX12_tide_80 hl (by decide) rfl (fun ls hl => ?_)
              refine lv_aload_n hx hb dX12_tide_82 rfl (lv_at hl 2 rfl) ?_
              refine g_get (C := RX12) (T := TX12) (N := 42) (ci := 11) hx hb hts (fun _ h => (List.mem_cons_of_mem _ (List.mem_append_right _ h))) hown hC.1 hG 8 (by decide) rfl rfl 2 (by decide) (hts (.fieldLink RX12 13 "StraitSwimModel" "easts" "[I") (List.mem_cons_of_mem _ (List.mem_append_left _ (List.mem_of_getElem? (i := 0) rfl)))) (fun _ h9 => h9) rfl dX12_tide_83 ?_
              refine lv_iload hx hb dX12_tide_86 (lv_at hl 1 rfl) ?_
              refine lv_iload_n hx hb dX12_tide_88 rfl (lv_at hl 5 rfl) ?_
              refine g_iast (n := 36) hx hb hC.1 hG hS 32 (by decide) rfl rfl (by omega) (by omega) (by decide) dX12_tide_89 (fun u33 H locs hu33 hG hS => ?_)
              refine lv_aload_n hx hb dX12_tide_90 rfl (lv_at hl 2 rfl) ?_
              refine g_get (C := RX12) (T := TX12) (N := 42) (ci := 11) hx hb hts (fun _ h => (List.mem_cons_of_mem _ (List.mem_append_right _ h))) hown hC.1 hG 8 (by decide) rfl rfl 3 (by decide) (hts (.fieldLink RX12 17 "StraitSwimModel" "norths" "[I") (List.mem_cons_of_mem _ (List.mem_append_left _ (List.mem_of_getElem? (i := 1) rfl)))) (fun _ h9 => h9) rfl dX12_tide_91 ?_
              refine lv_iload hx hb dX12_tide_94 (lv_at hl 1 rfl) ?_
              refine lv_iload hx hb dX12_tide_96 (lv_at hl 6 rfl) ?_
              refine g_iast (n := 36) hx hb hC.1 hG hS 33 (by decide) rfl rfl (by omega) (by omega) (by decide) dX12_tide_98 (fun u34 H locs hu34 hG hS => ?_)
              refine lv_iload hx hb dX12_tide_99 (lv_at hl 0 rfl) ?_
              exact W.iret (v := zI 1) hx hb hr (fun t9 ht9_ hW => ⟨⟨zI 1, u34, rfl, (by subst hu34; subst hu33; refine ⟨?_, ?_⟩ <;> unfold mTide <;> (repeat (first | rw [if_pos (by omega)] | rw [if_neg (by omega)])) <;> first | done | rfl | (congr 1; omega) | (subst_vars; rfl)), gB.mk' hG hC hS ht9_ hW⟩, hS.F ht9_⟩) hS.2.2 dX12_tide_101
        · refine z_iconst hx hb dX12_tide_42 ?_
          exact W.iret (v := zI ((-1))) hx hb hr (fun t9 ht9_ hW => ⟨⟨zI ((-1)), u, rfl, (by skip; refine ⟨?_, ?_⟩ <;> unfold mTide <;> (repeat (first | rw [if_pos (by omega)] | rw [if_neg (by omega)])) <;> first | done | rfl | (congr 1; omega) | (subst_vars; rfl)), gB.mk' hG hC hS ht9_ hW⟩, hS.F ht9_⟩) hS.2.2 dX12_tide_43
set_option maxHeartbeats 4000000 in
set_option maxRecDepth 100000 in
theorem kX12_set (l : Launch) (D : va_G) (cy : Nat → ClassId) (ad : Nat → Nat) (jf : Nat → Int64) (A : Nat → Prop) (u : gS) (p1 p2 : Int) (j_p1 : -2147483648 ≤ p1 ∧ p1 < 2147483648) (j_p2 : -2147483648 ≤ p2 ∧ p2 < 2147483648) (i21 : 0 ≤ u.1 21 ∧ u.1 21 ≤ 20) (i22 : 1 ≤ u.1 22 ∧ u.1 22 ≤ 60) : Met l yX12_set wsX12_set ({ frames := 1, cells := 0, slots := 0, locals := 22 }) (va_Pc [.ref (ad 8), .int (zI p1), .int (zI p2)] (gB D cy ad jf A u)) (va_Qi (fun (r : Int32) (v : gS) => r = zI (mSet u p1 p2).1 ∧ v = (mSet u p1 p2).2) (gB D cy ad jf A) A) 0 0 A := by
  refine Met.ofW (cc := cX12_set) (maxL := 4) (ret := (some .int)) (by decide) rfl ?_
  intro p e s m args below meth c s₁ B hml hv
  obtain ⟨rfl, hG, hC⟩ := hv
  have hx := B.exec
  have hb := B.bytes
  have hr := B.returns
  have hts := atoms_spec (ws := wsX12_set) B.pre
  have hown : s.vm.findClass RX12 = some m.cls := findClass_of_methodNamed B.named
  have hlocks := B.notSynchronized
  have hS : va_S A s.heap s.heap [] := va_S.rf
  have hl := lv_entry ([.ref (ad 8), .int (zI p1), .int (zI p2)]) (n := 4) (Nat.le_of_ble_eq_true rfl)
  rw [lg_entry_eq]
  generalize (lg_sl ([.ref (ad 8), .int (zI p1), .int (zI p2)]) ++ List.replicate (4 - (lg_sl ([.ref (ad 8), .int (zI p1), .int (zI p2)])).length) Slot.unset).toArray = ls at hl ⊢
  have hl : lv_has ls 4 [(0, .ref (ad 8)), (1, .int (zI p1)), (2, .int (zI p2))] := hl
  refine lv_iload_n hx hb dX12_set_0 rfl (lv_at hl 1 rfl) ?_
  refine z_if_ne (tgt := 17) hx hb dX12_set_1 (by decide) (by omega) (by omega) (fun c_1 => ?_) (fun c_1 => ?_)
  · refine lv_iload_n hx hb dX12_set_17 rfl (lv_at hl 1 rfl) ?_
    refine z_iconst hx hb dX12_set_18 ?_
    refine z_icmp_ne (tgt := 32) hx hb dX12_set_19 (by decide) (by omega) (by omega) (by omega) (by omega) (fun c_2 => ?_) (fun c_2 => ?_)
    · refine z_iconst hx hb dX12_set_32 ?_
      exact W.iret (v := zI ((-1))) hx hb hr (fun t9 ht9_ hW => ⟨⟨zI ((-1)), u, rfl, (by skip; refine ⟨?_, ?_⟩ <;> unfold mSet <;> (repeat (first | rw [if_pos (by omega)] | rw [if_neg (by omega)])) <;> first | done | rfl | (congr 1; omega) | (subst_vars; rfl)), gB.mk' hG hC hS ht9_ hW⟩, hS.F ht9_⟩) hS.2.2 dX12_set_33
    · refine lv_iload_n hx hb dX12_set_22 rfl (lv_at hl 2 rfl) ?_
      refine z_iconst hx hb dX12_set_23 ?_
      refine z_bipush hx hb dX12_set_24 (by decide) ?_
      refine g_calli (va_runS (As := [.int (zI p2), .int (zI 1), .int (zI 60)]) (rest := []) ⟨hx, hb, hml, hown, hts⟩ (kX12_in l D cy ad jf A u p2 1 60 (by omega) (by omega) (by omega)) (va_cwS 3 hts gX12_set_X12_in rfl rfl rfl (by decide +kernel) ⟨by decide, by decide⟩) (g_preS hG hC hS) rfl rfl hl.1 rfl (lv_room (Nat.le_of_ble_eq_true rfl)) dX12_set_26 ⟨Nat.le_of_ble_eq_true rfl, Nat.le_of_ble_eq_true rfl⟩) hS (fun r3 u4 H locs p_5 hG hS => ?_)
      obtain ⟨⟨b6, rfl, q_7⟩, he_⟩ := p_5
      rw [he_] at hG; clear he_
      have hbb6 : 0 ≤ b6 ∧ b6 ≤ 1 := by rcases q_7 with ⟨h, _⟩ | ⟨h, _⟩ <;> omega
      refine z_if_ne (tgt := 34) hx hb dX12_set_29 (by decide) (by omega) (by omega) (fun c_8 => ?_) (fun c_8 => ?_)
      · refine lv_iload_n hx hb dX12_set_34 rfl (lv_at hl 1 rfl) ?_
        refine z_if_ne (tgt := 45) hx hb dX12_set_35 (by decide) (by omega) (by omega) (fun c_9 => ?_) (fun c_9 => ?_)
        · refine lv_aload_n hx hb dX12_set_45 rfl (lv_at hl 0 rfl) ?_
          refine g_get (C := RX12) (T := TX12) (N := 42) (ci := 11) hx hb hts (fun _ h => (List.mem_cons_of_mem _ (List.mem_append_right _ h))) hown hC.1 hG 8 (by decide) rfl rfl 5 (by decide) (hts (.fieldLink RX12 24 "StraitSwimModel" "nearness" "I") (List.mem_cons_of_mem _ (List.mem_append_left _ (List.mem_of_getElem? (i := 1) rfl)))) (fun _ h9 => h9) rfl dX12_set_46 ?_
          refine lv_istore_n (lv' := [(3, .int (zI (u.1 22))), (0, .ref (ad 8)), (1, .int (zI p1)), (2, .int (zI p2))]) hx hb dX12_set_49 rfl hl (by decide) rfl (fun ls hl => ?_)
          refine lv_iload_n hx hb dX12_set_50 rfl (lv_at hl 2 rfl) ?_
          refine z_if_ne (tgt := 62) hx hb dX12_set_51 (by decide) (by omega) (by omega) (fun c_10 => ?_) (fun c_10 => ?_)
          · refine lv_aload_n hx hb dX12_set_62 rfl (lv_at hl 1 rfl) ?_
            refine lv_iload_n hx hb dX12_set_63 rfl (lv_at hl 3 rfl) ?_
            refine g_put (C := RX12) (T := TX12) (N := 42) (ci := 11) (ty := .int) hx hb hts (fun _ h => (List.mem_cons_of_mem _ (List.mem_append_right _ h))) tyX12 tyX12_ok nmX12 hown hC.1 hG hS 8 (by decide) rfl rfl 5 22 (by decide) (hts (.fieldLink RX12 24 "StraitSwimModel" "nearness" "I") (List.mem_cons_of_mem _ (List.mem_append_left _ (List.mem_of_getElem? (i := 1) rfl)))) (fun _ h9 => h9) rfl (by decide +kernel) rfl rfl (Nat.le_of_ble_eq_true rfl) rfl (gO_22 ad _ _) dX12_set_64 (fun u11 H locs hu11 hG hS => ?_)
            refine lv_iload_n hx hb dX12_set_67 rfl (lv_at hl 0 rfl) ?_
            exact W.iret (v := zI (u.1 22)) hx hb hr (fun t9 ht9_ hW => ⟨⟨zI (u.1 22), u11, rfl, (by subst hu11; refine ⟨?_, ?_⟩ <;> unfold mSet <;> (repeat (first | rw [if_pos (by omega)] | rw [if_neg (by omega)])) <;> first | done | rfl | (congr 1; omega) | (subst_vars; rfl)), gB.mk' hG hC hS ht9_ hW⟩, hS.F ht9_⟩) hS.2.2 dX12_set_68
          · refine lv_aload_n hx hb dX12_set_54 rfl (lv_at hl 1 rfl) ?_
            refine lv_iload_n hx hb dX12_set_55 rfl (lv_at hl 3 rfl) ?_
            refine g_put (C := RX12) (T := TX12) (N := 42) (ci := 11) (ty := .int) hx hb hts (fun _ h => (List.mem_cons_of_mem _ (List.mem_append_right _ h))) tyX12 tyX12_ok nmX12 hown hC.1 hG hS 8 (by decide) rfl rfl 4 21 (by decide) (hts (.fieldLink RX12 20 "StraitSwimModel" "chill" "I") (List.mem_cons_of_mem _ (List.mem_append_left _ (List.mem_of_getElem? (i := 0) rfl)))) (fun _ h9 => h9) rfl (by decide +kernel) rfl rfl (Nat.le_of_ble_eq_true rfl) rfl (gO_21 ad _ _) dX12_set_56 (fun u12 H locs hu12 hG hS => ?_)
            refine lv_goto (tgt := 67) hx hb dX12_set_59 (by decide) ?_
            refine lv_iload_n hx hb dX12_set_67 rfl (lv_at hl 0 rfl) ?_
            exact W.iret (v := zI (u.1 22)) hx hb hr (fun t9 ht9_ hW => ⟨⟨zI (u.1 22), u12, rfl, (by subst hu12; refine ⟨?_, ?_⟩ <;> unfold mSet <;> (repeat (first | rw [if_pos (by omega)] | rw [if_neg (by omega)])) <;> first | done | rfl | (congr 1; omega) | (subst_vars; rfl)), gB.mk' hG hC hS ht9_ hW⟩, hS.F ht9_⟩) hS.2.2 dX12_set_68
        · refine lv_aload_n hx hb dX12_set_38 rfl (lv_at hl 0 rfl) ?_
          refine g_get (C := RX12) (T := TX12) (N := 42) (ci := 11) hx hb hts (fun _ h => (List.mem_cons_of_mem _ (List.mem_append_right _ h))) hown hC.1 hG 8 (by decide) rfl rfl 4 (by decide) (hts (.fieldLink RX12 20 "StraitSwimModel" "chill" "I") (List.mem_cons_of_mem _ (List.mem_append_left _ (List.mem_of_getElem? (i := 0) rfl)))) (fun _ h9 => h9) rfl dX12_set_39 ?_
          refine lv_goto (tgt := 49) hx hb dX12_set_42 (by decide) ?_
          refine lv_istore_n (lv' := [(3, .int (zI (u.1 21))), (0, .ref (ad 8)), (1, .int (zI p1)), (2, .int (zI p2))]) hx hb dX12_set_49 rfl hl (by decide) rfl (fun ls hl => ?_)
          refine lv_iload_n hx hb dX12_set_50 rfl (lv_at hl 2 rfl) ?_
          refine z_if_ne (tgt := 62) hx hb dX12_set_51 (by decide) (by omega) (by omega) (fun c_13 => ?_) (fun c_13 => ?_)
          · refine lv_aload_n hx hb dX12_set_62 rfl (lv_at hl 1 rfl) ?_
            refine lv_iload_n hx hb dX12_set_63 rfl (lv_at hl 3 rfl) ?_
            refine g_put (C := RX12) (T := TX12) (N := 42) (ci := 11) (ty := .int) hx hb hts (fun _ h => (List.mem_cons_of_mem _ (List.mem_append_right _ h))) tyX12 tyX12_ok nmX12 hown hC.1 hG hS 8 (by decide) rfl rfl 5 22 (by decide) (hts (.fieldLink RX12 24 "StraitSwimModel" "nearness" "I") (List.mem_cons_of_mem _ (List.mem_append_left _ (List.mem_of_getElem? (i := 1) rfl)))) (fun _ h9 => h9) rfl (by decide +kernel) rfl rfl (Nat.le_of_ble_eq_true rfl) rfl (gO_22 ad _ _) dX12_set_64 (fun u14 H locs hu14 hG hS => ?_)
            refine lv_iload_n hx hb dX12_set_67 rfl (lv_at hl 0 rfl) ?_
            exact W.iret (v := zI (u.1 21)) hx hb hr (fun t9 ht9_ hW => ⟨⟨zI (u.1 21), u14, rfl, (by subst hu14; refine ⟨?_, ?_⟩ <;> unfold mSet <;> (repeat (first | rw [if_pos (by omega)] | rw [if_neg (by omega)])) <;> first | done | rfl | (congr 1; omega) | (subst_vars; rfl)), gB.mk' hG hC hS ht9_ hW⟩, hS.F ht9_⟩) hS.2.2 dX12_set_68
          · refine lv_aload_n hx hb dX12_set_54 rfl (lv_at hl 1 rfl) ?_
            refine lv_iload_n hx hb dX12_set_55 rfl (lv_at hl 3 rfl) ?_
            refine g_put (C := RX12) (T := TX12) (N := 42) (ci := 11) (ty := .int) hx hb hts (fun _ h => (List.mem_cons_of_mem _ (List.mem_append_right _ h))) tyX12 tyX12_ok nmX12 hown hC.1 hG hS 8 (by decide) rfl rfl 4 21 (by decide) (hts (.fieldLink RX12 20 "StraitSwimModel" "chill" "I") (List.mem_cons_of_mem _ (List.mem_append_left _ (List.mem_of_getElem? (i := 0) rfl)))) (fun _ h9 => h9) rfl (by decide +kernel) rfl rfl (Nat.le_of_ble_eq_true rfl) rfl (gO_21 ad _ _) dX12_set_56 (fun u15 H locs hu15 hG hS => ?_)
            refine lv_goto (tgt := 67) hx hb dX12_set_59 (by decide) ?_
            refine lv_iload_n hx hb dX12_set_67 rfl (lv_at hl 0 rfl) ?_
            exact W.iret (v := zI (u.1 21)) hx hb hr (fun t9 ht9_ hW => ⟨⟨zI (u.1 21), u15, rfl, (by subst hu15; refine ⟨?_, ?_⟩ <;> unfold mSet <;> (repeat (first | rw [if_pos (by omega)] | rw [if_neg (by omega)])) <;> first | done | rfl | (congr 1; omega) | (subst_vars; rfl)), gB.mk' hG hC hS ht9_ hW⟩, hS.F ht9_⟩) hS.2.2 dX12_set_68
      · refine z_iconst hx hb dX12_set_32 ?_
        exact W.iret (v := zI ((-1))) hx hb hr (fun t9 ht9_ hW => ⟨⟨zI ((-1)), u, rfl, (by skip; refine ⟨?_, ?_⟩ <;> unfold mSet <;> (repeat (first | rw [if_pos (by omega)] | rw [if_neg (by omega)])) <;> first | done | rfl | (congr 1; omega) | (subst_vars; rfl)), gB.mk' hG hC hS ht9_ hW⟩, hS.F ht9_⟩) hS.2.2 dX12_set_33
  · refine lv_iload_n hx hb dX12_set_4 rfl (lv_at hl 2 rfl) ?_
    refine z_iconst hx hb dX12_set_5 ?_
    refine z_bipush hx hb dX12_set_6 (by decide) ?_
    refine g_calli (va_runS (As := [.int (zI p2), .int (zI 0), .int (zI 20)]) (rest := []) ⟨hx, hb, hml, hown, hts⟩ (kX12_in l D cy ad jf A u p2 0 20 (by omega) (by omega) (by omega)) (va_cwS 3 hts gX12_set_X12_in rfl rfl rfl (by decide +kernel) ⟨by decide, by decide⟩) (g_preS hG hC hS) rfl rfl hl.1 rfl (lv_room (Nat.le_of_ble_eq_true rfl)) dX12_set_8 ⟨Nat.le_of_ble_eq_true rfl, Nat.le_of_ble_eq_true rfl⟩) hS (fun r16 u17 H locs p_18 hG hS => ?_)
    obtain ⟨⟨b19, rfl, q_20⟩, he_⟩ := p_18
    rw [he_] at hG; clear he_
    have hbb19 : 0 ≤ b19 ∧ b19 ≤ 1 := by rcases q_20 with ⟨h, _⟩ | ⟨h, _⟩ <;> omega
    refine z_if_ne (tgt := 34) hx hb dX12_set_11 (by decide) (by omega) (by omega) (fun c_21 => ?_) (fun c_21 => ?_)
    · refine lv_iload_n hx hb dX12_set_34 rfl (lv_at hl 1 rfl) ?_
      refine z_if_ne (tgt := 45) hx hb dX12_set_35 (by decide) (by omega) (by omega) (fun c_22 => ?_) (fun c_22 => ?_)
      · refine lv_aload_n hx hb dX12_set_45 rfl (lv_at hl 0 rfl) ?_
        refine g_get (C := RX12) (T := TX12) (N := 42) (ci := 11) hx hb hts (fun _ h => (List.mem_cons_of_mem _ (List.mem_append_right _ h))) hown hC.1 hG 8 (by decide) rfl rfl 5 (by decide) (hts (.fieldLink RX12 24 "StraitSwimModel" "nearness" "I") (List.mem_cons_of_mem _ (List.mem_append_left _ (List.mem_of_getElem? (i := 1) rfl)))) (fun _ h9 => h9) rfl dX12_set_46 ?_
        refine lv_istore_n (lv' := [(3, .int (zI (u.1 22))), (0, .ref (ad 8)), (1, .int (zI p1)), (2, .int (zI p2))]) hx hb dX12_set_49 rfl hl (by decide) rfl (fun ls hl => ?_)
        refine lv_iload_n hx hb dX12_set_50 rfl (lv_at hl 2 rfl) ?_
        refine z_if_ne (tgt := 62) hx hb dX12_set_51 (by decide) (by omega) (by omega) (fun c_23 => ?_) (fun c_23 => ?_)
        · refine lv_aload_n hx hb dX12_set_62 rfl (lv_at hl 1 rfl) ?_
          refine lv_iload_n hx hb dX12_set_63 rfl (lv_at hl 3 rfl) ?_
          refine g_put (C := RX12) (T := TX12) (N := 42) (ci := 11) (ty := .int) hx hb hts (fun _ h => (List.mem_cons_of_mem _ (List.mem_append_right _ h))) tyX12 tyX12_ok nmX12 hown hC.1 hG hS 8 (by decide) rfl rfl 5 22 (by decide) (hts (.fieldLink RX12 24 "StraitSwimModel" "nearness" "I") (List.mem_cons_of_mem _ (List.mem_append_left _ (List.mem_of_getElem? (i := 1) rfl)))) (fun _ h9 => h9) rfl (by decide +kernel) rfl rfl (Nat.le_of_ble_eq_true rfl) rfl (gO_22 ad _ _) dX12_set_64 (fun u24 H locs hu24 hG hS => ?_)
          refine lv_iload_n hx hb dX12_set_67 rfl (lv_at hl 0 rfl) ?_
          exact W.iret (v := zI (u.1 22)) hx hb hr (fun t9 ht9_ hW => ⟨⟨zI (u.1 22), u24, rfl, (by subst hu24; refine ⟨?_, ?_⟩ <;> unfold mSet <;> (repeat (first | rw [if_pos (by omega)] | rw [if_neg (by omega)])) <;> first | done | rfl | (congr 1; omega) | (subst_vars; rfl)), gB.mk' hG hC hS ht9_ hW⟩, hS.F ht9_⟩) hS.2.2 dX12_set_68
        · refine lv_aload_n hx hb dX12_set_54 rfl (lv_at hl 1 rfl) ?_
          refine lv_iload_n hx hb dX12_set_55 rfl (lv_at hl 3 rfl) ?_
          refine g_put (C := RX12) (T := TX12) (N := 42) (ci := 11) (ty := .int) hx hb hts (fun _ h => (List.mem_cons_of_mem _ (List.mem_append_right _ h))) tyX12 tyX12_ok nmX12 hown hC.1 hG hS 8 (by decide) rfl rfl 4 21 (by decide) (hts (.fieldLink RX12 20 "StraitSwimModel" "chill" "I") (List.mem_cons_of_mem _ (List.mem_append_left _ (List.mem_of_getElem? (i := 0) rfl)))) (fun _ h9 => h9) rfl (by decide +kernel) rfl rfl (Nat.le_of_ble_eq_true rfl) rfl (gO_21 ad _ _) dX12_set_56 (fun u25 H locs hu25 hG hS => ?_)
          refine lv_goto (tgt := 67) hx hb dX12_set_59 (by decide) ?_
          refine lv_iload_n hx hb dX12_set_67 rfl (lv_at hl 0 rfl) ?_
          exact W.iret (v := zI (u.1 22)) hx hb hr (fun t9 ht9_ hW => ⟨⟨zI (u.1 22), u25, rfl, (by subst hu25; refine ⟨?_, ?_⟩ <;> unfold mSet <;> (repeat (first | rw [if_pos (by omega)] | rw [if_neg (by omega)])) <;> first | done | rfl | (congr 1; omega) | (subst_vars; rfl)), gB.mk' hG hC hS ht9_ hW⟩, hS.F ht9_⟩) hS.2.2 dX12_set_68
      · refine lv_aload_n hx hb dX12_set_38 rfl (lv_at hl 0 rfl) ?_
        refine g_get (C := RX12) (T := TX12) (N := 42) (ci := 11) hx hb hts (fun _ h => (List.mem_cons_of_mem _ (List.mem_append_right _ h))) hown hC.1 hG 8 (by decide) rfl rfl 4 (by decide) (hts (.fieldLink RX12 20 "StraitSwimModel" "chill" "I") (List.mem_cons_of_mem _ (List.mem_append_left _ (List.mem_of_getElem? (i := 0) rfl)))) (fun _ h9 => h9) rfl dX12_set_39 ?_
        refine lv_goto (tgt := 49) hx hb dX12_set_42 (by decide) ?_
        refine lv_istore_n (lv' := [(3, .int (zI (u.1 21))), (0, .ref (ad 8)), (1, .int (zI p1)), (2, .int (zI p2))]) hx hb dX12_set_49 rfl hl (by decide) rfl (fun ls hl => ?_)
        refine lv_iload_n hx hb dX12_set_50 rfl (lv_at hl 2 rfl) ?_
        refine z_if_ne (tgt := 62) hx hb dX12_set_51 (by decide) (by omega) (by omega) (fun c_26 => ?_) (fun c_26 => ?_)
        · refine lv_aload_n hx hb dX12_set_62 rfl (lv_at hl 1 rfl) ?_
          refine lv_iload_n hx hb dX12_set_63 rfl (lv_at hl 3 rfl) ?_
          refine g_put (C := RX12) (T := TX12) (N := 42) (ci := 11) (ty := .int) hx hb hts (fun _ h => (List.mem_cons_of_mem _ (List.mem_append_right _ h))) tyX12 tyX12_ok nmX12 hown hC.1 hG hS 8 (by decide) rfl rfl 5 22 (by decide) (hts (.fieldLink RX12 24 "StraitSwimModel" "nearness" "I") (List.mem_cons_of_mem _ (List.mem_append_left _ (List.mem_of_getElem? (i := 1) rfl)))) (fun _ h9 => h9) rfl (by decide +kernel) rfl rfl (Nat.le_of_ble_eq_true rfl) rfl (gO_22 ad _ _) dX12_set_64 (fun u27 H locs hu27 hG hS => ?_)
          refine lv_iload_n hx hb dX12_set_67 rfl (lv_at hl 0 rfl) ?_
          exact W.iret (v := zI (u.1 21)) hx hb hr (fun t9 ht9_ hW => ⟨⟨zI (u.1 21), u27, rfl, (by subst hu27; refine ⟨?_, ?_⟩ <;> unfold mSet <;> (repeat (first | rw [if_pos (by omega)] | rw [if_neg (by omega)])) <;> first | done | rfl | (congr 1; omega) | (subst_vars; rfl)), gB.mk' hG hC hS ht9_ hW⟩, hS.F ht9_⟩) hS.2.2 dX12_set_68
        · refine lv_aload_n hx hb dX12_set_54 rfl (lv_at hl 1 rfl) ?_
          refine lv_iload_n hx hb dX12_set_55 rfl (lv_at hl 3 rfl) ?_
          refine g_put (C := RX12) (T := TX12) (N := 42) (ci := 11) (ty := .int) hx hb hts (fun _ h => (List.mem_cons_of_mem _ (List.mem_append_right _ h))) tyX12 tyX12_ok nmX12 hown hC.1 hG hS 8 (by decide) rfl rfl 4 21 (by decide) (hts (.fieldLink RX12 20 "StraitSwimModel" "chill" "I") (List.mem_cons_of_mem _ (List.mem_append_left _ (List.mem_of_getElem? (i := 0) rfl)))) (fun _ h9 => h9) rfl (by decide +kernel) rfl rfl (Nat.le_of_ble_eq_true rfl) rfl (gO_21 ad _ _) dX12_set_56 (fun u28 H locs hu28 hG hS => ?_)
          refine lv_goto (tgt := 67) hx hb dX12_set_59 (by decide) ?_
          refine lv_iload_n hx hb dX12_set_67 rfl (lv_at hl 0 rfl) ?_
          exact W.iret (v := zI (u.1 21)) hx hb hr (fun t9 ht9_ hW => ⟨⟨zI (u.1 21), u28, rfl, (by subst hu28; refine ⟨?_, ?_⟩ <;> unfold mSet <;> (repeat (first | rw [if_pos (by omega)] | rw [if_neg (by omega)])) <;> first | done | rfl | (congr 1; omega) | (subst_vars; rfl)), gB.mk' hG hC hS ht9_ hW⟩, hS.F ht9_⟩) hS.2.2 dX12_set_68
    · refine lv_goto (tgt := 32) hx hb dX12_set_14 (by decide) ?_
      refine z_iconst hx hb dX12_set_32 ?_
      exact W.iret (v := zI ((-1))) hx hb hr (fun t9 ht9_ hW => ⟨⟨zI ((-1)), u, rfl, (by skip; refine ⟨?_, ?_⟩ <;> unfold mSet <;> (repeat (first | rw [if_pos (by omega)] | rw [if_neg (by omega)])) <;> first | done | rfl | (congr 1; omega) | (subst_vars; rfl)), gB.mk' hG hC hS ht9_ hW⟩, hS.F ht9_⟩) hS.2.2 dX12_set_33
