set_option maxHeartbeats 8000000 in
set_option maxRecDepth 100000 in
theorem kX10_init (l : Launch) (D : va_G) (cy : Nat → ClassId) (A : Nat → Prop) (u : pS) (a : Nat) (p1 : Int) (ha_a : a ∈ u.1) (hE_a : u.2 a = .inr (9, [.null, .int (zI 0)])) (j_1 : 0 ≤ p1 ∧ p1 ≤ 60) : Met l yX10_init wsX10_init ({ frames := 1, cells := 1, slots := 60, locals := 30 }) (va_Pc [.ref a, .int (zI p1)] (pB D cy A u)) (va_Qv (fun v : pS => ∃ b3, v.1 = (u.1 ++ [b3]) ∧ (b3 ∉ u.1) ∧ (v.2 a = .inr (9, [.ref b3, .int (zI 0)]) ∧ v.2 b3 = .inl (cy 0, p1.toNat, .inl (fun _ => zI 0))) ∧ ∀ x, x ∈ u.1 → x ≠ a → v.2 x = u.2 x) (pB D cy A) A) 1 60 A := by
  refine Met.ofW (cc := cX10_init) (maxL := 2) (ret := none) (by decide) rfl ?_
  intro p e s m args below meth c s₁ B hml hv
  obtain ⟨rfl, hG, hI⟩ := hv
  have hx := B.exec
  have hb := B.bytes
  have hr := B.returns
  have hts := atoms_spec (ws := wsX10_init) B.pre
  have hown : s.vm.findClass RX10 = some m.cls := findClass_of_methodNamed B.named
  have hlocks := B.notSynchronized
  have hS : va_S A s.heap s.heap [] := va_S.rf
  have hin2 : meth.name = "<init>" := (name_of_methodNamed B.named B.method).1
  have hl := lv_entry ([.ref a, .int (zI p1)]) (n := 2) (Nat.le_of_ble_eq_true rfl)
  rw [lg_entry_eq]
  generalize (lg_sl ([.ref a, .int (zI p1)]) ++ List.replicate (2 - (lg_sl ([.ref a, .int (zI p1)])).length) Slot.unset).toArray = ls at hl ⊢
  have hl : lv_has ls 2 [(0, .ref a), (1, .int (zI p1))] := hl
  have hLu : u.1 = u.1 := rfl
  have hMu : ∀ x, x ∈ u.1 → x ∈ u.1 := fun _ h => h
  have hOu : ∀ x, x ∈ u.1 → x ≠ a → u.2 x = u.2 x := fun _ _ _ => rfl
  refine lv_aload_n hx hb dX10_init_0 rfl (lv_at hl 0 rfl) ?_
  refine W.objInit hx hb hown (hts (.methodLink RX10 1 objectInit) (List.mem_cons_of_mem _ (List.mem_append_left _ (List.mem_of_getElem? (i := 0) rfl)))) (hts (.instanceMethod objectInit) (List.mem_cons_of_mem _ (List.mem_append_left _ (List.mem_of_getElem? (i := 1) rfl)))) (hts (.code objectInit ⟨#[0xb1]⟩ 1 none) (List.mem_cons_of_mem _ (List.mem_append_left _ (List.mem_of_getElem? (i := 2) rfl)))) rfl (by rw [hml]; exact hl.1) rfl dX10_init_1 (Nat.le_of_ble_eq_true rfl) (Nat.le_of_ble_eq_true rfl) ?_
  refine W.eq (g2 := F0 m 4 ls []) rfl ?_
  refine lv_aload_n hx hb dX10_init_4 rfl (lv_at hl 0 rfl) ?_
  refine z_iconst hx hb dX10_init_5 ?_
  obtain ⟨k9, hk9⟩ := p_get D u ha_a
  refine va_put (C := RX10) (T := TX10) (N := 2) (ci := 9) (ty := tyX10 1) hx hb hts (fun _ h => (List.mem_cons_of_mem _ (List.mem_append_right _ h))) tyX10 tyX10_ok nmX10 hown hI.1 hG.1 hG.2 hS k9 (hk9.trans (by rw [hE_a])) rfl 1 (by decide) (hts (.fieldLink RX10 7 "StraitSwim$Tally" "size" "I") (List.mem_cons_of_mem _ (List.mem_append_left _ (List.mem_of_getElem? (i := 3) rfl)))) (fun _ h9 => h9) rfl (tyX10_ok 1 (by decide)) rfl rfl (Nat.le_of_ble_eq_true rfl) dX10_init_6 (fun H locs hP hD hS => ?_)
  obtain ⟨u1, hu1, hEu1, hpu1, hG⟩ := p_set (e := .inr (9, [.null, .int (zI 0)])) hG ha_a hk9 hP hD
  have mt2 : a ∈ u1.1 := (fun x hx => by rw [hu1]; exact hx : ∀ x, x ∈ u.1 → x ∈ u1.1) a ha_a
  have hLu1 : u1.1 = u.1 := by rw [hu1, hLu]
  have hMu1 : ∀ x, x ∈ u.1 → x ∈ u1.1 := fun x hx => by rw [hu1]; exact hMu x hx
  have hOu1 : ∀ x, x ∈ u.1 → x ≠ a → u1.2 x = u.2 x := fun x hx ne => (hpu1 x ne).trans (hOu x hx ne)
  refine lv_aload_n hx hb dX10_init_9 rfl (lv_at hl 0 rfl) ?_
  refine lv_iload_n hx hb dX10_init_10 rfl (lv_at hl 1 rfl) ?_
  refine p_newI (z := p1) (M := 60) hx hb (hts (.arrayClass .int) (List.mem_cons_of_mem _ (List.mem_append_left _ (List.mem_of_getElem? (i := 4) rfl)))) hI hG hS (by omega) (by omega) (by omega) (Nat.le_of_ble_eq_true rfl) (Nat.le_of_ble_eq_true rfl) dX10_init_11 (fun b3 u4 H hu4 hEb3 hpu4 hnb3 hG hS => ?_)
  have hEb3 : u4.2 b3 = .inl (cy 0, p1.toNat, .inl (fun _ => zI 0)) := hEb3
  have fb3 : b3 ∉ u.1 := by rw [← hLu1]; exact hnb3
  have hLu4 : u4.1 = (u.1 ++ [b3]) := by rw [hu4, hLu1]
  have hMu4 : ∀ x, x ∈ u.1 → x ∈ u4.1 := fun x hx => by rw [hu4]; exact List.mem_append_left _ (hMu1 x hx)
  have hOu4 : ∀ x, x ∈ u.1 → x ≠ a → u4.2 x = u.2 x := fun x hx ne => (hpu4 x (hMu1 x hx)).trans (hOu1 x hx ne)
  have da_b3 : a ≠ b3 := fun h => hnb3 (h ▸ mt2)
  have mt5 : a ∈ u4.1 := (fun x hx => by rw [hu4]; exact List.mem_append_left _ hx : ∀ x, x ∈ u1.1 → x ∈ u4.1) a mt2
  have et5 : u4.2 a = .inr (9, [.null, .int (zI 0)]) := (hpu4 a mt2).trans hEu1
  have mb3 : b3 ∈ u4.1 := by rw [hu4]; exact List.mem_append_right _ List.mem_cons_self
  obtain ⟨k9, hk9⟩ := p_get D u4 mt5
  refine va_putF (C := RX10) (T := TX10) (N := 2) (ci := 9) (ty := tyX10 0) hx hb hts (fun _ h => (List.mem_cons_of_mem _ (List.mem_append_right _ h))) tyX10 tyX10_ok nmX10 hown hI.1 hG.1 hG.2 hS k9 (hk9.trans (by rw [et5])) rfl 0 (by decide) (hts (.fieldLink RX10 13 "StraitSwim$Tally" "items" "[I") (List.mem_cons_of_mem _ (List.mem_append_left _ (List.mem_of_getElem? (i := 5) rfl)))) (fun _ h9 => h9) rfl hin2 rfl (tyX10_ok 0 (by decide)) rfl rfl (Nat.le_of_ble_eq_true rfl) dX10_init_13 (fun H locs hP hD hS => ?_)
  obtain ⟨u6, hu6, hEu6, hpu6, hG⟩ := p_set (e := .inr (9, [.ref b3, .int (zI 0)])) hG mt5 hk9 hP hD
  have mt7 : a ∈ u6.1 := (fun x hx => by rw [hu6]; exact hx : ∀ x, x ∈ u4.1 → x ∈ u6.1) a mt5
  have mt8 : b3 ∈ u6.1 := (fun x hx => by rw [hu6]; exact hx : ∀ x, x ∈ u4.1 → x ∈ u6.1) b3 mb3
  have et8 : u6.2 b3 = .inl (cy 0, p1.toNat, .inl (fun _ => zI 0)) := (hpu6 b3 (fun h => (fun h9 => da_b3 h9.symm) h)).trans hEb3
  have hLu6 : u6.1 = (u.1 ++ [b3]) := by rw [hu6, hLu4]
  have hMu6 : ∀ x, x ∈ u.1 → x ∈ u6.1 := fun x hx => by rw [hu6]; exact hMu4 x hx
  have hOu6 : ∀ x, x ∈ u.1 → x ≠ a → u6.2 x = u.2 x := fun x hx ne => (hpu6 x ne).trans (hOu4 x hx ne)
  refine W.widen (k := 1) (n := 60) (Nat.le_of_ble_eq_true rfl) (Nat.le_of_ble_eq_true rfl) ?_
  exact W.vret hx hb hr (fun t9 ht9_ hW => ⟨⟨u6, rfl, ⟨b3, hLu6, fb3, ⟨hEu6, et8⟩, hOu6⟩, pB.mk' hG hI hS ht9_ hW⟩, hS.F ht9_⟩) hS.2.2 dX10_init_16
set_option maxHeartbeats 8000000 in
set_option maxRecDepth 100000 in
theorem kX8_init (l : Launch) (D : va_G) (cy : Nat → ClassId) (A : Nat → Prop) (u : pS) (a : Nat) (ha_a : a ∈ u.1) (hE_a : u.2 a = .inr (7, [.null, .int (zI 0), .null, .null])) : Met l yX8_init wsX8_init ({ frames := 1, cells := 3, slots := 360, locals := 30 }) (va_Pc [.ref a] (pB D cy A u)) (va_Qv (fun v : pS => ∃ b1 b10 b18, v.1 = (((u.1 ++ [b1]) ++ [b10]) ++ [b18]) ∧ (b1 ∉ u.1 ∧ b10 ∉ (u.1 ++ [b1]) ∧ b18 ∉ ((u.1 ++ [b1]) ++ [b10])) ∧ (v.2 a = .inr (7, [.ref b1, .int (zI 0), .ref b10, .ref b18]) ∧ v.2 b1 = .inl (cy 2, 288, .inl (fun _ => zI 0)) ∧ v.2 b10 = .inl (cy 0, 36, .inl (fun _ => zI 0)) ∧ v.2 b18 = .inl (cy 0, 36, .inl (fun _ => zI 0))) ∧ ∀ x, x ∈ u.1 → x ≠ a → v.2 x = u.2 x) (pB D cy A) A) 3 360 A := by
  refine Met.ofW (cc := cX8_init) (maxL := 1) (ret := none) (by decide) rfl ?_
  intro p e s m args below meth c s₁ B hml hv
  obtain ⟨rfl, hG, hI⟩ := hv
  have hx := B.exec
  have hb := B.bytes
  have hr := B.returns
  have hts := atoms_spec (ws := wsX8_init) B.pre
  have hown : s.vm.findClass RX8 = some m.cls := findClass_of_methodNamed B.named
  have hlocks := B.notSynchronized
  have hS : va_S A s.heap s.heap [] := va_S.rf
  have hin2 : meth.name = "<init>" := (name_of_methodNamed B.named B.method).1
  have hl := lv_entry ([.ref a]) (n := 1) (Nat.le_of_ble_eq_true rfl)
  rw [lg_entry_eq]
  generalize (lg_sl ([.ref a]) ++ List.replicate (1 - (lg_sl ([.ref a])).length) Slot.unset).toArray = ls at hl ⊢
  have hl : lv_has ls 1 [(0, .ref a)] := hl
  have hLu : u.1 = u.1 := rfl
  have hMu : ∀ x, x ∈ u.1 → x ∈ u.1 := fun _ h => h
  have hOu : ∀ x, x ∈ u.1 → x ≠ a → u.2 x = u.2 x := fun _ _ _ => rfl
  refine lv_aload_n hx hb dX8_init_0 rfl (lv_at hl 0 rfl) ?_
  refine W.objInit hx hb hown (hts (.methodLink RX8 3 objectInit) (List.mem_cons_of_mem _ (List.mem_append_left _ (List.mem_of_getElem? (i := 0) rfl)))) (hts (.instanceMethod objectInit) (List.mem_cons_of_mem _ (List.mem_append_left _ (List.mem_of_getElem? (i := 1) rfl)))) (hts (.code objectInit ⟨#[0xb1]⟩ 1 none) (List.mem_cons_of_mem _ (List.mem_append_left _ (List.mem_of_getElem? (i := 2) rfl)))) rfl (by rw [hml]; exact hl.1) rfl dX8_init_1 (Nat.le_of_ble_eq_true rfl) (Nat.le_of_ble_eq_true rfl) ?_
  refine W.eq (g2 := F0 m 4 ls []) rfl ?_
  refine lv_aload_n hx hb dX8_init_4 rfl (lv_at hl 0 rfl) ?_
  refine z_sipush hx hb dX8_init_5 (by decide) ?_
  refine p_newZ (z := 288) (M := 288) hx hb (hts (.arrayClass .boolean) (List.mem_cons_of_mem _ (List.mem_append_left _ (List.mem_of_getElem? (i := 3) rfl)))) hI hG hS (by omega) (by omega) (by omega) (Nat.le_of_ble_eq_true rfl) (Nat.le_of_ble_eq_true rfl) dX8_init_8 (fun b1 u2 H hu2 hEb1 hpu2 hnb1 hG hS => ?_)
  have hEb1 : u2.2 b1 = .inl (cy 2, 288, .inl (fun _ => zI 0)) := hEb1
  have fb1 : b1 ∉ u.1 := by rw [← hLu]; exact hnb1
  have hLu2 : u2.1 = (u.1 ++ [b1]) := by rw [hu2, hLu]
  have hMu2 : ∀ x, x ∈ u.1 → x ∈ u2.1 := fun x hx => by rw [hu2]; exact List.mem_append_left _ (hMu x hx)
  have hOu2 : ∀ x, x ∈ u.1 → x ≠ a → u2.2 x = u.2 x := fun x hx ne => (hpu2 x (hMu x hx)).trans (hOu x hx ne)
  have da_b1 : a ≠ b1 := fun h => hnb1 (h ▸ ha_a)
  have mt3 : a ∈ u2.1 := (fun x hx => by rw [hu2]; exact List.mem_append_left _ hx : ∀ x, x ∈ u.1 → x ∈ u2.1) a ha_a
  have et3 : u2.2 a = .inr (7, [.null, .int (zI 0), .null, .null]) := (hpu2 a ha_a).trans hE_a
  have mb1 : b1 ∈ u2.1 := by rw [hu2]; exact List.mem_append_right _ List.mem_cons_self
  obtain ⟨k9, hk9⟩ := p_get D u2 mt3
  refine va_putF (C := RX8) (T := TX8) (N := 4) (ci := 7) (ty := tyX8 0) hx hb hts (fun _ h => (List.mem_cons_of_mem _ (List.mem_append_right _ h))) tyX8 tyX8_ok nmX8 hown hI.1 hG.1 hG.2 hS k9 (hk9.trans (by rw [et3])) rfl 0 (by decide) (hts (.fieldLink RX8 9 "StraitSwim$Strait" "dry" "[Z") (List.mem_cons_of_mem _ (List.mem_append_left _ (List.mem_of_getElem? (i := 4) rfl)))) (fun _ h9 => h9) rfl hin2 rfl (tyX8_ok 0 (by decide)) rfl rfl (Nat.le_of_ble_eq_true rfl) dX8_init_10 (fun H locs hP hD hS => ?_)
  obtain ⟨u4, hu4, hEu4, hpu4, hG⟩ := p_set (e := .inr (7, [.ref b1, .int (zI 0), .null, .null])) hG mt3 hk9 hP hD
  have mt5 : a ∈ u4.1 := (fun x hx => by rw [hu4]; exact hx : ∀ x, x ∈ u2.1 → x ∈ u4.1) a mt3
  have mt6 : b1 ∈ u4.1 := (fun x hx => by rw [hu4]; exact hx : ∀ x, x ∈ u2.1 → x ∈ u4.1) b1 mb1
  have et6 : u4.2 b1 = .inl (cy 2, 288, .inl (fun _ => zI 0)) := (hpu4 b1 (fun h => (fun h9 => da_b1 h9.symm) h)).trans hEb1
  have hLu4 : u4.1 = (u.1 ++ [b1]) := by rw [hu4, hLu2]
  have hMu4 : ∀ x, x ∈ u.1 → x ∈ u4.1 := fun x hx => by rw [hu4]; exact hMu2 x hx
  have hOu4 : ∀ x, x ∈ u.1 → x ≠ a → u4.2 x = u.2 x := fun x hx ne => (hpu4 x ne).trans (hOu2 x hx ne)
  refine lv_aload_n hx hb dX8_init_13 rfl (lv_at hl 0 rfl) ?_
  refine z_iconst hx hb dX8_init_14 ?_
  obtain ⟨k9, hk9⟩ := p_get D u4 mt5
  refine va_put (C := RX8) (T := TX8) (N := 4) (ci := 7) (ty := tyX8 1) hx hb hts (fun _ h => (List.mem_cons_of_mem _ (List.mem_append_right _ h))) tyX8 tyX8_ok nmX8 hown hI.1 hG.1 hG.2 hS k9 (hk9.trans (by rw [hEu4])) rfl 1 (by decide) (hts (.fieldLink RX8 15 "StraitSwim$Strait" "dryCells" "I") (List.mem_cons_of_mem _ (List.mem_append_left _ (List.mem_of_getElem? (i := 5) rfl)))) (fun _ h9 => h9) rfl (tyX8_ok 1 (by decide)) rfl rfl (Nat.le_of_ble_eq_true rfl) dX8_init_15 (fun H locs hP hD hS => ?_)
  obtain ⟨u7, hu7, hEu7, hpu7, hG⟩ := p_set (e := .inr (7, [.ref b1, .int (zI 0), .null, .null])) hG mt5 hk9 hP hD
  have mt8 : a ∈ u7.1 := (fun x hx => by rw [hu7]; exact hx : ∀ x, x ∈ u4.1 → x ∈ u7.1) a mt5
  have mt9 : b1 ∈ u7.1 := (fun x hx => by rw [hu7]; exact hx : ∀ x, x ∈ u4.1 → x ∈ u7.1) b1 mt6
  have et9 : u7.2 b1 = .inl (cy 2, 288, .inl (fun _ => zI 0)) := (hpu7 b1 (fun h => (fun h9 => da_b1 h9.symm) h)).trans et6
  have hLu7 : u7.1 = (u.1 ++ [b1]) := by rw [hu7, hLu4]
  have hMu7 : ∀ x, x ∈ u.1 → x ∈ u7.1 := fun x hx => by rw [hu7]; exact hMu4 x hx
  have hOu7 : ∀ x, x ∈ u.1 → x ≠ a → u7.2 x = u.2 x := fun x hx ne => (hpu7 x ne).trans (hOu4 x hx ne)
  refine lv_aload_n hx hb dX8_init_18 rfl (lv_at hl 0 rfl) ?_
  refine z_bipush hx hb dX8_init_19 (by decide) ?_
  refine p_newI (z := 36) (M := 36) hx hb (hts (.arrayClass .int) (List.mem_cons_of_mem _ (List.mem_append_left _ (List.mem_of_getElem? (i := 6) rfl)))) hI hG hS (by omega) (by omega) (by omega) (Nat.le_of_ble_eq_true rfl) (Nat.le_of_ble_eq_true rfl) dX8_init_21 (fun b10 u11 H hu11 hEb10 hpu11 hnb10 hG hS => ?_)
  have hEb10 : u11.2 b10 = .inl (cy 0, 36, .inl (fun _ => zI 0)) := hEb10
  have fb10 : b10 ∉ (u.1 ++ [b1]) := by rw [← hLu7]; exact hnb10
  have hLu11 : u11.1 = ((u.1 ++ [b1]) ++ [b10]) := by rw [hu11, hLu7]
  have hMu11 : ∀ x, x ∈ u.1 → x ∈ u11.1 := fun x hx => by rw [hu11]; exact List.mem_append_left _ (hMu7 x hx)
  have hOu11 : ∀ x, x ∈ u.1 → x ≠ a → u11.2 x = u.2 x := fun x hx ne => (hpu11 x (hMu7 x hx)).trans (hOu7 x hx ne)
  have da_b10 : a ≠ b10 := fun h => hnb10 (h ▸ mt8)
  have db1_b10 : b1 ≠ b10 := fun h => hnb10 (h ▸ mt9)
  have mt12 : a ∈ u11.1 := (fun x hx => by rw [hu11]; exact List.mem_append_left _ hx : ∀ x, x ∈ u7.1 → x ∈ u11.1) a mt8
  have et12 : u11.2 a = .inr (7, [.ref b1, .int (zI 0), .null, .null]) := (hpu11 a mt8).trans hEu7
  have mt13 : b1 ∈ u11.1 := (fun x hx => by rw [hu11]; exact List.mem_append_left _ hx : ∀ x, x ∈ u7.1 → x ∈ u11.1) b1 mt9
  have et13 : u11.2 b1 = .inl (cy 2, 288, .inl (fun _ => zI 0)) := (hpu11 b1 mt9).trans et9
  have mb10 : b10 ∈ u11.1 := by rw [hu11]; exact List.mem_append_right _ List.mem_cons_self
  obtain ⟨k9, hk9⟩ := p_get D u11 mt12
  refine va_putF (C := RX8) (T := TX8) (N := 4) (ci := 7) (ty := tyX8 2) hx hb hts (fun _ h => (List.mem_cons_of_mem _ (List.mem_append_right _ h))) tyX8 tyX8_ok nmX8 hown hI.1 hG.1 hG.2 hS k9 (hk9.trans (by rw [et12])) rfl 2 (by decide) (hts (.fieldLink RX8 19 "StraitSwim$Strait" "east" "[I") (List.mem_cons_of_mem _ (List.mem_append_left _ (List.mem_of_getElem? (i := 7) rfl)))) (fun _ h9 => h9) rfl hin2 rfl (tyX8_ok 2 (by decide)) rfl rfl (Nat.le_of_ble_eq_true rfl) dX8_init_23 (fun H locs hP hD hS => ?_)
  obtain ⟨u14, hu14, hEu14, hpu14, hG⟩ := p_set (e := .inr (7, [.ref b1, .int (zI 0), .ref b10, .null])) hG mt12 hk9 hP hD
  have mt15 : a ∈ u14.1 := (fun x hx => by rw [hu14]; exact hx : ∀ x, x ∈ u11.1 → x ∈ u14.1) a mt12
  have mt16 : b1 ∈ u14.1 := (fun x hx => by rw [hu14]; exact hx : ∀ x, x ∈ u11.1 → x ∈ u14.1) b1 mt13
  have et16 : u14.2 b1 = .inl (cy 2, 288, .inl (fun _ => zI 0)) := (hpu14 b1 (fun h => (fun h9 => da_b1 h9.symm) h)).trans et13
  have mt17 : b10 ∈ u14.1 := (fun x hx => by rw [hu14]; exact hx : ∀ x, x ∈ u11.1 → x ∈ u14.1) b10 mb10
  have et17 : u14.2 b10 = .inl (cy 0, 36, .inl (fun _ => zI 0)) := (hpu14 b10 (fun h => (fun h9 => da_b10 h9.symm) h)).trans hEb10
  have hLu14 : u14.1 = ((u.1 ++ [b1]) ++ [b10]) := by rw [hu14, hLu11]
  have hMu14 : ∀ x, x ∈ u.1 → x ∈ u14.1 := fun x hx => by rw [hu14]; exact hMu11 x hx
  have hOu14 : ∀ x, x ∈ u.1 → x ≠ a → u14.2 x = u.2 x := fun x hx ne => (hpu14 x ne).trans (hOu11 x hx ne)
  refine lv_aload_n hx hb dX8_init_26 rfl (lv_at hl 0 rfl) ?_
  refine z_bipush hx hb dX8_init_27 (by decide) ?_
  refine p_newI (z := 36) (M := 36) hx hb (hts (.arrayClass .int) (List.mem_cons_of_mem _ (List.mem_append_left _ (List.mem_of_getElem? (i := 6) rfl)))) hI hG hS (by omega) (by omega) (by omega) (Nat.le_of_ble_eq_true rfl) (Nat.le_of_ble_eq_true rfl) dX8_init_29 (fun b18 u19 H hu19 hEb18 hpu19 hnb18 hG hS => ?_)
  have hEb18 : u19.2 b18 = .inl (cy 0, 36, .inl (fun _ => zI 0)) := hEb18
  have fb18 : b18 ∉ ((u.1 ++ [b1]) ++ [b10]) := by rw [← hLu14]; exact hnb18
  have hLu19 : u19.1 = (((u.1 ++ [b1]) ++ [b10]) ++ [b18]) := by rw [hu19, hLu14]
  have hMu19 : ∀ x, x ∈ u.1 → x ∈ u19.1 := fun x hx => by rw [hu19]; exact List.mem_append_left _ (hMu14 x hx)
  have hOu19 : ∀ x, x ∈ u.1 → x ≠ a → u19.2 x = u.2 x := fun x hx ne => (hpu19 x (hMu14 x hx)).trans (hOu14 x hx ne)
  have da_b18 : a ≠ b18 := fun h => hnb18 (h ▸ mt15)
  have db1_b18 : b1 ≠ b18 := fun h => hnb18 (h ▸ mt16)
  have db10_b18 : b10 ≠ b18 := fun h => hnb18 (h ▸ mt17)
  have mt20 : a ∈ u19.1 := (fun x hx => by rw [hu19]; exact List.mem_append_left _ hx : ∀ x, x ∈ u14.1 → x ∈ u19.1) a mt15
  have et20 : u19.2 a = .inr (7, [.ref b1, .int (zI 0), .ref b10, .null]) := (hpu19 a mt15).trans hEu14
  have mt21 : b1 ∈ u19.1 := (fun x hx => by rw [hu19]; exact List.mem_append_left _ hx : ∀ x, x ∈ u14.1 → x ∈ u19.1) b1 mt16
  have et21 : u19.2 b1 = .inl (cy 2, 288, .inl (fun _ => zI 0)) := (hpu19 b1 mt16).trans et16
  have mt22 : b10 ∈ u19.1 := (fun x hx => by rw [hu19]; exact List.mem_append_left _ hx : ∀ x, x ∈ u14.1 → x ∈ u19.1) b10 mt17
  have et22 : u19.2 b10 = .inl (cy 0, 36, .inl (fun _ => zI 0)) := (hpu19 b10 mt17).trans et17
  have mb18 : b18 ∈ u19.1 := by rw [hu19]; exact List.mem_append_right _ List.mem_cons_self
  obtain ⟨k9, hk9⟩ := p_get D u19 mt20
  refine va_putF (C := RX8) (T := TX8) (N := 4) (ci := 7) (ty := tyX8 3) hx hb hts (fun _ h => (List.mem_cons_of_mem _ (List.mem_append_right _ h))) tyX8 tyX8_ok nmX8 hown hI.1 hG.1 hG.2 hS k9 (hk9.trans (by rw [et20])) rfl 3 (by decide) (hts (.fieldLink RX8 23 "StraitSwim$Strait" "north" "[I") (List.mem_cons_of_mem _ (List.mem_append_left _ (List.mem_of_getElem? (i := 8) rfl)))) (fun _ h9 => h9) rfl hin2 rfl (tyX8_ok 3 (by decide)) rfl rfl (Nat.le_of_ble_eq_true rfl) dX8_init_31 (fun H locs hP hD hS => ?_)
  obtain ⟨u23, hu23, hEu23, hpu23, hG⟩ := p_set (e := .inr (7, [.ref b1, .int (zI 0), .ref b10, .ref b18])) hG mt20 hk9 hP hD
  have mt24 : a ∈ u23.1 := (fun x hx => by rw [hu23]; exact hx : ∀ x, x ∈ u19.1 → x ∈ u23.1) a mt20
  have mt25 : b1 ∈ u23.1 := (fun x hx => by rw [hu23]; exact hx : ∀ x, x ∈ u19.1 → x ∈ u23.1) b1 mt21
  have et25 : u23.2 b1 = .inl (cy 2, 288, .inl (fun _ => zI 0)) := (hpu23 b1 (fun h => (fun h9 => da_b1 h9.symm) h)).trans et21
  have mt26 : b10 ∈ u23.1 := (fun x hx => by rw [hu23]; exact hx : ∀ x, x ∈ u19.1 → x ∈ u23.1) b10 mt22
  have et26 : u23.2 b10 = .inl (cy 0, 36, .inl (fun _ => zI 0)) := (hpu23 b10 (fun h => (fun h9 => da_b10 h9.symm) h)).trans et22
  have mt27 : b18 ∈ u23.1 := (fun x hx => by rw [hu23]; exact hx : ∀ x, x ∈ u19.1 → x ∈ u23.1) b18 mb18
  have et27 : u23.2 b18 = .inl (cy 0, 36, .inl (fun _ => zI 0)) := (hpu23 b18 (fun h => (fun h9 => da_b18 h9.symm) h)).trans hEb18
  have hLu23 : u23.1 = (((u.1 ++ [b1]) ++ [b10]) ++ [b18]) := by rw [hu23, hLu19]
  have hMu23 : ∀ x, x ∈ u.1 → x ∈ u23.1 := fun x hx => by rw [hu23]; exact hMu19 x hx
  have hOu23 : ∀ x, x ∈ u.1 → x ≠ a → u23.2 x = u.2 x := fun x hx ne => (hpu23 x ne).trans (hOu19 x hx ne)
  refine W.widen (k := 3) (n := 360) (Nat.le_of_ble_eq_true rfl) (Nat.le_of_ble_eq_true rfl) ?_
  exact W.vret hx hb hr (fun t9 ht9_ hW => ⟨⟨u23, rfl, ⟨b1, b10, b18, hLu23, ⟨fb1, fb10, fb18⟩, ⟨hEu23, et25, et26, et27⟩, hOu23⟩, pB.mk' hG hI hS ht9_ hW⟩, hS.F ht9_⟩) hS.2.2 dX8_init_34
set_option maxHeartbeats 8000000 in
set_option maxRecDepth 100000 in
theorem kX9_init (l : Launch) (D : va_G) (cy : Nat → ClassId) (A : Nat → Prop) (u : pS) (a : Nat) (ha_a : a ∈ u.1) (hE_a : u.2 a = .inr (8, [.int (zI 0), .int (zI 0), .int (zI 0), .null, .null, .null, .null, .int (zI 0), .int (zI 0)])) : Met l yX9_init wsX9_init ({ frames := 1, cells := 4, slots := 403, locals := 30 }) (va_Pc [.ref a] (pB D cy A u)) (va_Qv (fun v : pS => ∃ b7 b13 b21 b31, v.1 = ((((u.1 ++ [b7]) ++ [b13]) ++ [b21]) ++ [b31]) ∧ (b7 ∉ u.1 ∧ b13 ∉ (u.1 ++ [b7]) ∧ b21 ∉ ((u.1 ++ [b7]) ++ [b13]) ∧ b31 ∉ (((u.1 ++ [b7]) ++ [b13]) ++ [b21])) ∧ (v.2 a = .inr (8, [.int (zI 0), .int (zI 0), .int (zI 0), .ref b7, .ref b13, .ref b21, .ref b31, .int (zI 0), .int (zI 0)]) ∧ v.2 b7 = .inl (cy 0, 101, .inl (fun _ => zI 0)) ∧ v.2 b13 = .inl (cy 0, 101, .inl (fun _ => zI 0)) ∧ v.2 b21 = .inl (cy 0, 100, .inl (fun _ => zI 0)) ∧ v.2 b31 = .inl (cy 0, 101, .inl (fun _ => zI 0))) ∧ ∀ x, x ∈ u.1 → x ≠ a → v.2 x = u.2 x) (pB D cy A) A) 4 403 A := by
  refine Met.ofW (cc := cX9_init) (maxL := 1) (ret := none) (by decide) rfl ?_
  intro p e s m args below meth c s₁ B hml hv
  obtain ⟨rfl, hG, hI⟩ := hv
  have hx := B.exec
  have hb := B.bytes
  have hr := B.returns
  have hts := atoms_spec (ws := wsX9_init) B.pre
  have hown : s.vm.findClass RX9 = some m.cls := findClass_of_methodNamed B.named
  have hlocks := B.notSynchronized
  have hS : va_S A s.heap s.heap [] := va_S.rf
  have hin2 : meth.name = "<init>" := (name_of_methodNamed B.named B.method).1
  have hl := lv_entry ([.ref a]) (n := 1) (Nat.le_of_ble_eq_true rfl)
  rw [lg_entry_eq]
  generalize (lg_sl ([.ref a]) ++ List.replicate (1 - (lg_sl ([.ref a])).length) Slot.unset).toArray = ls at hl ⊢
  have hl : lv_has ls 1 [(0, .ref a)] := hl
  have hLu : u.1 = u.1 := rfl
  have hMu : ∀ x, x ∈ u.1 → x ∈ u.1 := fun _ h => h
  have hOu : ∀ x, x ∈ u.1 → x ≠ a → u.2 x = u.2 x := fun _ _ _ => rfl
  refine lv_aload_n hx hb dX9_init_0 rfl (lv_at hl 0 rfl) ?_
  refine W.objInit hx hb hown (hts (.methodLink RX9 3 objectInit) (List.mem_cons_of_mem _ (List.mem_append_left _ (List.mem_of_getElem? (i := 0) rfl)))) (hts (.instanceMethod objectInit) (List.mem_cons_of_mem _ (List.mem_append_left _ (List.mem_of_getElem? (i := 1) rfl)))) (hts (.code objectInit ⟨#[0xb1]⟩ 1 none) (List.mem_cons_of_mem _ (List.mem_append_left _ (List.mem_of_getElem? (i := 2) rfl)))) rfl (by rw [hml]; exact hl.1) rfl dX9_init_1 (Nat.le_of_ble_eq_true rfl) (Nat.le_of_ble_eq_true rfl) ?_
  refine W.eq (g2 := F0 m 4 ls []) rfl ?_
  refine lv_aload_n hx hb dX9_init_4 rfl (lv_at hl 0 rfl) ?_
  refine z_iconst hx hb dX9_init_5 ?_
  obtain ⟨k9, hk9⟩ := p_get D u ha_a
  refine va_put (C := RX9) (T := TX9) (N := 9) (ci := 8) (ty := tyX9 0) hx hb hts (fun _ h => (List.mem_cons_of_mem _ (List.mem_append_right _ h))) tyX9 tyX9_ok nmX9 hown hI.1 hG.1 hG.2 hS k9 (hk9.trans (by rw [hE_a])) rfl 0 (by decide) (hts (.fieldLink RX9 9 "StraitSwim$Swim" "number" "I") (List.mem_cons_of_mem _ (List.mem_append_left _ (List.mem_of_getElem? (i := 3) rfl)))) (fun _ h9 => h9) rfl (tyX9_ok 0 (by decide)) rfl rfl (Nat.le_of_ble_eq_true rfl) dX9_init_6 (fun H locs hP hD hS => ?_)
  obtain ⟨u1, hu1, hEu1, hpu1, hG⟩ := p_set (e := .inr (8, [.int (zI 0), .int (zI 0), .int (zI 0), .null, .null, .null, .null, .int (zI 0), .int (zI 0)])) hG ha_a hk9 hP hD
  have mt2 : a ∈ u1.1 := (fun x hx => by rw [hu1]; exact hx : ∀ x, x ∈ u.1 → x ∈ u1.1) a ha_a
  have hLu1 : u1.1 = u.1 := by rw [hu1, hLu]
  have hMu1 : ∀ x, x ∈ u.1 → x ∈ u1.1 := fun x hx => by rw [hu1]; exact hMu x hx
  have hOu1 : ∀ x, x ∈ u.1 → x ≠ a → u1.2 x = u.2 x := fun x hx ne => (hpu1 x ne).trans (hOu x hx ne)
  refine lv_aload_n hx hb dX9_init_9 rfl (lv_at hl 0 rfl) ?_
  refine z_iconst hx hb dX9_init_10 ?_
  obtain ⟨k9, hk9⟩ := p_get D u1 mt2
  refine va_put (C := RX9) (T := TX9) (N := 9) (ci := 8) (ty := tyX9 1) hx hb hts (fun _ h => (List.mem_cons_of_mem _ (List.mem_append_right _ h))) tyX9 tyX9_ok nmX9 hown hI.1 hG.1 hG.2 hS k9 (hk9.trans (by rw [hEu1])) rfl 1 (by decide) (hts (.fieldLink RX9 15 "StraitSwim$Swim" "quarters" "I") (List.mem_cons_of_mem _ (List.mem_append_left _ (List.mem_of_getElem? (i := 4) rfl)))) (fun _ h9 => h9) rfl (tyX9_ok 1 (by decide)) rfl rfl (Nat.le_of_ble_eq_true rfl) dX9_init_11 (fun H locs hP hD hS => ?_)
  obtain ⟨u3, hu3, hEu3, hpu3, hG⟩ := p_set (e := .inr (8, [.int (zI 0), .int (zI 0), .int (zI 0), .null, .null, .null, .null, .int (zI 0), .int (zI 0)])) hG mt2 hk9 hP hD
  have mt4 : a ∈ u3.1 := (fun x hx => by rw [hu3]; exact hx : ∀ x, x ∈ u1.1 → x ∈ u3.1) a mt2
  have hLu3 : u3.1 = u.1 := by rw [hu3, hLu1]
  have hMu3 : ∀ x, x ∈ u.1 → x ∈ u3.1 := fun x hx => by rw [hu3]; exact hMu1 x hx
  have hOu3 : ∀ x, x ∈ u.1 → x ≠ a → u3.2 x = u.2 x := fun x hx ne => (hpu3 x ne).trans (hOu1 x hx ne)
  refine lv_aload_n hx hb dX9_init_14 rfl (lv_at hl 0 rfl) ?_
  refine z_iconst hx hb dX9_init_15 ?_
  obtain ⟨k9, hk9⟩ := p_get D u3 mt4
  refine va_put (C := RX9) (T := TX9) (N := 9) (ci := 8) (ty := tyX9 2) hx hb hts (fun _ h => (List.mem_cons_of_mem _ (List.mem_append_right _ h))) tyX9 tyX9_ok nmX9 hown hI.1 hG.1 hG.2 hS k9 (hk9.trans (by rw [hEu3])) rfl 2 (by decide) (hts (.fieldLink RX9 18 "StraitSwim$Swim" "cold" "I") (List.mem_cons_of_mem _ (List.mem_append_left _ (List.mem_of_getElem? (i := 5) rfl)))) (fun _ h9 => h9) rfl (tyX9_ok 2 (by decide)) rfl rfl (Nat.le_of_ble_eq_true rfl) dX9_init_16 (fun H locs hP hD hS => ?_)
  obtain ⟨u5, hu5, hEu5, hpu5, hG⟩ := p_set (e := .inr (8, [.int (zI 0), .int (zI 0), .int (zI 0), .null, .null, .null, .null, .int (zI 0), .int (zI 0)])) hG mt4 hk9 hP hD
  have mt6 : a ∈ u5.1 := (fun x hx => by rw [hu5]; exact hx : ∀ x, x ∈ u3.1 → x ∈ u5.1) a mt4
  have hLu5 : u5.1 = u.1 := by rw [hu5, hLu3]
  have hMu5 : ∀ x, x ∈ u.1 → x ∈ u5.1 := fun x hx => by rw [hu5]; exact hMu3 x hx
  have hOu5 : ∀ x, x ∈ u.1 → x ≠ a → u5.2 x = u.2 x := fun x hx ne => (hpu5 x ne).trans (hOu3 x hx ne)
  refine lv_aload_n hx hb dX9_init_19 rfl (lv_at hl 0 rfl) ?_
  refine z_bipush hx hb dX9_init_20 (by decide) ?_
  refine p_newI (z := 101) (M := 101) hx hb (hts (.arrayClass .int) (List.mem_cons_of_mem _ (List.mem_append_left _ (List.mem_of_getElem? (i := 6) rfl)))) hI hG hS (by omega) (by omega) (by omega) (Nat.le_of_ble_eq_true rfl) (Nat.le_of_ble_eq_true rfl) dX9_init_22 (fun b7 u8 H hu8 hEb7 hpu8 hnb7 hG hS => ?_)
  have hEb7 : u8.2 b7 = .inl (cy 0, 101, .inl (fun _ => zI 0)) := hEb7
  have fb7 : b7 ∉ u.1 := by rw [← hLu5]; exact hnb7
  have hLu8 : u8.1 = (u.1 ++ [b7]) := by rw [hu8, hLu5]
  have hMu8 : ∀ x, x ∈ u.1 → x ∈ u8.1 := fun x hx => by rw [hu8]; exact List.mem_append_left _ (hMu5 x hx)
  have hOu8 : ∀ x, x ∈ u.1 → x ≠ a → u8.2 x = u.2 x := fun x hx ne => (hpu8 x (hMu5 x hx)).trans (hOu5 x hx ne)
  have da_b7 : a ≠ b7 := fun h => hnb7 (h ▸ mt6)
  have mt9 : a ∈ u8.1 := (fun x hx => by rw [hu8]; exact List.mem_append_left _ hx : ∀ x, x ∈ u5.1 → x ∈ u8.1) a mt6
  have et9 : u8.2 a = .inr (8, [.int (zI 0), .int (zI 0), .int (zI 0), .null, .null, .null, .null, .int (zI 0), .int (zI 0)]) := (hpu8 a mt6).trans hEu5
  have mb7 : b7 ∈ u8.1 := by rw [hu8]; exact List.mem_append_right _ List.mem_cons_self
  obtain ⟨k9, hk9⟩ := p_get D u8 mt9
  refine va_putF (C := RX9) (T := TX9) (N := 9) (ci := 8) (ty := tyX9 3) hx hb hts (fun _ h => (List.mem_cons_of_mem _ (List.mem_append_right _ h))) tyX9 tyX9_ok nmX9 hown hI.1 hG.1 hG.2 hS k9 (hk9.trans (by rw [et9])) rfl 3 (by decide) (hts (.fieldLink RX9 21 "StraitSwim$Swim" "xs" "[I") (List.mem_cons_of_mem _ (List.mem_append_left _ (List.mem_of_getElem? (i := 7) rfl)))) (fun _ h9 => h9) rfl hin2 rfl (tyX9_ok 3 (by decide)) rfl rfl (Nat.le_of_ble_eq_true rfl) dX9_init_24 (fun H locs hP hD hS => ?_)
  obtain ⟨u10, hu10, hEu10, hpu10, hG⟩ := p_set (e := .inr (8, [.int (zI 0), .int (zI 0), .int (zI 0), .ref b7, .null, .null, .null, .int (zI 0), .int (zI 0)])) hG mt9 hk9 hP hD
  have mt11 : a ∈ u10.1 := (fun x hx => by rw [hu10]; exact hx : ∀ x, x ∈ u8.1 → x ∈ u10.1) a mt9
  have mt12 : b7 ∈ u10.1 := (fun x hx => by rw [hu10]; exact hx : ∀ x, x ∈ u8.1 → x ∈ u10.1) b7 mb7
  have et12 : u10.2 b7 = .inl (cy 0, 101, .inl (fun _ => zI 0)) := (hpu10 b7 (fun h => (fun h9 => da_b7 h9.symm) h)).trans hEb7
  have hLu10 : u10.1 = (u.1 ++ [b7]) := by rw [hu10, hLu8]
  have hMu10 : ∀ x, x ∈ u.1 → x ∈ u10.1 := fun x hx => by rw [hu10]; exact hMu8 x hx
  have hOu10 : ∀ x, x ∈ u.1 → x ≠ a → u10.2 x = u.2 x := fun x hx ne => (hpu10 x ne).trans (hOu8 x hx ne)
  refine lv_aload_n hx hb dX9_init_27 rfl (lv_at hl 0 rfl) ?_
  refine z_bipush hx hb dX9_init_28 (by decide) ?_
  refine p_newI (z := 101) (M := 101) hx hb (hts (.arrayClass .int) (List.mem_cons_of_mem _ (List.mem_append_left _ (List.mem_of_getElem? (i := 6) rfl)))) hI hG hS (by omega) (by omega) (by omega) (Nat.le_of_ble_eq_true rfl) (Nat.le_of_ble_eq_true rfl) dX9_init_30 (fun b13 u14 H hu14 hEb13 hpu14 hnb13 hG hS => ?_)
  have hEb13 : u14.2 b13 = .inl (cy 0, 101, .inl (fun _ => zI 0)) := hEb13
  have fb13 : b13 ∉ (u.1 ++ [b7]) := by rw [← hLu10]; exact hnb13
  have hLu14 : u14.1 = ((u.1 ++ [b7]) ++ [b13]) := by rw [hu14, hLu10]
  have hMu14 : ∀ x, x ∈ u.1 → x ∈ u14.1 := fun x hx => by rw [hu14]; exact List.mem_append_left _ (hMu10 x hx)
  have hOu14 : ∀ x, x ∈ u.1 → x ≠ a → u14.2 x = u.2 x := fun x hx ne => (hpu14 x (hMu10 x hx)).trans (hOu10 x hx ne)
  have da_b13 : a ≠ b13 := fun h => hnb13 (h ▸ mt11)
  have db7_b13 : b7 ≠ b13 := fun h => hnb13 (h ▸ mt12)
  have mt15 : a ∈ u14.1 := (fun x hx => by rw [hu14]; exact List.mem_append_left _ hx : ∀ x, x ∈ u10.1 → x ∈ u14.1) a mt11
  have et15 : u14.2 a = .inr (8, [.int (zI 0), .int (zI 0), .int (zI 0), .ref b7, .null, .null, .null, .int (zI 0), .int (zI 0)]) := (hpu14 a mt11).trans hEu10
  have mt16 : b7 ∈ u14.1 := (fun x hx => by rw [hu14]; exact List.mem_append_left _ hx : ∀ x, x ∈ u10.1 → x ∈ u14.1) b7 mt12
  have et16 : u14.2 b7 = .inl (cy 0, 101, .inl (fun _ => zI 0)) := (hpu14 b7 mt12).trans et12
  have mb13 : b13 ∈ u14.1 := by rw [hu14]; exact List.mem_append_right _ List.mem_cons_self
  obtain ⟨k9, hk9⟩ := p_get D u14 mt15
  refine va_putF (C := RX9) (T := TX9) (N := 9) (ci := 8) (ty := tyX9 4) hx hb hts (fun _ h => (List.mem_cons_of_mem _ (List.mem_append_right _ h))) tyX9 tyX9_ok nmX9 hown hI.1 hG.1 hG.2 hS k9 (hk9.trans (by rw [et15])) rfl 4 (by decide) (hts (.fieldLink RX9 25 "StraitSwim$Swim" "ys" "[I") (List.mem_cons_of_mem _ (List.mem_append_left _ (List.mem_of_getElem? (i := 8) rfl)))) (fun _ h9 => h9) rfl hin2 rfl (tyX9_ok 4 (by decide)) rfl rfl (Nat.le_of_ble_eq_true rfl) dX9_init_32 (fun H locs hP hD hS => ?_)
  obtain ⟨u17, hu17, hEu17, hpu17, hG⟩ := p_set (e := .inr (8, [.int (zI 0), .int (zI 0), .int (zI 0), .ref b7, .ref b13, .null, .null, .int (zI 0), .int (zI 0)])) hG mt15 hk9 hP hD
  have mt18 : a ∈ u17.1 := (fun x hx => by rw [hu17]; exact hx : ∀ x, x ∈ u14.1 → x ∈ u17.1) a mt15
  have mt19 : b7 ∈ u17.1 := (fun x hx => by rw [hu17]; exact hx : ∀ x, x ∈ u14.1 → x ∈ u17.1) b7 mt16
  have et19 : u17.2 b7 = .inl (cy 0, 101, .inl (fun _ => zI 0)) := (hpu17 b7 (fun h => (fun h9 => da_b7 h9.symm) h)).trans et16
  have mt20 : b13 ∈ u17.1 := (fun x hx => by rw [hu17]; exact hx : ∀ x, x ∈ u14.1 → x ∈ u17.1) b13 mb13
  have et20 : u17.2 b13 = .inl (cy 0, 101, .inl (fun _ => zI 0)) := (hpu17 b13 (fun h => (fun h9 => da_b13 h9.symm) h)).trans hEb13
  have hLu17 : u17.1 = ((u.1 ++ [b7]) ++ [b13]) := by rw [hu17, hLu14]
  have hMu17 : ∀ x, x ∈ u.1 → x ∈ u17.1 := fun x hx => by rw [hu17]; exact hMu14 x hx
  have hOu17 : ∀ x, x ∈ u.1 → x ≠ a → u17.2 x = u.2 x := fun x hx ne => (hpu17 x ne).trans (hOu14 x hx ne)
  refine lv_aload_n hx hb dX9_init_35 rfl (lv_at hl 0 rfl) ?_
  refine z_bipush hx hb dX9_init_36 (by decide) ?_
  refine p_newI (z := 100) (M := 100) hx hb (hts (.arrayClass .int) (List.mem_cons_of_mem _ (List.mem_append_left _ (List.mem_of_getElem? (i := 6) rfl)))) hI hG hS (by omega) (by omega) (by omega) (Nat.le_of_ble_eq_true rfl) (Nat.le_of_ble_eq_true rfl) dX9_init_38 (fun b21 u22 H hu22 hEb21 hpu22 hnb21 hG hS => ?_)
  have hEb21 : u22.2 b21 = .inl (cy 0, 100, .inl (fun _ => zI 0)) := hEb21
  have fb21 : b21 ∉ ((u.1 ++ [b7]) ++ [b13]) := by rw [← hLu17]; exact hnb21
  have hLu22 : u22.1 = (((u.1 ++ [b7]) ++ [b13]) ++ [b21]) := by rw [hu22, hLu17]
  have hMu22 : ∀ x, x ∈ u.1 → x ∈ u22.1 := fun x hx => by rw [hu22]; exact List.mem_append_left _ (hMu17 x hx)
  have hOu22 : ∀ x, x ∈ u.1 → x ≠ a → u22.2 x = u.2 x := fun x hx ne => (hpu22 x (hMu17 x hx)).trans (hOu17 x hx ne)
  have da_b21 : a ≠ b21 := fun h => hnb21 (h ▸ mt18)
  have db7_b21 : b7 ≠ b21 := fun h => hnb21 (h ▸ mt19)
  have db13_b21 : b13 ≠ b21 := fun h => hnb21 (h ▸ mt20)
  have mt23 : a ∈ u22.1 := (fun x hx => by rw [hu22]; exact List.mem_append_left _ hx : ∀ x, x ∈ u17.1 → x ∈ u22.1) a mt18
  have et23 : u22.2 a = .inr (8, [.int (zI 0), .int (zI 0), .int (zI 0), .ref b7, .ref b13, .null, .null, .int (zI 0), .int (zI 0)]) := (hpu22 a mt18).trans hEu17
  have mt24 : b7 ∈ u22.1 := (fun x hx => by rw [hu22]; exact List.mem_append_left _ hx : ∀ x, x ∈ u17.1 → x ∈ u22.1) b7 mt19
  have et24 : u22.2 b7 = .inl (cy 0, 101, .inl (fun _ => zI 0)) := (hpu22 b7 mt19).trans et19
  have mt25 : b13 ∈ u22.1 := (fun x hx => by rw [hu22]; exact List.mem_append_left _ hx : ∀ x, x ∈ u17.1 → x ∈ u22.1) b13 mt20
  have et25 : u22.2 b13 = .inl (cy 0, 101, .inl (fun _ => zI 0)) := (hpu22 b13 mt20).trans et20
  have mb21 : b21 ∈ u22.1 := by rw [hu22]; exact List.mem_append_right _ List.mem_cons_self
  obtain ⟨k9, hk9⟩ := p_get D u22 mt23
  refine va_putF (C := RX9) (T := TX9) (N := 9) (ci := 8) (ty := tyX9 5) hx hb hts (fun _ h => (List.mem_cons_of_mem _ (List.mem_append_right _ h))) tyX9 tyX9_ok nmX9 hown hI.1 hG.1 hG.2 hS k9 (hk9.trans (by rw [et23])) rfl 5 (by decide) (hts (.fieldLink RX9 28 "StraitSwim$Swim" "strides" "[I") (List.mem_cons_of_mem _ (List.mem_append_left _ (List.mem_of_getElem? (i := 9) rfl)))) (fun _ h9 => h9) rfl hin2 rfl (tyX9_ok 5 (by decide)) rfl rfl (Nat.le_of_ble_eq_true rfl) dX9_init_40 (fun H locs hP hD hS => ?_)
  obtain ⟨u26, hu26, hEu26, hpu26, hG⟩ := p_set (e := .inr (8, [.int (zI 0), .int (zI 0), .int (zI 0), .ref b7, .ref b13, .ref b21, .null, .int (zI 0), .int (zI 0)])) hG mt23 hk9 hP hD
  have mt27 : a ∈ u26.1 := (fun x hx => by rw [hu26]; exact hx : ∀ x, x ∈ u22.1 → x ∈ u26.1) a mt23
  have mt28 : b7 ∈ u26.1 := (fun x hx => by rw [hu26]; exact hx : ∀ x, x ∈ u22.1 → x ∈ u26.1) b7 mt24
  have et28 : u26.2 b7 = .inl (cy 0, 101, .inl (fun _ => zI 0)) := (hpu26 b7 (fun h => (fun h9 => da_b7 h9.symm) h)).trans et24
  have mt29 : b13 ∈ u26.1 := (fun x hx => by rw [hu26]; exact hx : ∀ x, x ∈ u22.1 → x ∈ u26.1) b13 mt25
  have et29 : u26.2 b13 = .inl (cy 0, 101, .inl (fun _ => zI 0)) := (hpu26 b13 (fun h => (fun h9 => da_b13 h9.symm) h)).trans et25
  have mt30 : b21 ∈ u26.1 := (fun x hx => by rw [hu26]; exact hx : ∀ x, x ∈ u22.1 → x ∈ u26.1) b21 mb21
  have et30 : u26.2 b21 = .inl (cy 0, 100, .inl (fun _ => zI 0)) := (hpu26 b21 (fun h => (fun h9 => da_b21 h9.symm) h)).trans hEb21
  have hLu26 : u26.1 = (((u.1 ++ [b7]) ++ [b13]) ++ [b21]) := by rw [hu26, hLu22]
  have hMu26 : ∀ x, x ∈ u.1 → x ∈ u26.1 := fun x hx => by rw [hu26]; exact hMu22 x hx
  have hOu26 : ∀ x, x ∈ u.1 → x ≠ a → u26.2 x = u.2 x := fun x hx ne => (hpu26 x ne).trans (hOu22 x hx ne)
  refine lv_aload_n hx hb dX9_init_43 rfl (lv_at hl 0 rfl) ?_
  refine z_bipush hx hb dX9_init_44 (by decide) ?_
  refine p_newI (z := 101) (M := 101) hx hb (hts (.arrayClass .int) (List.mem_cons_of_mem _ (List.mem_append_left _ (List.mem_of_getElem? (i := 6) rfl)))) hI hG hS (by omega) (by omega) (by omega) (Nat.le_of_ble_eq_true rfl) (Nat.le_of_ble_eq_true rfl) dX9_init_46 (fun b31 u32 H hu32 hEb31 hpu32 hnb31 hG hS => ?_)
  have hEb31 : u32.2 b31 = .inl (cy 0, 101, .inl (fun _ => zI 0)) := hEb31
  have fb31 : b31 ∉ (((u.1 ++ [b7]) ++ [b13]) ++ [b21]) := by rw [← hLu26]; exact hnb31
  have hLu32 : u32.1 = ((((u.1 ++ [b7]) ++ [b13]) ++ [b21]) ++ [b31]) := by rw [hu32, hLu26]
  have hMu32 : ∀ x, x ∈ u.1 → x ∈ u32.1 := fun x hx => by rw [hu32]; exact List.mem_append_left _ (hMu26 x hx)
  have hOu32 : ∀ x, x ∈ u.1 → x ≠ a → u32.2 x = u.2 x := fun x hx ne => (hpu32 x (hMu26 x hx)).trans (hOu26 x hx ne)
  have da_b31 : a ≠ b31 := fun h => hnb31 (h ▸ mt27)
  have db7_b31 : b7 ≠ b31 := fun h => hnb31 (h ▸ mt28)
  have db13_b31 : b13 ≠ b31 := fun h => hnb31 (h ▸ mt29)
  have db21_b31 : b21 ≠ b31 := fun h => hnb31 (h ▸ mt30)
  have mt33 : a ∈ u32.1 := (fun x hx => by rw [hu32]; exact List.mem_append_left _ hx : ∀ x, x ∈ u26.1 → x ∈ u32.1) a mt27
  have et33 : u32.2 a = .inr (8, [.int (zI 0), .int (zI 0), .int (zI 0), .ref b7, .ref b13, .ref b21, .null, .int (zI 0), .int (zI 0)]) := (hpu32 a mt27).trans hEu26
  have mt34 : b7 ∈ u32.1 := (fun x hx => by rw [hu32]; exact List.mem_append_left _ hx : ∀ x, x ∈ u26.1 → x ∈ u32.1) b7 mt28
  have et34 : u32.2 b7 = .inl (cy 0, 101, .inl (fun _ => zI 0)) := (hpu32 b7 mt28).trans et28
  have mt35 : b13 ∈ u32.1 := (fun x hx => by rw [hu32]; exact List.mem_append_left _ hx : ∀ x, x ∈ u26.1 → x ∈ u32.1) b13 mt29
  have et35 : u32.2 b13 = .inl (cy 0, 101, .inl (fun _ => zI 0)) := (hpu32 b13 mt29).trans et29
  have mt36 : b21 ∈ u32.1 := (fun x hx => by rw [hu32]; exact List.mem_append_left _ hx : ∀ x, x ∈ u26.1 → x ∈ u32.1) b21 mt30
  have et36 : u32.2 b21 = .inl (cy 0, 100, .inl (fun _ => zI 0)) := (hpu32 b21 mt30).trans et30
  have mb31 : b31 ∈ u32.1 := by rw [hu32]; exact List.mem_append_right _ List.mem_cons_self
  obtain ⟨k9, hk9⟩ := p_get D u32 mt33
  refine va_putF (C := RX9) (T := TX9) (N := 9) (ci := 8) (ty := tyX9 6) hx hb hts (fun _ h => (List.mem_cons_of_mem _ (List.mem_append_right _ h))) tyX9 tyX9_ok nmX9 hown hI.1 hG.1 hG.2 hS k9 (hk9.trans (by rw [et33])) rfl 6 (by decide) (hts (.fieldLink RX9 31 "StraitSwim$Swim" "colds" "[I") (List.mem_cons_of_mem _ (List.mem_append_left _ (List.mem_of_getElem? (i := 10) rfl)))) (fun _ h9 => h9) rfl hin2 rfl (tyX9_ok 6 (by decide)) rfl rfl (Nat.le_of_ble_eq_true rfl) dX9_init_48 (fun H locs hP hD hS => ?_)
  obtain ⟨u37, hu37, hEu37, hpu37, hG⟩ := p_set (e := .inr (8, [.int (zI 0), .int (zI 0), .int (zI 0), .ref b7, .ref b13, .ref b21, .ref b31, .int (zI 0), .int (zI 0)])) hG mt33 hk9 hP hD
  have mt38 : a ∈ u37.1 := (fun x hx => by rw [hu37]; exact hx : ∀ x, x ∈ u32.1 → x ∈ u37.1) a mt33
  have mt39 : b7 ∈ u37.1 := (fun x hx => by rw [hu37]; exact hx : ∀ x, x ∈ u32.1 → x ∈ u37.1) b7 mt34
  have et39 : u37.2 b7 = .inl (cy 0, 101, .inl (fun _ => zI 0)) := (hpu37 b7 (fun h => (fun h9 => da_b7 h9.symm) h)).trans et34
  have mt40 : b13 ∈ u37.1 := (fun x hx => by rw [hu37]; exact hx : ∀ x, x ∈ u32.1 → x ∈ u37.1) b13 mt35
  have et40 : u37.2 b13 = .inl (cy 0, 101, .inl (fun _ => zI 0)) := (hpu37 b13 (fun h => (fun h9 => da_b13 h9.symm) h)).trans et35
  have mt41 : b21 ∈ u37.1 := (fun x hx => by rw [hu37]; exact hx : ∀ x, x ∈ u32.1 → x ∈ u37.1) b21 mt36
  have et41 : u37.2 b21 = .inl (cy 0, 100, .inl (fun _ => zI 0)) := (hpu37 b21 (fun h => (fun h9 => da_b21 h9.symm) h)).trans et36
  have mt42 : b31 ∈ u37.1 := (fun x hx => by rw [hu37]; exact hx : ∀ x, x ∈ u32.1 → x ∈ u37.1) b31 mb31
  have et42 : u37.2 b31 = .inl (cy 0, 101, .inl (fun _ => zI 0)) := (hpu37 b31 (fun h => (fun h9 => da_b31 h9.symm) h)).trans hEb31
  have hLu37 : u37.1 = ((((u.1 ++ [b7]) ++ [b13]) ++ [b21]) ++ [b31]) := by rw [hu37, hLu32]
  have hMu37 : ∀ x, x ∈ u.1 → x ∈ u37.1 := fun x hx => by rw [hu37]; exact hMu32 x hx
  have hOu37 : ∀ x, x ∈ u.1 → x ≠ a → u37.2 x = u.2 x := fun x hx ne => (hpu37 x ne).trans (hOu32 x hx ne)
  refine lv_aload_n hx hb dX9_init_51 rfl (lv_at hl 0 rfl) ?_
  refine z_iconst hx hb dX9_init_52 ?_
  obtain ⟨k9, hk9⟩ := p_get D u37 mt38
  refine va_put (C := RX9) (T := TX9) (N := 9) (ci := 8) (ty := tyX9 7) hx hb hts (fun _ h => (List.mem_cons_of_mem _ (List.mem_append_right _ h))) tyX9 tyX9_ok nmX9 hown hI.1 hG.1 hG.2 hS k9 (hk9.trans (by rw [hEu37])) rfl 7 (by decide) (hts (.fieldLink RX9 34 "StraitSwim$Swim" "reach" "I") (List.mem_cons_of_mem _ (List.mem_append_left _ (List.mem_of_getElem? (i := 11) rfl)))) (fun _ h9 => h9) rfl (tyX9_ok 7 (by decide)) rfl rfl (Nat.le_of_ble_eq_true rfl) dX9_init_53 (fun H locs hP hD hS => ?_)
  obtain ⟨u43, hu43, hEu43, hpu43, hG⟩ := p_set (e := .inr (8, [.int (zI 0), .int (zI 0), .int (zI 0), .ref b7, .ref b13, .ref b21, .ref b31, .int (zI 0), .int (zI 0)])) hG mt38 hk9 hP hD
  have mt44 : a ∈ u43.1 := (fun x hx => by rw [hu43]; exact hx : ∀ x, x ∈ u37.1 → x ∈ u43.1) a mt38
  have mt45 : b7 ∈ u43.1 := (fun x hx => by rw [hu43]; exact hx : ∀ x, x ∈ u37.1 → x ∈ u43.1) b7 mt39
  have et45 : u43.2 b7 = .inl (cy 0, 101, .inl (fun _ => zI 0)) := (hpu43 b7 (fun h => (fun h9 => da_b7 h9.symm) h)).trans et39
  have mt46 : b13 ∈ u43.1 := (fun x hx => by rw [hu43]; exact hx : ∀ x, x ∈ u37.1 → x ∈ u43.1) b13 mt40
  have et46 : u43.2 b13 = .inl (cy 0, 101, .inl (fun _ => zI 0)) := (hpu43 b13 (fun h => (fun h9 => da_b13 h9.symm) h)).trans et40
  have mt47 : b21 ∈ u43.1 := (fun x hx => by rw [hu43]; exact hx : ∀ x, x ∈ u37.1 → x ∈ u43.1) b21 mt41
  have et47 : u43.2 b21 = .inl (cy 0, 100, .inl (fun _ => zI 0)) := (hpu43 b21 (fun h => (fun h9 => da_b21 h9.symm) h)).trans et41
  have mt48 : b31 ∈ u43.1 := (fun x hx => by rw [hu43]; exact hx : ∀ x, x ∈ u37.1 → x ∈ u43.1) b31 mt42
  have et48 : u43.2 b31 = .inl (cy 0, 101, .inl (fun _ => zI 0)) := (hpu43 b31 (fun h => (fun h9 => da_b31 h9.symm) h)).trans et42
  have hLu43 : u43.1 = ((((u.1 ++ [b7]) ++ [b13]) ++ [b21]) ++ [b31]) := by rw [hu43, hLu37]
  have hMu43 : ∀ x, x ∈ u.1 → x ∈ u43.1 := fun x hx => by rw [hu43]; exact hMu37 x hx
  have hOu43 : ∀ x, x ∈ u.1 → x ≠ a → u43.2 x = u.2 x := fun x hx ne => (hpu43 x ne).trans (hOu37 x hx ne)
  refine lv_aload_n hx hb dX9_init_56 rfl (lv_at hl 0 rfl) ?_
  refine z_iconst hx hb dX9_init_57 ?_
  obtain ⟨k9, hk9⟩ := p_get D u43 mt44
  refine va_put (C := RX9) (T := TX9) (N := 9) (ci := 8) (ty := tyX9 8) hx hb hts (fun _ h => (List.mem_cons_of_mem _ (List.mem_append_right _ h))) tyX9 tyX9_ok nmX9 hown hI.1 hG.1 hG.2 hS k9 (hk9.trans (by rw [hEu43])) rfl 8 (by decide) (hts (.fieldLink RX9 37 "StraitSwim$Swim" "tooCold" "Z") (List.mem_cons_of_mem _ (List.mem_append_left _ (List.mem_of_getElem? (i := 12) rfl)))) (fun _ h9 => h9) rfl (tyX9_ok 8 (by decide)) rfl rfl (Nat.le_of_ble_eq_true rfl) dX9_init_58 (fun H locs hP hD hS => ?_)
  obtain ⟨u49, hu49, hEu49, hpu49, hG⟩ := p_set (e := .inr (8, [.int (zI 0), .int (zI 0), .int (zI 0), .ref b7, .ref b13, .ref b21, .ref b31, .int (zI 0), .int (zI 0)])) hG mt44 hk9 hP hD
  have mt50 : a ∈ u49.1 := (fun x hx => by rw [hu49]; exact hx : ∀ x, x ∈ u43.1 → x ∈ u49.1) a mt44
  have mt51 : b7 ∈ u49.1 := (fun x hx => by rw [hu49]; exact hx : ∀ x, x ∈ u43.1 → x ∈ u49.1) b7 mt45
  have et51 : u49.2 b7 = .inl (cy 0, 101, .inl (fun _ => zI 0)) := (hpu49 b7 (fun h => (fun h9 => da_b7 h9.symm) h)).trans et45
  have mt52 : b13 ∈ u49.1 := (fun x hx => by rw [hu49]; exact hx : ∀ x, x ∈ u43.1 → x ∈ u49.1) b13 mt46
  have et52 : u49.2 b13 = .inl (cy 0, 101, .inl (fun _ => zI 0)) := (hpu49 b13 (fun h => (fun h9 => da_b13 h9.symm) h)).trans et46
  have mt53 : b21 ∈ u49.1 := (fun x hx => by rw [hu49]; exact hx : ∀ x, x ∈ u43.1 → x ∈ u49.1) b21 mt47
  have et53 : u49.2 b21 = .inl (cy 0, 100, .inl (fun _ => zI 0)) := (hpu49 b21 (fun h => (fun h9 => da_b21 h9.symm) h)).trans et47
  have mt54 : b31 ∈ u49.1 := (fun x hx => by rw [hu49]; exact hx : ∀ x, x ∈ u43.1 → x ∈ u49.1) b31 mt48
  have et54 : u49.2 b31 = .inl (cy 0, 101, .inl (fun _ => zI 0)) := (hpu49 b31 (fun h => (fun h9 => da_b31 h9.symm) h)).trans et48
  have hLu49 : u49.1 = ((((u.1 ++ [b7]) ++ [b13]) ++ [b21]) ++ [b31]) := by rw [hu49, hLu43]
  have hMu49 : ∀ x, x ∈ u.1 → x ∈ u49.1 := fun x hx => by rw [hu49]; exact hMu43 x hx
  have hOu49 : ∀ x, x ∈ u.1 → x ≠ a → u49.2 x = u.2 x := fun x hx ne => (hpu49 x ne).trans (hOu43 x hx ne)
  refine W.widen (k := 4) (n := 403) (Nat.le_of_ble_eq_true rfl) (Nat.le_of_ble_eq_true rfl) ?_
  exact W.vret hx hb hr (fun t9 ht9_ hW => ⟨⟨u49, rfl, ⟨b7, b13, b21, b31, hLu49, ⟨fb7, fb13, fb21, fb31⟩, ⟨hEu49, et51, et52, et53, et54⟩, hOu49⟩, pB.mk' hG hI hS ht9_ hW⟩, hS.F ht9_⟩) hS.2.2 dX9_init_61
set_option maxHeartbeats 8000000 in
set_option maxRecDepth 100000 in
theorem kX2_init (l : Launch) (D : va_G) (cy : Nat → ClassId) (A : Nat → Prop) (u : pS) (a : Nat) (ha_a : a ∈ u.1) (hE_a : u.2 a = .inr (1, [.int (zI 0), .null, .null, .null, .null, .null, .int (zI 0)])) : Met l yX2_init wsX2_init ({ frames := 1, cells := 5, slots := 56, locals := 30 }) (va_Pc [.ref a] (pB D cy A u)) (va_Qv (fun v : pS => ∃ b3 b9 b17 b27 b39, v.1 = (((((u.1 ++ [b3]) ++ [b9]) ++ [b17]) ++ [b27]) ++ [b39]) ∧ (b3 ∉ u.1 ∧ b9 ∉ (u.1 ++ [b3]) ∧ b17 ∉ ((u.1 ++ [b3]) ++ [b9]) ∧ b27 ∉ (((u.1 ++ [b3]) ++ [b9]) ++ [b17]) ∧ b39 ∉ ((((u.1 ++ [b3]) ++ [b9]) ++ [b17]) ++ [b27])) ∧ (v.2 a = .inr (1, [.int (zI 0), .ref b3, .ref b9, .ref b17, .ref b27, .ref b39, .int (zI 0)]) ∧ v.2 b3 = .inl (cy 2, 10, .inl (fun _ => zI 0)) ∧ v.2 b9 = .inl (cy 0, 10, .inl (fun _ => zI 0)) ∧ v.2 b17 = .inl (cy 0, 10, .inl (fun _ => zI 0)) ∧ v.2 b27 = .inl (cy 0, 10, .inl (fun _ => zI 0)) ∧ v.2 b39 = .inl (cy 0, 16, .inl (fun _ => zI 0))) ∧ ∀ x, x ∈ u.1 → x ≠ a → v.2 x = u.2 x) (pB D cy A) A) 5 56 A := by
  refine Met.ofW (cc := cX2_init) (maxL := 1) (ret := none) (by decide) rfl ?_
  intro p e s m args below meth c s₁ B hml hv
  obtain ⟨rfl, hG, hI⟩ := hv
  have hx := B.exec
  have hb := B.bytes
  have hr := B.returns
  have hts := atoms_spec (ws := wsX2_init) B.pre
  have hown : s.vm.findClass RX2 = some m.cls := findClass_of_methodNamed B.named
  have hlocks := B.notSynchronized
  have hS : va_S A s.heap s.heap [] := va_S.rf
  have hin2 : meth.name = "<init>" := (name_of_methodNamed B.named B.method).1
  have hl := lv_entry ([.ref a]) (n := 1) (Nat.le_of_ble_eq_true rfl)
  rw [lg_entry_eq]
  generalize (lg_sl ([.ref a]) ++ List.replicate (1 - (lg_sl ([.ref a])).length) Slot.unset).toArray = ls at hl ⊢
  have hl : lv_has ls 1 [(0, .ref a)] := hl
  have hLu : u.1 = u.1 := rfl
  have hMu : ∀ x, x ∈ u.1 → x ∈ u.1 := fun _ h => h
  have hOu : ∀ x, x ∈ u.1 → x ≠ a → u.2 x = u.2 x := fun _ _ _ => rfl
  refine lv_aload_n hx hb dX2_init_0 rfl (lv_at hl 0 rfl) ?_
  refine W.objInit hx hb hown (hts (.methodLink RX2 3 objectInit) (List.mem_cons_of_mem _ (List.mem_append_left _ (List.mem_of_getElem? (i := 0) rfl)))) (hts (.instanceMethod objectInit) (List.mem_cons_of_mem _ (List.mem_append_left _ (List.mem_of_getElem? (i := 1) rfl)))) (hts (.code objectInit ⟨#[0xb1]⟩ 1 none) (List.mem_cons_of_mem _ (List.mem_append_left _ (List.mem_of_getElem? (i := 2) rfl)))) rfl (by rw [hml]; exact hl.1) rfl dX2_init_1 (Nat.le_of_ble_eq_true rfl) (Nat.le_of_ble_eq_true rfl) ?_
  refine W.eq (g2 := F0 m 4 ls []) rfl ?_
  refine lv_aload_n hx hb dX2_init_4 rfl (lv_at hl 0 rfl) ?_
  refine z_iconst hx hb dX2_init_5 ?_
  obtain ⟨k9, hk9⟩ := p_get D u ha_a
  refine va_put (C := RX2) (T := TX2) (N := 7) (ci := 1) (ty := tyX2 0) hx hb hts (fun _ h => (List.mem_cons_of_mem _ (List.mem_append_right _ h))) tyX2 tyX2_ok nmX2 hown hI.1 hG.1 hG.2 hS k9 (hk9.trans (by rw [hE_a])) rfl 0 (by decide) (hts (.fieldLink RX2 9 "StraitSwim$Neap" "calmDays" "I") (List.mem_cons_of_mem _ (List.mem_append_left _ (List.mem_of_getElem? (i := 3) rfl)))) (fun _ h9 => h9) rfl (tyX2_ok 0 (by decide)) rfl rfl (Nat.le_of_ble_eq_true rfl) dX2_init_6 (fun H locs hP hD hS => ?_)
  obtain ⟨u1, hu1, hEu1, hpu1, hG⟩ := p_set (e := .inr (1, [.int (zI 0), .null, .null, .null, .null, .null, .int (zI 0)])) hG ha_a hk9 hP hD
  have mt2 : a ∈ u1.1 := (fun x hx => by rw [hu1]; exact hx : ∀ x, x ∈ u.1 → x ∈ u1.1) a ha_a
  have hLu1 : u1.1 = u.1 := by rw [hu1, hLu]
  have hMu1 : ∀ x, x ∈ u.1 → x ∈ u1.1 := fun x hx => by rw [hu1]; exact hMu x hx
  have hOu1 : ∀ x, x ∈ u.1 → x ≠ a → u1.2 x = u.2 x := fun x hx ne => (hpu1 x ne).trans (hOu x hx ne)
  refine lv_aload_n hx hb dX2_init_9 rfl (lv_at hl 0 rfl) ?_
  refine z_bipush hx hb dX2_init_10 (by decide) ?_
  refine p_newZ (z := 10) (M := 10) hx hb (hts (.arrayClass .boolean) (List.mem_cons_of_mem _ (List.mem_append_left _ (List.mem_of_getElem? (i := 4) rfl)))) hI hG hS (by omega) (by omega) (by omega) (Nat.le_of_ble_eq_true rfl) (Nat.le_of_ble_eq_true rfl) dX2_init_12 (fun b3 u4 H hu4 hEb3 hpu4 hnb3 hG hS => ?_)
  have hEb3 : u4.2 b3 = .inl (cy 2, 10, .inl (fun _ => zI 0)) := hEb3
  have fb3 : b3 ∉ u.1 := by rw [← hLu1]; exact hnb3
  have hLu4 : u4.1 = (u.1 ++ [b3]) := by rw [hu4, hLu1]
  have hMu4 : ∀ x, x ∈ u.1 → x ∈ u4.1 := fun x hx => by rw [hu4]; exact List.mem_append_left _ (hMu1 x hx)
  have hOu4 : ∀ x, x ∈ u.1 → x ≠ a → u4.2 x = u.2 x := fun x hx ne => (hpu4 x (hMu1 x hx)).trans (hOu1 x hx ne)
  have da_b3 : a ≠ b3 := fun h => hnb3 (h ▸ mt2)
  have mt5 : a ∈ u4.1 := (fun x hx => by rw [hu4]; exact List.mem_append_left _ hx : ∀ x, x ∈ u1.1 → x ∈ u4.1) a mt2
  have et5 : u4.2 a = .inr (1, [.int (zI 0), .null, .null, .null, .null, .null, .int (zI 0)]) := (hpu4 a mt2).trans hEu1
  have mb3 : b3 ∈ u4.1 := by rw [hu4]; exact List.mem_append_right _ List.mem_cons_self
  obtain ⟨k9, hk9⟩ := p_get D u4 mt5
  refine va_putF (C := RX2) (T := TX2) (N := 7) (ci := 1) (ty := tyX2 1) hx hb hts (fun _ h => (List.mem_cons_of_mem _ (List.mem_append_right _ h))) tyX2 tyX2_ok nmX2 hown hI.1 hG.1 hG.2 hS k9 (hk9.trans (by rw [et5])) rfl 1 (by decide) (hts (.fieldLink RX2 15 "StraitSwim$Neap" "entered" "[Z") (List.mem_cons_of_mem _ (List.mem_append_left _ (List.mem_of_getElem? (i := 5) rfl)))) (fun _ h9 => h9) rfl hin2 rfl (tyX2_ok 1 (by decide)) rfl rfl (Nat.le_of_ble_eq_true rfl) dX2_init_14 (fun H locs hP hD hS => ?_)
  obtain ⟨u6, hu6, hEu6, hpu6, hG⟩ := p_set (e := .inr (1, [.int (zI 0), .ref b3, .null, .null, .null, .null, .int (zI 0)])) hG mt5 hk9 hP hD
  have mt7 : a ∈ u6.1 := (fun x hx => by rw [hu6]; exact hx : ∀ x, x ∈ u4.1 → x ∈ u6.1) a mt5
  have mt8 : b3 ∈ u6.1 := (fun x hx => by rw [hu6]; exact hx : ∀ x, x ∈ u4.1 → x ∈ u6.1) b3 mb3
  have et8 : u6.2 b3 = .inl (cy 2, 10, .inl (fun _ => zI 0)) := (hpu6 b3 (fun h => (fun h9 => da_b3 h9.symm) h)).trans hEb3
  have hLu6 : u6.1 = (u.1 ++ [b3]) := by rw [hu6, hLu4]
  have hMu6 : ∀ x, x ∈ u.1 → x ∈ u6.1 := fun x hx => by rw [hu6]; exact hMu4 x hx
  have hOu6 : ∀ x, x ∈ u.1 → x ≠ a → u6.2 x = u.2 x := fun x hx ne => (hpu6 x ne).trans (hOu4 x hx ne)
  refine lv_aload_n hx hb dX2_init_17 rfl (lv_at hl 0 rfl) ?_
  refine z_bipush hx hb dX2_init_18 (by decide) ?_
  refine p_newI (z := 10) (M := 10) hx hb (hts (.arrayClass .int) (List.mem_cons_of_mem _ (List.mem_append_left _ (List.mem_of_getElem? (i := 6) rfl)))) hI hG hS (by omega) (by omega) (by omega) (Nat.le_of_ble_eq_true rfl) (Nat.le_of_ble_eq_true rfl) dX2_init_20 (fun b9 u10 H hu10 hEb9 hpu10 hnb9 hG hS => ?_)
  have hEb9 : u10.2 b9 = .inl (cy 0, 10, .inl (fun _ => zI 0)) := hEb9
  have fb9 : b9 ∉ (u.1 ++ [b3]) := by rw [← hLu6]; exact hnb9
  have hLu10 : u10.1 = ((u.1 ++ [b3]) ++ [b9]) := by rw [hu10, hLu6]
  have hMu10 : ∀ x, x ∈ u.1 → x ∈ u10.1 := fun x hx => by rw [hu10]; exact List.mem_append_left _ (hMu6 x hx)
  have hOu10 : ∀ x, x ∈ u.1 → x ≠ a → u10.2 x = u.2 x := fun x hx ne => (hpu10 x (hMu6 x hx)).trans (hOu6 x hx ne)
  have da_b9 : a ≠ b9 := fun h => hnb9 (h ▸ mt7)
  have db3_b9 : b3 ≠ b9 := fun h => hnb9 (h ▸ mt8)
  have mt11 : a ∈ u10.1 := (fun x hx => by rw [hu10]; exact List.mem_append_left _ hx : ∀ x, x ∈ u6.1 → x ∈ u10.1) a mt7
  have et11 : u10.2 a = .inr (1, [.int (zI 0), .ref b3, .null, .null, .null, .null, .int (zI 0)]) := (hpu10 a mt7).trans hEu6
  have mt12 : b3 ∈ u10.1 := (fun x hx => by rw [hu10]; exact List.mem_append_left _ hx : ∀ x, x ∈ u6.1 → x ∈ u10.1) b3 mt8
  have et12 : u10.2 b3 = .inl (cy 2, 10, .inl (fun _ => zI 0)) := (hpu10 b3 mt8).trans et8
  have mb9 : b9 ∈ u10.1 := by rw [hu10]; exact List.mem_append_right _ List.mem_cons_self
  obtain ⟨k9, hk9⟩ := p_get D u10 mt11
  refine va_putF (C := RX2) (T := TX2) (N := 7) (ci := 1) (ty := tyX2 2) hx hb hts (fun _ h => (List.mem_cons_of_mem _ (List.mem_append_right _ h))) tyX2 tyX2_ok nmX2 hown hI.1 hG.1 hG.2 hS k9 (hk9.trans (by rw [et11])) rfl 2 (by decide) (hts (.fieldLink RX2 19 "StraitSwim$Neap" "pilots" "[I") (List.mem_cons_of_mem _ (List.mem_append_left _ (List.mem_of_getElem? (i := 7) rfl)))) (fun _ h9 => h9) rfl hin2 rfl (tyX2_ok 2 (by decide)) rfl rfl (Nat.le_of_ble_eq_true rfl) dX2_init_22 (fun H locs hP hD hS => ?_)
  obtain ⟨u13, hu13, hEu13, hpu13, hG⟩ := p_set (e := .inr (1, [.int (zI 0), .ref b3, .ref b9, .null, .null, .null, .int (zI 0)])) hG mt11 hk9 hP hD
  have mt14 : a ∈ u13.1 := (fun x hx => by rw [hu13]; exact hx : ∀ x, x ∈ u10.1 → x ∈ u13.1) a mt11
  have mt15 : b3 ∈ u13.1 := (fun x hx => by rw [hu13]; exact hx : ∀ x, x ∈ u10.1 → x ∈ u13.1) b3 mt12
  have et15 : u13.2 b3 = .inl (cy 2, 10, .inl (fun _ => zI 0)) := (hpu13 b3 (fun h => (fun h9 => da_b3 h9.symm) h)).trans et12
  have mt16 : b9 ∈ u13.1 := (fun x hx => by rw [hu13]; exact hx : ∀ x, x ∈ u10.1 → x ∈ u13.1) b9 mb9
  have et16 : u13.2 b9 = .inl (cy 0, 10, .inl (fun _ => zI 0)) := (hpu13 b9 (fun h => (fun h9 => da_b9 h9.symm) h)).trans hEb9
  have hLu13 : u13.1 = ((u.1 ++ [b3]) ++ [b9]) := by rw [hu13, hLu10]
  have hMu13 : ∀ x, x ∈ u.1 → x ∈ u13.1 := fun x hx => by rw [hu13]; exact hMu10 x hx
  have hOu13 : ∀ x, x ∈ u.1 → x ≠ a → u13.2 x = u.2 x := fun x hx ne => (hpu13 x ne).trans (hOu10 x hx ne)
  refine lv_aload_n hx hb dX2_init_25 rfl (lv_at hl 0 rfl) ?_
  refine z_bipush hx hb dX2_init_26 (by decide) ?_
  refine p_newI (z := 10) (M := 10) hx hb (hts (.arrayClass .int) (List.mem_cons_of_mem _ (List.mem_append_left _ (List.mem_of_getElem? (i := 6) rfl)))) hI hG hS (by omega) (by omega) (by omega) (Nat.le_of_ble_eq_true rfl) (Nat.le_of_ble_eq_true rfl) dX2_init_28 (fun b17 u18 H hu18 hEb17 hpu18 hnb17 hG hS => ?_)
  have hEb17 : u18.2 b17 = .inl (cy 0, 10, .inl (fun _ => zI 0)) := hEb17
  have fb17 : b17 ∉ ((u.1 ++ [b3]) ++ [b9]) := by rw [← hLu13]; exact hnb17
  have hLu18 : u18.1 = (((u.1 ++ [b3]) ++ [b9]) ++ [b17]) := by rw [hu18, hLu13]
  have hMu18 : ∀ x, x ∈ u.1 → x ∈ u18.1 := fun x hx => by rw [hu18]; exact List.mem_append_left _ (hMu13 x hx)
  have hOu18 : ∀ x, x ∈ u.1 → x ≠ a → u18.2 x = u.2 x := fun x hx ne => (hpu18 x (hMu13 x hx)).trans (hOu13 x hx ne)
  have da_b17 : a ≠ b17 := fun h => hnb17 (h ▸ mt14)
  have db3_b17 : b3 ≠ b17 := fun h => hnb17 (h ▸ mt15)
  have db9_b17 : b9 ≠ b17 := fun h => hnb17 (h ▸ mt16)
  have mt19 : a ∈ u18.1 := (fun x hx => by rw [hu18]; exact List.mem_append_left _ hx : ∀ x, x ∈ u13.1 → x ∈ u18.1) a mt14
  have et19 : u18.2 a = .inr (1, [.int (zI 0), .ref b3, .ref b9, .null, .null, .null, .int (zI 0)]) := (hpu18 a mt14).trans hEu13
  have mt20 : b3 ∈ u18.1 := (fun x hx => by rw [hu18]; exact List.mem_append_left _ hx : ∀ x, x ∈ u13.1 → x ∈ u18.1) b3 mt15
  have et20 : u18.2 b3 = .inl (cy 2, 10, .inl (fun _ => zI 0)) := (hpu18 b3 mt15).trans et15
  have mt21 : b9 ∈ u18.1 := (fun x hx => by rw [hu18]; exact List.mem_append_left _ hx : ∀ x, x ∈ u13.1 → x ∈ u18.1) b9 mt16
  have et21 : u18.2 b9 = .inl (cy 0, 10, .inl (fun _ => zI 0)) := (hpu18 b9 mt16).trans et16
  have mb17 : b17 ∈ u18.1 := by rw [hu18]; exact List.mem_append_right _ List.mem_cons_self
  obtain ⟨k9, hk9⟩ := p_get D u18 mt19
  refine va_putF (C := RX2) (T := TX2) (N := 7) (ci := 1) (ty := tyX2 3) hx hb hts (fun _ h => (List.mem_cons_of_mem _ (List.mem_append_right _ h))) tyX2 tyX2_ok nmX2 hown hI.1 hG.1 hG.2 hS k9 (hk9.trans (by rw [et19])) rfl 3 (by decide) (hts (.fieldLink RX2 23 "StraitSwim$Neap" "slots" "[I") (List.mem_cons_of_mem _ (List.mem_append_left _ (List.mem_of_getElem? (i := 8) rfl)))) (fun _ h9 => h9) rfl hin2 rfl (tyX2_ok 3 (by decide)) rfl rfl (Nat.le_of_ble_eq_true rfl) dX2_init_30 (fun H locs hP hD hS => ?_)
  obtain ⟨u22, hu22, hEu22, hpu22, hG⟩ := p_set (e := .inr (1, [.int (zI 0), .ref b3, .ref b9, .ref b17, .null, .null, .int (zI 0)])) hG mt19 hk9 hP hD
  have mt23 : a ∈ u22.1 := (fun x hx => by rw [hu22]; exact hx : ∀ x, x ∈ u18.1 → x ∈ u22.1) a mt19
  have mt24 : b3 ∈ u22.1 := (fun x hx => by rw [hu22]; exact hx : ∀ x, x ∈ u18.1 → x ∈ u22.1) b3 mt20
  have et24 : u22.2 b3 = .inl (cy 2, 10, .inl (fun _ => zI 0)) := (hpu22 b3 (fun h => (fun h9 => da_b3 h9.symm) h)).trans et20
  have mt25 : b9 ∈ u22.1 := (fun x hx => by rw [hu22]; exact hx : ∀ x, x ∈ u18.1 → x ∈ u22.1) b9 mt21
  have et25 : u22.2 b9 = .inl (cy 0, 10, .inl (fun _ => zI 0)) := (hpu22 b9 (fun h => (fun h9 => da_b9 h9.symm) h)).trans et21
  have mt26 : b17 ∈ u22.1 := (fun x hx => by rw [hu22]; exact hx : ∀ x, x ∈ u18.1 → x ∈ u22.1) b17 mb17
  have et26 : u22.2 b17 = .inl (cy 0, 10, .inl (fun _ => zI 0)) := (hpu22 b17 (fun h => (fun h9 => da_b17 h9.symm) h)).trans hEb17
  have hLu22 : u22.1 = (((u.1 ++ [b3]) ++ [b9]) ++ [b17]) := by rw [hu22, hLu18]
  have hMu22 : ∀ x, x ∈ u.1 → x ∈ u22.1 := fun x hx => by rw [hu22]; exact hMu18 x hx
  have hOu22 : ∀ x, x ∈ u.1 → x ≠ a → u22.2 x = u.2 x := fun x hx ne => (hpu22 x ne).trans (hOu18 x hx ne)
  refine lv_aload_n hx hb dX2_init_33 rfl (lv_at hl 0 rfl) ?_
  refine z_bipush hx hb dX2_init_34 (by decide) ?_
  refine p_newI (z := 10) (M := 10) hx hb (hts (.arrayClass .int) (List.mem_cons_of_mem _ (List.mem_append_left _ (List.mem_of_getElem? (i := 6) rfl)))) hI hG hS (by omega) (by omega) (by omega) (Nat.le_of_ble_eq_true rfl) (Nat.le_of_ble_eq_true rfl) dX2_init_36 (fun b27 u28 H hu28 hEb27 hpu28 hnb27 hG hS => ?_)
  have hEb27 : u28.2 b27 = .inl (cy 0, 10, .inl (fun _ => zI 0)) := hEb27
  have fb27 : b27 ∉ (((u.1 ++ [b3]) ++ [b9]) ++ [b17]) := by rw [← hLu22]; exact hnb27
  have hLu28 : u28.1 = ((((u.1 ++ [b3]) ++ [b9]) ++ [b17]) ++ [b27]) := by rw [hu28, hLu22]
  have hMu28 : ∀ x, x ∈ u.1 → x ∈ u28.1 := fun x hx => by rw [hu28]; exact List.mem_append_left _ (hMu22 x hx)
  have hOu28 : ∀ x, x ∈ u.1 → x ≠ a → u28.2 x = u.2 x := fun x hx ne => (hpu28 x (hMu22 x hx)).trans (hOu22 x hx ne)
  have da_b27 : a ≠ b27 := fun h => hnb27 (h ▸ mt23)
  have db3_b27 : b3 ≠ b27 := fun h => hnb27 (h ▸ mt24)
  have db9_b27 : b9 ≠ b27 := fun h => hnb27 (h ▸ mt25)
  have db17_b27 : b17 ≠ b27 := fun h => hnb27 (h ▸ mt26)
  have mt29 : a ∈ u28.1 := (fun x hx => by rw [hu28]; exact List.mem_append_left _ hx : ∀ x, x ∈ u22.1 → x ∈ u28.1) a mt23
  have et29 : u28.2 a = .inr (1, [.int (zI 0), .ref b3, .ref b9, .ref b17, .null, .null, .int (zI 0)]) := (hpu28 a mt23).trans hEu22
  have mt30 : b3 ∈ u28.1 := (fun x hx => by rw [hu28]; exact List.mem_append_left _ hx : ∀ x, x ∈ u22.1 → x ∈ u28.1) b3 mt24
  have et30 : u28.2 b3 = .inl (cy 2, 10, .inl (fun _ => zI 0)) := (hpu28 b3 mt24).trans et24
  have mt31 : b9 ∈ u28.1 := (fun x hx => by rw [hu28]; exact List.mem_append_left _ hx : ∀ x, x ∈ u22.1 → x ∈ u28.1) b9 mt25
  have et31 : u28.2 b9 = .inl (cy 0, 10, .inl (fun _ => zI 0)) := (hpu28 b9 mt25).trans et25
  have mt32 : b17 ∈ u28.1 := (fun x hx => by rw [hu28]; exact List.mem_append_left _ hx : ∀ x, x ∈ u22.1 → x ∈ u28.1) b17 mt26
  have et32 : u28.2 b17 = .inl (cy 0, 10, .inl (fun _ => zI 0)) := (hpu28 b17 mt26).trans et26
  have mb27 : b27 ∈ u28.1 := by rw [hu28]; exact List.mem_append_right _ List.mem_cons_self
  obtain ⟨k9, hk9⟩ := p_get D u28 mt29
  refine va_putF (C := RX2) (T := TX2) (N := 7) (ci := 1) (ty := tyX2 4) hx hb hts (fun _ h => (List.mem_cons_of_mem _ (List.mem_append_right _ h))) tyX2 tyX2_ok nmX2 hown hI.1 hG.1 hG.2 hS k9 (hk9.trans (by rw [et29])) rfl 4 (by decide) (hts (.fieldLink RX2 26 "StraitSwim$Neap" "days" "[I") (List.mem_cons_of_mem _ (List.mem_append_left _ (List.mem_of_getElem? (i := 9) rfl)))) (fun _ h9 => h9) rfl hin2 rfl (tyX2_ok 4 (by decide)) rfl rfl (Nat.le_of_ble_eq_true rfl) dX2_init_38 (fun H locs hP hD hS => ?_)
  obtain ⟨u33, hu33, hEu33, hpu33, hG⟩ := p_set (e := .inr (1, [.int (zI 0), .ref b3, .ref b9, .ref b17, .ref b27, .null, .int (zI 0)])) hG mt29 hk9 hP hD
  have mt34 : a ∈ u33.1 := (fun x hx => by rw [hu33]; exact hx : ∀ x, x ∈ u28.1 → x ∈ u33.1) a mt29
  have mt35 : b3 ∈ u33.1 := (fun x hx => by rw [hu33]; exact hx : ∀ x, x ∈ u28.1 → x ∈ u33.1) b3 mt30
  have et35 : u33.2 b3 = .inl (cy 2, 10, .inl (fun _ => zI 0)) := (hpu33 b3 (fun h => (fun h9 => da_b3 h9.symm) h)).trans et30
  have mt36 : b9 ∈ u33.1 := (fun x hx => by rw [hu33]; exact hx : ∀ x, x ∈ u28.1 → x ∈ u33.1) b9 mt31
  have et36 : u33.2 b9 = .inl (cy 0, 10, .inl (fun _ => zI 0)) := (hpu33 b9 (fun h => (fun h9 => da_b9 h9.symm) h)).trans et31
  have mt37 : b17 ∈ u33.1 := (fun x hx => by rw [hu33]; exact hx : ∀ x, x ∈ u28.1 → x ∈ u33.1) b17 mt32
  have et37 : u33.2 b17 = .inl (cy 0, 10, .inl (fun _ => zI 0)) := (hpu33 b17 (fun h => (fun h9 => da_b17 h9.symm) h)).trans et32
  have mt38 : b27 ∈ u33.1 := (fun x hx => by rw [hu33]; exact hx : ∀ x, x ∈ u28.1 → x ∈ u33.1) b27 mb27
  have et38 : u33.2 b27 = .inl (cy 0, 10, .inl (fun _ => zI 0)) := (hpu33 b27 (fun h => (fun h9 => da_b27 h9.symm) h)).trans hEb27
  have hLu33 : u33.1 = ((((u.1 ++ [b3]) ++ [b9]) ++ [b17]) ++ [b27]) := by rw [hu33, hLu28]
  have hMu33 : ∀ x, x ∈ u.1 → x ∈ u33.1 := fun x hx => by rw [hu33]; exact hMu28 x hx
  have hOu33 : ∀ x, x ∈ u.1 → x ≠ a → u33.2 x = u.2 x := fun x hx ne => (hpu33 x ne).trans (hOu28 x hx ne)
  refine lv_aload_n hx hb dX2_init_41 rfl (lv_at hl 0 rfl) ?_
  refine z_bipush hx hb dX2_init_42 (by decide) ?_
  refine p_newI (z := 16) (M := 16) hx hb (hts (.arrayClass .int) (List.mem_cons_of_mem _ (List.mem_append_left _ (List.mem_of_getElem? (i := 6) rfl)))) hI hG hS (by omega) (by omega) (by omega) (Nat.le_of_ble_eq_true rfl) (Nat.le_of_ble_eq_true rfl) dX2_init_44 (fun b39 u40 H hu40 hEb39 hpu40 hnb39 hG hS => ?_)
  have hEb39 : u40.2 b39 = .inl (cy 0, 16, .inl (fun _ => zI 0)) := hEb39
  have fb39 : b39 ∉ ((((u.1 ++ [b3]) ++ [b9]) ++ [b17]) ++ [b27]) := by rw [← hLu33]; exact hnb39
  have hLu40 : u40.1 = (((((u.1 ++ [b3]) ++ [b9]) ++ [b17]) ++ [b27]) ++ [b39]) := by rw [hu40, hLu33]
  have hMu40 : ∀ x, x ∈ u.1 → x ∈ u40.1 := fun x hx => by rw [hu40]; exact List.mem_append_left _ (hMu33 x hx)
  have hOu40 : ∀ x, x ∈ u.1 → x ≠ a → u40.2 x = u.2 x := fun x hx ne => (hpu40 x (hMu33 x hx)).trans (hOu33 x hx ne)
  have da_b39 : a ≠ b39 := fun h => hnb39 (h ▸ mt34)
  have db3_b39 : b3 ≠ b39 := fun h => hnb39 (h ▸ mt35)
  have db9_b39 : b9 ≠ b39 := fun h => hnb39 (h ▸ mt36)
  have db17_b39 : b17 ≠ b39 := fun h => hnb39 (h ▸ mt37)
  have db27_b39 : b27 ≠ b39 := fun h => hnb39 (h ▸ mt38)
  have mt41 : a ∈ u40.1 := (fun x hx => by rw [hu40]; exact List.mem_append_left _ hx : ∀ x, x ∈ u33.1 → x ∈ u40.1) a mt34
  have et41 : u40.2 a = .inr (1, [.int (zI 0), .ref b3, .ref b9, .ref b17, .ref b27, .null, .int (zI 0)]) := (hpu40 a mt34).trans hEu33
  have mt42 : b3 ∈ u40.1 := (fun x hx => by rw [hu40]; exact List.mem_append_left _ hx : ∀ x, x ∈ u33.1 → x ∈ u40.1) b3 mt35
  have et42 : u40.2 b3 = .inl (cy 2, 10, .inl (fun _ => zI 0)) := (hpu40 b3 mt35).trans et35
  have mt43 : b9 ∈ u40.1 := (fun x hx => by rw [hu40]; exact List.mem_append_left _ hx : ∀ x, x ∈ u33.1 → x ∈ u40.1) b9 mt36
  have et43 : u40.2 b9 = .inl (cy 0, 10, .inl (fun _ => zI 0)) := (hpu40 b9 mt36).trans et36
  have mt44 : b17 ∈ u40.1 := (fun x hx => by rw [hu40]; exact List.mem_append_left _ hx : ∀ x, x ∈ u33.1 → x ∈ u40.1) b17 mt37
  have et44 : u40.2 b17 = .inl (cy 0, 10, .inl (fun _ => zI 0)) := (hpu40 b17 mt37).trans et37
  have mt45 : b27 ∈ u40.1 := (fun x hx => by rw [hu40]; exact List.mem_append_left _ hx : ∀ x, x ∈ u33.1 → x ∈ u40.1) b27 mt38
  have et45 : u40.2 b27 = .inl (cy 0, 10, .inl (fun _ => zI 0)) := (hpu40 b27 mt38).trans et38
  have mb39 : b39 ∈ u40.1 := by rw [hu40]; exact List.mem_append_right _ List.mem_cons_self
  obtain ⟨k9, hk9⟩ := p_get D u40 mt41
  refine va_putF (C := RX2) (T := TX2) (N := 7) (ci := 1) (ty := tyX2 5) hx hb hts (fun _ h => (List.mem_cons_of_mem _ (List.mem_append_right _ h))) tyX2 tyX2_ok nmX2 hown hI.1 hG.1 hG.2 hS k9 (hk9.trans (by rw [et41])) rfl 5 (by decide) (hts (.fieldLink RX2 29 "StraitSwim$Neap" "holders" "[I") (List.mem_cons_of_mem _ (List.mem_append_left _ (List.mem_of_getElem? (i := 10) rfl)))) (fun _ h9 => h9) rfl hin2 rfl (tyX2_ok 5 (by decide)) rfl rfl (Nat.le_of_ble_eq_true rfl) dX2_init_46 (fun H locs hP hD hS => ?_)
  obtain ⟨u46, hu46, hEu46, hpu46, hG⟩ := p_set (e := .inr (1, [.int (zI 0), .ref b3, .ref b9, .ref b17, .ref b27, .ref b39, .int (zI 0)])) hG mt41 hk9 hP hD
  have mt47 : a ∈ u46.1 := (fun x hx => by rw [hu46]; exact hx : ∀ x, x ∈ u40.1 → x ∈ u46.1) a mt41
  have mt48 : b3 ∈ u46.1 := (fun x hx => by rw [hu46]; exact hx : ∀ x, x ∈ u40.1 → x ∈ u46.1) b3 mt42
  have et48 : u46.2 b3 = .inl (cy 2, 10, .inl (fun _ => zI 0)) := (hpu46 b3 (fun h => (fun h9 => da_b3 h9.symm) h)).trans et42
  have mt49 : b9 ∈ u46.1 := (fun x hx => by rw [hu46]; exact hx : ∀ x, x ∈ u40.1 → x ∈ u46.1) b9 mt43
  have et49 : u46.2 b9 = .inl (cy 0, 10, .inl (fun _ => zI 0)) := (hpu46 b9 (fun h => (fun h9 => da_b9 h9.symm) h)).trans et43
  have mt50 : b17 ∈ u46.1 := (fun x hx => by rw [hu46]; exact hx : ∀ x, x ∈ u40.1 → x ∈ u46.1) b17 mt44
  have et50 : u46.2 b17 = .inl (cy 0, 10, .inl (fun _ => zI 0)) := (hpu46 b17 (fun h => (fun h9 => da_b17 h9.symm) h)).trans et44
  have mt51 : b27 ∈ u46.1 := (fun x hx => by rw [hu46]; exact hx : ∀ x, x ∈ u40.1 → x ∈ u46.1) b27 mt45
  have et51 : u46.2 b27 = .inl (cy 0, 10, .inl (fun _ => zI 0)) := (hpu46 b27 (fun h => (fun h9 => da_b27 h9.symm) h)).trans et45
  have mt52 : b39 ∈ u46.1 := (fun x hx => by rw [hu46]; exact hx : ∀ x, x ∈ u40.1 → x ∈ u46.1) b39 mb39
  have et52 : u46.2 b39 = .inl (cy 0, 16, .inl (fun _ => zI 0)) := (hpu46 b39 (fun h => (fun h9 => da_b39 h9.symm) h)).trans hEb39
  have hLu46 : u46.1 = (((((u.1 ++ [b3]) ++ [b9]) ++ [b17]) ++ [b27]) ++ [b39]) := by rw [hu46, hLu40]
  have hMu46 : ∀ x, x ∈ u.1 → x ∈ u46.1 := fun x hx => by rw [hu46]; exact hMu40 x hx
  have hOu46 : ∀ x, x ∈ u.1 → x ≠ a → u46.2 x = u.2 x := fun x hx ne => (hpu46 x ne).trans (hOu40 x hx ne)
  refine lv_aload_n hx hb dX2_init_49 rfl (lv_at hl 0 rfl) ?_
  refine z_iconst hx hb dX2_init_50 ?_
  obtain ⟨k9, hk9⟩ := p_get D u46 mt47
  refine va_put (C := RX2) (T := TX2) (N := 7) (ci := 1) (ty := tyX2 6) hx hb hts (fun _ h => (List.mem_cons_of_mem _ (List.mem_append_right _ h))) tyX2 tyX2_ok nmX2 hown hI.1 hG.1 hG.2 hS k9 (hk9.trans (by rw [hEu46])) rfl 6 (by decide) (hts (.fieldLink RX2 32 "StraitSwim$Neap" "tried" "I") (List.mem_cons_of_mem _ (List.mem_append_left _ (List.mem_of_getElem? (i := 11) rfl)))) (fun _ h9 => h9) rfl (tyX2_ok 6 (by decide)) rfl rfl (Nat.le_of_ble_eq_true rfl) dX2_init_51 (fun H locs hP hD hS => ?_)
  obtain ⟨u53, hu53, hEu53, hpu53, hG⟩ := p_set (e := .inr (1, [.int (zI 0), .ref b3, .ref b9, .ref b17, .ref b27, .ref b39, .int (zI 0)])) hG mt47 hk9 hP hD
  have mt54 : a ∈ u53.1 := (fun x hx => by rw [hu53]; exact hx : ∀ x, x ∈ u46.1 → x ∈ u53.1) a mt47
  have mt55 : b3 ∈ u53.1 := (fun x hx => by rw [hu53]; exact hx : ∀ x, x ∈ u46.1 → x ∈ u53.1) b3 mt48
  have et55 : u53.2 b3 = .inl (cy 2, 10, .inl (fun _ => zI 0)) := (hpu53 b3 (fun h => (fun h9 => da_b3 h9.symm) h)).trans et48
  have mt56 : b9 ∈ u53.1 := (fun x hx => by rw [hu53]; exact hx : ∀ x, x ∈ u46.1 → x ∈ u53.1) b9 mt49
  have et56 : u53.2 b9 = .inl (cy 0, 10, .inl (fun _ => zI 0)) := (hpu53 b9 (fun h => (fun h9 => da_b9 h9.symm) h)).trans et49
  have mt57 : b17 ∈ u53.1 := (fun x hx => by rw [hu53]; exact hx : ∀ x, x ∈ u46.1 → x ∈ u53.1) b17 mt50
  have et57 : u53.2 b17 = .inl (cy 0, 10, .inl (fun _ => zI 0)) := (hpu53 b17 (fun h => (fun h9 => da_b17 h9.symm) h)).trans et50
  have mt58 : b27 ∈ u53.1 := (fun x hx => by rw [hu53]; exact hx : ∀ x, x ∈ u46.1 → x ∈ u53.1) b27 mt51
  have et58 : u53.2 b27 = .inl (cy 0, 10, .inl (fun _ => zI 0)) := (hpu53 b27 (fun h => (fun h9 => da_b27 h9.symm) h)).trans et51
  have mt59 : b39 ∈ u53.1 := (fun x hx => by rw [hu53]; exact hx : ∀ x, x ∈ u46.1 → x ∈ u53.1) b39 mt52
  have et59 : u53.2 b39 = .inl (cy 0, 16, .inl (fun _ => zI 0)) := (hpu53 b39 (fun h => (fun h9 => da_b39 h9.symm) h)).trans et52
  have hLu53 : u53.1 = (((((u.1 ++ [b3]) ++ [b9]) ++ [b17]) ++ [b27]) ++ [b39]) := by rw [hu53, hLu46]
  have hMu53 : ∀ x, x ∈ u.1 → x ∈ u53.1 := fun x hx => by rw [hu53]; exact hMu46 x hx
  have hOu53 : ∀ x, x ∈ u.1 → x ≠ a → u53.2 x = u.2 x := fun x hx ne => (hpu53 x ne).trans (hOu46 x hx ne)
  refine W.widen (k := 5) (n := 56) (Nat.le_of_ble_eq_true rfl) (Nat.le_of_ble_eq_true rfl) ?_
  exact W.vret hx hb hr (fun t9 ht9_ hW => ⟨⟨u53, rfl, ⟨b3, b9, b17, b27, b39, hLu53, ⟨fb3, fb9, fb17, fb27, fb39⟩, ⟨hEu53, et55, et56, et57, et58, et59⟩, hOu53⟩, pB.mk' hG hI hS ht9_ hW⟩, hS.F ht9_⟩) hS.2.2 dX2_init_54
