set_option maxHeartbeats 4000000 in
set_option maxRecDepth 100000 in
theorem kX0_fail_X0 (l : Launch) (D : va_G) (cy : Nat → ClassId) (ad : Nat → Nat) (jf : Nat → Int64) (A : Nat → Prop) (hl9 : l.stackTraces = false) (u : gS) (a : Nat) (nm sp li fd : Int) (ha : a ∈ u.2.2.2.1) (hE : u.2.2.2.2 a = .inr (0, [.int (zI nm), .int (zI sp), .int (zI li), .int (zI fd)])) : vx_Met l yX0_fail wsX0_fail ({ frames := 6, cells := 1, slots := 6, locals := 90 }) (va_Pc [.ref a] (gBX D cy ad jf A u)) (va_Qv (fun (v : gS) => False) (gB D cy ad jf A) A) (gXC (fun E => E = xIS) D cy ad jf A (fun v : gS => v = u)) 1 6 A := by
  refine vx_ofW (cc := cX0_fail) (maxL := 1) (ret := none) (by decide) rfl ?_
  intro p e s m args below meth c s₁ B hml htab hv
  obtain ⟨rfl, ⟨hG, hC⟩, hTh⟩ := hv
  have hx := B.exec
  have hb := B.bytes
  have hr := B.returns
  have hts := atoms_spec (ws := wsX0_fail) B.pre
  have hown : s.vm.findClass RX0 = some m.cls := findClass_of_methodNamed B.named
  have hlocks := B.notSynchronized
  have hS : va_S A s.heap s.heap [] := va_S.rf
  have hl := lv_entry ([.ref a]) (n := 1) (Nat.le_of_ble_eq_true rfl)
  rw [lg_entry_eq]
  generalize (lg_sl ([.ref a]) ++ List.replicate (1 - (lg_sl ([.ref a])).length) Slot.unset).toArray = ls at hl ⊢
  have hl : lv_has ls 1 [(0, .ref a)] := hl
  obtain ⟨sa, hsa⟩ := hTh.2.1.2.2.2.1
  exact vx_throwS (A := A) (names := xNs) (cls := xIS) (ic := 26) hx hb hl9 hown (by decide +kernel) (by decide +kernel) (hts (.classLink RX0 22 "java/lang/IllegalStateException") (List.mem_cons_of_mem _ (List.mem_append_left _ (List.mem_of_getElem? (i := 0) rfl)))) (hts (.initialized "java/lang/IllegalStateException") (List.mem_cons_of_mem _ (List.mem_append_left _ (List.mem_of_getElem? (i := 1) rfl)))) hsa (vx_hat (fun w hw => hts w (List.mem_cons_of_mem _ (List.mem_append_right _ hw))) xb_2 (xB_IS hTh)) xg_2 hTh.1.1 hTh.1.2 hS (hl.1.trans hml.symm) dX0_fail_0 dX0_fail_3 dX0_fail_4 dX0_fail_6 dX0_fail_9 (fun x hx9 => absurd (htab x hx9) id) (Nat.le_of_ble_eq_true rfl) (Nat.le_of_ble_eq_true rfl) (Nat.le_of_ble_eq_true rfl) (Nat.le_of_ble_eq_true rfl) hlocks (gXC.mk rfl rfl hG hS) hS.2.2 (Nat.le_of_ble_eq_true rfl) (Nat.le_of_ble_eq_true rfl)
set_option maxHeartbeats 4000000 in
set_option maxRecDepth 100000 in
theorem kX0_fail_X6 (l : Launch) (D : va_G) (cy : Nat → ClassId) (ad : Nat → Nat) (jf : Nat → Int64) (A : Nat → Prop) (hl9 : l.stackTraces = false) (u : gS) (a : Nat) (nm sp li fd : Int) (ha : a ∈ u.2.2.2.1) (hE : u.2.2.2.2 a = .inr (5, [.int (zI nm), .int (zI sp), .int (zI li), .int (zI fd)])) : vx_Met l yX0_fail wsX0_fail ({ frames := 6, cells := 1, slots := 6, locals := 90 }) (va_Pc [.ref a] (gBX D cy ad jf A u)) (va_Qv (fun (v : gS) => False) (gB D cy ad jf A) A) (gXC (fun E => E = xIS) D cy ad jf A (fun v : gS => v = u)) 1 6 A := by
  refine vx_ofW (cc := cX0_fail) (maxL := 1) (ret := none) (by decide) rfl ?_
  intro p e s m args below meth c s₁ B hml htab hv
  obtain ⟨rfl, ⟨hG, hC⟩, hTh⟩ := hv
  have hx := B.exec
  have hb := B.bytes
  have hr := B.returns
  have hts := atoms_spec (ws := wsX0_fail) B.pre
  have hown : s.vm.findClass RX0 = some m.cls := findClass_of_methodNamed B.named
  have hlocks := B.notSynchronized
  have hS : va_S A s.heap s.heap [] := va_S.rf
  have hl := lv_entry ([.ref a]) (n := 1) (Nat.le_of_ble_eq_true rfl)
  rw [lg_entry_eq]
  generalize (lg_sl ([.ref a]) ++ List.replicate (1 - (lg_sl ([.ref a])).length) Slot.unset).toArray = ls at hl ⊢
  have hl : lv_has ls 1 [(0, .ref a)] := hl
  obtain ⟨sa, hsa⟩ := hTh.2.1.2.2.2.1
  exact vx_throwS (A := A) (names := xNs) (cls := xIS) (ic := 26) hx hb hl9 hown (by decide +kernel) (by decide +kernel) (hts (.classLink RX0 22 "java/lang/IllegalStateException") (List.mem_cons_of_mem _ (List.mem_append_left _ (List.mem_of_getElem? (i := 0) rfl)))) (hts (.initialized "java/lang/IllegalStateException") (List.mem_cons_of_mem _ (List.mem_append_left _ (List.mem_of_getElem? (i := 1) rfl)))) hsa (vx_hat (fun w hw => hts w (List.mem_cons_of_mem _ (List.mem_append_right _ hw))) xb_2 (xB_IS hTh)) xg_2 hTh.1.1 hTh.1.2 hS (hl.1.trans hml.symm) dX0_fail_0 dX0_fail_3 dX0_fail_4 dX0_fail_6 dX0_fail_9 (fun x hx9 => absurd (htab x hx9) id) (Nat.le_of_ble_eq_true rfl) (Nat.le_of_ble_eq_true rfl) (Nat.le_of_ble_eq_true rfl) (Nat.le_of_ble_eq_true rfl) hlocks (gXC.mk rfl rfl hG hS) hS.2.2 (Nat.le_of_ble_eq_true rfl) (Nat.le_of_ble_eq_true rfl)
set_option maxHeartbeats 4000000 in
set_option maxRecDepth 100000 in
theorem kX4_fail_X4 (l : Launch) (D : va_G) (cy : Nat → ClassId) (ad : Nat → Nat) (jf : Nat → Int64) (A : Nat → Prop) (hl9 : l.stackTraces = false) (u : gS) (a : Nat) (nm sp li fd : Int) (ha : a ∈ u.2.2.2.1) (hE : u.2.2.2.2 a = .inr (3, [.int (zI nm), .int (zI sp), .int (zI li), .int (zI fd)])) : vx_Met l yX4_fail wsX4_fail ({ frames := 6, cells := 1, slots := 6, locals := 90 }) (va_Pc [.ref a] (gBX D cy ad jf A u)) (va_Qv (fun (v : gS) => False) (gB D cy ad jf A) A) (gXC (fun E => E = xIS) D cy ad jf A (fun v : gS => v = u)) 1 6 A := by
  refine vx_ofW (cc := cX4_fail) (maxL := 1) (ret := none) (by decide) rfl ?_
  intro p e s m args below meth c s₁ B hml htab hv
  obtain ⟨rfl, ⟨hG, hC⟩, hTh⟩ := hv
  have hx := B.exec
  have hb := B.bytes
  have hr := B.returns
  have hts := atoms_spec (ws := wsX4_fail) B.pre
  have hown : s.vm.findClass RX4 = some m.cls := findClass_of_methodNamed B.named
  have hlocks := B.notSynchronized
  have hS : va_S A s.heap s.heap [] := va_S.rf
  have hl := lv_entry ([.ref a]) (n := 1) (Nat.le_of_ble_eq_true rfl)
  rw [lg_entry_eq]
  generalize (lg_sl ([.ref a]) ++ List.replicate (1 - (lg_sl ([.ref a])).length) Slot.unset).toArray = ls at hl ⊢
  have hl : lv_has ls 1 [(0, .ref a)] := hl
  obtain ⟨sa, hsa⟩ := hTh.2.1.2.2.2.2
  exact vx_throwS (A := A) (names := xNs) (cls := xIS) (ic := 32) hx hb hl9 hown (by decide +kernel) (by decide +kernel) (hts (.classLink RX4 28 "java/lang/IllegalStateException") (List.mem_cons_of_mem _ (List.mem_append_left _ (List.mem_of_getElem? (i := 0) rfl)))) (hts (.initialized "java/lang/IllegalStateException") (List.mem_cons_of_mem _ (List.mem_append_left _ (List.mem_of_getElem? (i := 1) rfl)))) hsa (vx_hat (fun w hw => hts w (List.mem_cons_of_mem _ (List.mem_append_right _ hw))) xb_3 (xB_IS hTh)) xg_3 hTh.1.1 hTh.1.2 hS (hl.1.trans hml.symm) dX4_fail_0 dX4_fail_3 dX4_fail_4 dX4_fail_6 dX4_fail_9 (fun x hx9 => absurd (htab x hx9) id) (Nat.le_of_ble_eq_true rfl) (Nat.le_of_ble_eq_true rfl) (Nat.le_of_ble_eq_true rfl) (Nat.le_of_ble_eq_true rfl) hlocks (gXC.mk rfl rfl hG hS) hS.2.2 (Nat.le_of_ble_eq_true rfl) (Nat.le_of_ble_eq_true rfl)
set_option maxHeartbeats 4000000 in
set_option maxRecDepth 100000 in
theorem kX3_fail_X3 (l : Launch) (D : va_G) (cy : Nat → ClassId) (ad : Nat → Nat) (jf : Nat → Int64) (A : Nat → Prop) (u : gS) (a : Nat) (nm sp li fd : Int) (ha : a ∈ u.2.2.2.1) (hE : u.2.2.2.2 a = .inr (2, [.int (zI nm), .int (zI sp), .int (zI li), .int (zI fd)])) : Met l yX3_fail wsX3_fail ({ frames := 0, cells := 0, slots := 0, locals := 0 }) (va_Pc [.ref a] (gB D cy ad jf A u)) (va_Qv (fun (v : gS) => v = u) (gB D cy ad jf A) A) 0 0 A := by
  refine Met.ofW (cc := cX3_fail) (maxL := 1) (ret := none) (by decide) rfl ?_
  intro p e s m args below meth c s₁ B hml hv
  obtain ⟨rfl, hG, hC⟩ := hv
  have hx := B.exec
  have hb := B.bytes
  have hr := B.returns
  have hts := atoms_spec (ws := wsX3_fail) B.pre
  have hown : s.vm.findClass RX3 = some m.cls := findClass_of_methodNamed B.named
  have hlocks := B.notSynchronized
  have hS : va_S A s.heap s.heap [] := va_S.rf
  have hl := lv_entry ([.ref a]) (n := 1) (Nat.le_of_ble_eq_true rfl)
  rw [lg_entry_eq]
  generalize (lg_sl ([.ref a]) ++ List.replicate (1 - (lg_sl ([.ref a])).length) Slot.unset).toArray = ls at hl ⊢
  have hl : lv_has ls 1 [(0, .ref a)] := hl
  exact W.vret hx hb hr (fun t9 ht9_ hW => ⟨⟨u, rfl, (by rfl), gB.mk' hG hC hS ht9_ hW⟩, hS.F ht9_⟩) hS.2.2 dX3_fail_0
set_option maxHeartbeats 4000000 in
set_option maxRecDepth 100000 in
theorem kX11_failureOf_X3 (l : Launch) (D : va_G) (cy : Nat → ClassId) (ad : Nat → Nat) (jf : Nat → Int64) (A : Nat → Prop) (hl9 : l.stackTraces = false) (u : gS) (a : Nat) (nm sp li fd : Int) (ha : a ∈ u.2.2.2.1) (hE : u.2.2.2.2 a = .inr (2, [.int (zI nm), .int (zI sp), .int (zI li), .int (zI fd)])) : vx_Met l yX11_failureOf wsX11_failureOf ({ frames := 8, cells := 1, slots := 6, locals := 130 }) (va_Pc [.ref a] (gBX D cy ad jf A u)) (va_Qi (fun (r : Int32) (v : gS) => r = zI (-15) ∧ v = u) (gB D cy ad jf A) A) (gXC (fun _ => False) D cy ad jf A (fun v : gS => v = u)) 1 6 A := by
  refine vx_ofWH (cc := cX11_failureOf) (maxL := 2) (ret := (some .int)) (by decide) rfl ?_
  intro p e s m args below meth c s₁ B hml hv
  obtain ⟨rfl, ⟨hG, hC⟩, hTh⟩ := hv
  have hx := B.exec
  have hb := B.bytes
  have hr := B.returns
  have hts := atoms_spec (ws := wsX11_failureOf) B.pre
  have hown : s.vm.findClass RX11 = some m.cls := findClass_of_methodNamed B.named
  have htab := vx_table (x := yX11_failureOf) B (hts _ List.mem_cons_self)
  have hlocks := B.notSynchronized
  have hS : va_S A s.heap s.heap [] := va_S.rf
  have hl := lv_entry ([.ref a]) (n := 2) (Nat.le_of_ble_eq_true rfl)
  rw [lg_entry_eq]
  generalize (lg_sl ([.ref a]) ++ List.replicate (2 - (lg_sl ([.ref a])).length) Slot.unset).toArray = ls at hl ⊢
  have hl : lv_has ls 2 [(0, .ref a)] := hl
  refine lv_aload_n hx hb dX11_failureOf_0 rfl (lv_at hl 0 rfl) ?_
  obtain ⟨k9, hk9⟩ := va_pl_get (X := gFx cy ad jf u) (f := u.2.2.2.2) ha
  refine g_callv (va_runV (As := []) (rest := []) ⟨hx, hb, hml, hown, hts⟩ (kX3_fail_X3 l D cy ad jf A u a nm sp li fd ha hE) (cwV 0 hts gX11_failureOf_X3_fail rfl rfl rfl (by decide +kernel) ⟨by decide, by decide⟩) (g_preD (C := RX3) hG hC hS (hk9.trans (by rw [hE])) rfl) rfl rfl hl.1 rfl (lv_room (Nat.le_of_ble_eq_true rfl)) dX11_failureOf_1 ⟨Nat.le_of_ble_eq_true rfl, Nat.le_of_ble_eq_true rfl⟩) hS (fun u2 H locs hu2 hG hS => ?_)
  rw [hu2] at hG
  refine lv_goto (tgt := 13) hx hb dX11_failureOf_4 (by decide) ?_
  refine z_bipush hx hb dX11_failureOf_13 (by decide) ?_
  refine W.widen (k := 1) (n := 6) (Nat.le_of_ble_eq_true rfl) (Nat.le_of_ble_eq_true rfl) ?_
  refine vx_ret ?_
  exact W.iret (v := zI ((-15))) hx hb hr (fun t9 ht9_ hW => ⟨⟨zI ((-15)), u, rfl, (by exact ⟨rfl, rfl⟩), gB.mk' hG hC hS ht9_ hW⟩, hS.F ht9_⟩) hS.2.2 dX11_failureOf_15
set_option maxHeartbeats 4000000 in
set_option maxRecDepth 100000 in
theorem kX11_failureOf_X0 (l : Launch) (D : va_G) (cy : Nat → ClassId) (ad : Nat → Nat) (jf : Nat → Int64) (A : Nat → Prop) (hl9 : l.stackTraces = false) (u : gS) (a : Nat) (nm sp li fd : Int) (ha : a ∈ u.2.2.2.1) (hE : u.2.2.2.2 a = .inr (0, [.int (zI nm), .int (zI sp), .int (zI li), .int (zI fd)])) : vx_Met l yX11_failureOf wsX11_failureOf ({ frames := 8, cells := 1, slots := 6, locals := 130 }) (va_Pc [.ref a] (gBX D cy ad jf A u)) (va_Qi (fun (r : Int32) (v : gS) => r = zI (nm) ∧ v = u) (gB D cy ad jf A) A) (gXC (fun _ => False) D cy ad jf A (fun v : gS => v = u)) 1 6 A := by
  refine vx_ofWH (cc := cX11_failureOf) (maxL := 2) (ret := (some .int)) (by decide) rfl ?_
  intro p e s m args below meth c s₁ B hml hv
  obtain ⟨rfl, ⟨hG, hC⟩, hTh⟩ := hv
  have hx := B.exec
  have hb := B.bytes
  have hr := B.returns
  have hts := atoms_spec (ws := wsX11_failureOf) B.pre
  have hown : s.vm.findClass RX11 = some m.cls := findClass_of_methodNamed B.named
  have htab := vx_table (x := yX11_failureOf) B (hts _ List.mem_cons_self)
  have hlocks := B.notSynchronized
  have hS : va_S A s.heap s.heap [] := va_S.rf
  have hl := lv_entry ([.ref a]) (n := 2) (Nat.le_of_ble_eq_true rfl)
  rw [lg_entry_eq]
  generalize (lg_sl ([.ref a]) ++ List.replicate (2 - (lg_sl ([.ref a])).length) Slot.unset).toArray = ls at hl ⊢
  have hl : lv_has ls 2 [(0, .ref a)] := hl
  refine lv_aload_n hx hb dX11_failureOf_0 rfl (lv_at hl 0 rfl) ?_
  obtain ⟨k9, hk9⟩ := va_pl_get (X := gFx cy ad jf u) (f := u.2.2.2.2) ha
  refine vx_callv (vx_runU (As := []) (rest := []) ⟨hx, hb, hml, hown, hts⟩ (kX0_fail_X0 l D cy ad jf A hl9 u a nm sp li fd ha hE) (va_cwO 0 hts gX11_failureOf_X0_fail_u282X0 rfl rfl rfl (List.mem_cons_of_mem _ (List.mem_append_left _ (List.mem_append_left _ (List.mem_append_left _ (List.mem_append_left _ (List.mem_append_left _ (List.mem_append_left _ (List.mem_of_getElem? (i := 11) rfl)))))))) (by decide +kernel) ⟨by decide, by decide⟩) (gX_preD (C := RX0) hG hC hTh hS (hk9.trans (by rw [hE])) rfl) rfl rfl hl.1 rfl (lv_room (Nat.le_of_ble_eq_true rfl)) dX11_failureOf_1 ⟨Nat.le_of_ble_eq_true rfl, Nat.le_of_ble_eq_true rfl⟩) hS (fun _ _ h => h) (fun _ h => h) (fun _ _ h => h) (fun E ce q9 v9 t H locs ht _ hpx hBX _ _ hS hce hcv hcl => ?_) (fun v9 t H1 locs1 _ _ hpo _ _ _ _ => absurd hpo id)
  obtain ⟨hE9, hG⟩ := hBX
  rw [hpx, ht] at hG
  rw [hE9] at hcl
  refine vx_catch hown [] _ [] htab (fun z hz => absurd hz List.not_mem_nil) rfl (by decide) (hts (.classLink RX11 236 "java/lang/IllegalStateException") (List.mem_cons_of_mem _ (List.mem_append_left _ (List.mem_append_left _ (List.mem_append_left _ (List.mem_append_left _ (List.mem_append_left _ (List.mem_append_left _ (List.mem_of_getElem? (i := 0) rfl))))))))) (va_Nw.use rfl hTh.2.2.2.2.1) hce hcv hcl ?_
  refine W.eq (g2 := F0 m 7 ls [.ref q9]) rfl ?_
  refine lv_astore_n (lv' := [(1, .ref q9), (0, .ref a)]) hx hb dX11_failureOf_7 rfl hl (by decide) rfl (fun ls hl => ?_)
  refine lv_aload_n hx hb dX11_failureOf_8 rfl (lv_at hl 1 rfl) ?_
  obtain ⟨k9, hk9⟩ := va_pl_get (X := gFx cy ad jf u) (f := u.2.2.2.2) ha
  refine va_get (C := RX0) (T := TX0) (N := 4) (ci := 0) hx hb hts (fun _ h => (List.mem_cons_of_mem _ (List.mem_append_left _ (List.mem_append_left _ (List.mem_append_left _ (List.mem_append_left _ (List.mem_append_left _ (List.mem_append_right _ h)))))))) hown hC.1 hG.1 k9 (hk9.trans (by rw [hE])) rfl 0 (by decide) (hts (.fieldLink RX11 275 "StraitSwim$Plain" "number" "I") (List.mem_cons_of_mem _ (List.mem_append_left _ (List.mem_append_left _ (List.mem_append_left _ (List.mem_append_left _ (List.mem_append_left _ (List.mem_append_left _ (List.mem_of_getElem? (i := 1) rfl))))))))) (fun _ h9 => h9) rfl dX11_failureOf_9 ?_
  refine W.widen (k := 1) (n := 6) (Nat.le_of_ble_eq_true rfl) (Nat.le_of_ble_eq_true rfl) ?_
  refine vx_ret ?_
  exact W.iret (v := zI nm) hx hb hr (fun t9 ht9_ hW => ⟨⟨zI nm, u, rfl, (by exact ⟨rfl, rfl⟩), gB.mk' hG hC hS ht9_ hW⟩, hS.F ht9_⟩) hS.2.2 dX11_failureOf_12
set_option maxHeartbeats 4000000 in
set_option maxRecDepth 100000 in
theorem kX11_failureOf_X4 (l : Launch) (D : va_G) (cy : Nat → ClassId) (ad : Nat → Nat) (jf : Nat → Int64) (A : Nat → Prop) (hl9 : l.stackTraces = false) (u : gS) (a : Nat) (nm sp li fd : Int) (ha : a ∈ u.2.2.2.1) (hE : u.2.2.2.2 a = .inr (3, [.int (zI nm), .int (zI sp), .int (zI li), .int (zI fd)])) : vx_Met l yX11_failureOf wsX11_failureOf ({ frames := 8, cells := 1, slots := 6, locals := 130 }) (va_Pc [.ref a] (gBX D cy ad jf A u)) (va_Qi (fun (r : Int32) (v : gS) => r = zI (nm) ∧ v = u) (gB D cy ad jf A) A) (gXC (fun _ => False) D cy ad jf A (fun v : gS => v = u)) 1 6 A := by
  refine vx_ofWH (cc := cX11_failureOf) (maxL := 2) (ret := (some .int)) (by decide) rfl ?_
  intro p e s m args below meth c s₁ B hml hv
  obtain ⟨rfl, ⟨hG, hC⟩, hTh⟩ := hv
  have hx := B.exec
  have hb := B.bytes
  have hr := B.returns
  have hts := atoms_spec (ws := wsX11_failureOf) B.pre
  have hown : s.vm.findClass RX11 = some m.cls := findClass_of_methodNamed B.named
  have htab := vx_table (x := yX11_failureOf) B (hts _ List.mem_cons_self)
  have hlocks := B.notSynchronized
  have hS : va_S A s.heap s.heap [] := va_S.rf
  have hl := lv_entry ([.ref a]) (n := 2) (Nat.le_of_ble_eq_true rfl)
  rw [lg_entry_eq]
  generalize (lg_sl ([.ref a]) ++ List.replicate (2 - (lg_sl ([.ref a])).length) Slot.unset).toArray = ls at hl ⊢
  have hl : lv_has ls 2 [(0, .ref a)] := hl
  refine lv_aload_n hx hb dX11_failureOf_0 rfl (lv_at hl 0 rfl) ?_
  obtain ⟨k9, hk9⟩ := va_pl_get (X := gFx cy ad jf u) (f := u.2.2.2.2) ha
  refine vx_callv (vx_runU (As := []) (rest := []) ⟨hx, hb, hml, hown, hts⟩ (kX4_fail_X4 l D cy ad jf A hl9 u a nm sp li fd ha hE) (va_cwO 0 hts gX11_failureOf_X4_fail_u282X4 rfl rfl rfl (List.mem_cons_of_mem _ (List.mem_append_left _ (List.mem_append_left _ (List.mem_append_left _ (List.mem_append_left _ (List.mem_append_left _ (List.mem_append_left _ (List.mem_of_getElem? (i := 11) rfl)))))))) (by decide +kernel) ⟨by decide, by decide⟩) (gX_preD (C := RX4) hG hC hTh hS (hk9.trans (by rw [hE])) rfl) rfl rfl hl.1 rfl (lv_room (Nat.le_of_ble_eq_true rfl)) dX11_failureOf_1 ⟨Nat.le_of_ble_eq_true rfl, Nat.le_of_ble_eq_true rfl⟩) hS (fun _ _ h => h) (fun _ h => h) (fun _ _ h => h) (fun E ce q9 v9 t H locs ht _ hpx hBX _ _ hS hce hcv hcl => ?_) (fun v9 t H1 locs1 _ _ hpo _ _ _ _ => absurd hpo id)
  obtain ⟨hE9, hG⟩ := hBX
  rw [hpx, ht] at hG
  rw [hE9] at hcl
  refine vx_catch hown [] _ [] htab (fun z hz => absurd hz List.not_mem_nil) rfl (by decide) (hts (.classLink RX11 236 "java/lang/IllegalStateException") (List.mem_cons_of_mem _ (List.mem_append_left _ (List.mem_append_left _ (List.mem_append_left _ (List.mem_append_left _ (List.mem_append_left _ (List.mem_append_left _ (List.mem_of_getElem? (i := 0) rfl))))))))) (va_Nw.use rfl hTh.2.2.2.2.1) hce hcv hcl ?_
  refine W.eq (g2 := F0 m 7 ls [.ref q9]) rfl ?_
  refine lv_astore_n (lv' := [(1, .ref q9), (0, .ref a)]) hx hb dX11_failureOf_7 rfl hl (by decide) rfl (fun ls hl => ?_)
  refine lv_aload_n hx hb dX11_failureOf_8 rfl (lv_at hl 1 rfl) ?_
  obtain ⟨k9, hk9⟩ := va_pl_get (X := gFx cy ad jf u) (f := u.2.2.2.2) ha
  refine va_get (C := RX4) (T := TX4) (N := 4) (ci := 3) hx hb hts (fun _ h => (List.mem_cons_of_mem _ (List.mem_append_left _ (List.mem_append_left _ (List.mem_append_left _ (List.mem_append_right _ h)))))) hown hC.1 hG.1 k9 (hk9.trans (by rw [hE])) rfl 0 (by decide) (hts (.fieldLink RX11 275 "StraitSwim$Plain" "number" "I") (List.mem_cons_of_mem _ (List.mem_append_left _ (List.mem_append_left _ (List.mem_append_left _ (List.mem_append_left _ (List.mem_append_left _ (List.mem_append_left _ (List.mem_of_getElem? (i := 1) rfl))))))))) (fun _ h9 => h9) rfl dX11_failureOf_9 ?_
  refine W.widen (k := 1) (n := 6) (Nat.le_of_ble_eq_true rfl) (Nat.le_of_ble_eq_true rfl) ?_
  refine vx_ret ?_
  exact W.iret (v := zI nm) hx hb hr (fun t9 ht9_ hW => ⟨⟨zI nm, u, rfl, (by exact ⟨rfl, rfl⟩), gB.mk' hG hC hS ht9_ hW⟩, hS.F ht9_⟩) hS.2.2 dX11_failureOf_12
set_option maxHeartbeats 4000000 in
set_option maxRecDepth 100000 in
theorem kX11_failureOf_X6 (l : Launch) (D : va_G) (cy : Nat → ClassId) (ad : Nat → Nat) (jf : Nat → Int64) (A : Nat → Prop) (hl9 : l.stackTraces = false) (u : gS) (a : Nat) (nm sp li fd : Int) (ha : a ∈ u.2.2.2.1) (hE : u.2.2.2.2 a = .inr (5, [.int (zI nm), .int (zI sp), .int (zI li), .int (zI fd)])) : vx_Met l yX11_failureOf wsX11_failureOf ({ frames := 8, cells := 1, slots := 6, locals := 130 }) (va_Pc [.ref a] (gBX D cy ad jf A u)) (va_Qi (fun (r : Int32) (v : gS) => r = zI (nm) ∧ v = u) (gB D cy ad jf A) A) (gXC (fun _ => False) D cy ad jf A (fun v : gS => v = u)) 1 6 A := by
  refine vx_ofWH (cc := cX11_failureOf) (maxL := 2) (ret := (some .int)) (by decide) rfl ?_
  intro p e s m args below meth c s₁ B hml hv
  obtain ⟨rfl, ⟨hG, hC⟩, hTh⟩ := hv
  have hx := B.exec
  have hb := B.bytes
  have hr := B.returns
  have hts := atoms_spec (ws := wsX11_failureOf) B.pre
  have hown : s.vm.findClass RX11 = some m.cls := findClass_of_methodNamed B.named
  have htab := vx_table (x := yX11_failureOf) B (hts _ List.mem_cons_self)
  have hlocks := B.notSynchronized
  have hS : va_S A s.heap s.heap [] := va_S.rf
  have hl := lv_entry ([.ref a]) (n := 2) (Nat.le_of_ble_eq_true rfl)
  rw [lg_entry_eq]
  generalize (lg_sl ([.ref a]) ++ List.replicate (2 - (lg_sl ([.ref a])).length) Slot.unset).toArray = ls at hl ⊢
  have hl : lv_has ls 2 [(0, .ref a)] := hl
  refine lv_aload_n hx hb dX11_failureOf_0 rfl (lv_at hl 0 rfl) ?_
  obtain ⟨k9, hk9⟩ := va_pl_get (X := gFx cy ad jf u) (f := u.2.2.2.2) ha
  refine vx_callv (vx_runU (As := []) (rest := []) ⟨hx, hb, hml, hown, hts⟩ (kX0_fail_X6 l D cy ad jf A hl9 u a nm sp li fd ha hE) (va_cwO 0 hts gX11_failureOf_X0_fail_u282X6 rfl rfl rfl (List.mem_cons_of_mem _ (List.mem_append_left _ (List.mem_append_left _ (List.mem_append_left _ (List.mem_append_left _ (List.mem_append_left _ (List.mem_append_left _ (List.mem_of_getElem? (i := 11) rfl)))))))) (by decide +kernel) ⟨by decide, by decide⟩) (gX_preD (C := RX6) hG hC hTh hS (hk9.trans (by rw [hE])) rfl) rfl rfl hl.1 rfl (lv_room (Nat.le_of_ble_eq_true rfl)) dX11_failureOf_1 ⟨Nat.le_of_ble_eq_true rfl, Nat.le_of_ble_eq_true rfl⟩) hS (fun _ _ h => h) (fun _ h => h) (fun _ _ h => h) (fun E ce q9 v9 t H locs ht _ hpx hBX _ _ hS hce hcv hcl => ?_) (fun v9 t H1 locs1 _ _ hpo _ _ _ _ => absurd hpo id)
  obtain ⟨hE9, hG⟩ := hBX
  rw [hpx, ht] at hG
  rw [hE9] at hcl
  refine vx_catch hown [] _ [] htab (fun z hz => absurd hz List.not_mem_nil) rfl (by decide) (hts (.classLink RX11 236 "java/lang/IllegalStateException") (List.mem_cons_of_mem _ (List.mem_append_left _ (List.mem_append_left _ (List.mem_append_left _ (List.mem_append_left _ (List.mem_append_left _ (List.mem_append_left _ (List.mem_of_getElem? (i := 0) rfl))))))))) (va_Nw.use rfl hTh.2.2.2.2.1) hce hcv hcl ?_
  refine W.eq (g2 := F0 m 7 ls [.ref q9]) rfl ?_
  refine lv_astore_n (lv' := [(1, .ref q9), (0, .ref a)]) hx hb dX11_failureOf_7 rfl hl (by decide) rfl (fun ls hl => ?_)
  refine lv_aload_n hx hb dX11_failureOf_8 rfl (lv_at hl 1 rfl) ?_
  obtain ⟨k9, hk9⟩ := va_pl_get (X := gFx cy ad jf u) (f := u.2.2.2.2) ha
  refine va_get (C := RX6) (T := TX6) (N := 4) (ci := 5) hx hb hts (fun _ h => (List.mem_cons_of_mem _ (List.mem_append_left _ (List.mem_append_left _ (List.mem_append_right _ h))))) hown hC.1 hG.1 k9 (hk9.trans (by rw [hE])) rfl 0 (by decide) (hts (.fieldLink RX11 275 "StraitSwim$Plain" "number" "I") (List.mem_cons_of_mem _ (List.mem_append_left _ (List.mem_append_left _ (List.mem_append_left _ (List.mem_append_left _ (List.mem_append_left _ (List.mem_append_left _ (List.mem_of_getElem? (i := 1) rfl))))))))) (fun _ h9 => h9) rfl dX11_failureOf_9 ?_
  refine W.widen (k := 1) (n := 6) (Nat.le_of_ble_eq_true rfl) (Nat.le_of_ble_eq_true rfl) ?_
  refine vx_ret ?_
  exact W.iret (v := zI nm) hx hb hr (fun t9 ht9_ hW => ⟨⟨zI nm, u, rfl, (by exact ⟨rfl, rfl⟩), gB.mk' hG hC hS ht9_ hW⟩, hS.F ht9_⟩) hS.2.2 dX11_failureOf_12
set_option maxHeartbeats 4000000 in
set_option maxRecDepth 100000 in
theorem kX11_toss (l : Launch) (D : va_G) (cy : Nat → ClassId) (ad : Nat → Nat) (jf : Nat → Int64) (A : Nat → Prop) (hl9 : l.stackTraces = false) (u : gS) (p1 : Int) (j_p1 : -2147483648 ≤ p1 ∧ p1 < 2147483648) (HK KD NM SP LI FD : Nat → Int) (BA NN : Nat → Nat) (GG : Nat → Nat → Int) (hsl : ∀ d, d < 8 → slAt cy u d (HK d) (KD d) (NM d) (SP d) (LI d) (FD d) (BA d) (NN d) (GG d)) : Met l yX11_toss wsX11_toss ({ frames := 10, cells := 1, slots := 6, locals := 180 }) (va_Pc [.ref (ad 0), .int (zI p1)] (gBX D cy ad jf A u)) (va_Qi (fun (r : Int32) (v : gS) => r = zI (cToss HK KD NM p1) ∧ v = u) (gB D cy ad jf A) A) 1 6 A := by
  refine Met.ofW (cc := cX11_toss) (maxL := 4) (ret := (some .int)) (by decide) rfl ?_
  intro p e s m args below meth c s₁ B hml hv
  obtain ⟨rfl, ⟨hG, hC⟩, hTh⟩ := hv
  have hx := B.exec
  have hb := B.bytes
  have hr := B.returns
  have hts := atoms_spec (ws := wsX11_toss) B.pre
  have hown : s.vm.findClass RX11 = some m.cls := findClass_of_methodNamed B.named
  have hlocks := B.notSynchronized
  have hS : va_S A s.heap s.heap [] := va_S.rf
  have hl := lv_entry ([.ref (ad 0), .int (zI p1)]) (n := 4) (Nat.le_of_ble_eq_true rfl)
  rw [lg_entry_eq]
  generalize (lg_sl ([.ref (ad 0), .int (zI p1)]) ++ List.replicate (4 - (lg_sl ([.ref (ad 0), .int (zI p1)])).length) Slot.unset).toArray = ls at hl ⊢
  have hl : lv_has ls 4 [(0, .ref (ad 0)), (1, .int (zI p1))] := hl
  refine lv_iload_n hx hb dX11_toss_0 rfl (lv_at hl 1 rfl) ?_
  refine g_calli (va_runS (As := [.int (zI p1)]) (rest := []) ⟨hx, hb, hml, hown, hts⟩ (kX11_isShelf l D cy ad jf A u p1 (by omega)) (va_cwS 1 hts gX11_toss_X11_isShelf rfl rfl rfl (by decide +kernel) ⟨by decide, by decide⟩) (g_preS hG hC hS) rfl rfl hl.1 rfl (lv_room (Nat.le_of_ble_eq_true rfl)) dX11_toss_1 ⟨Nat.le_of_ble_eq_true rfl, Nat.le_of_ble_eq_true rfl⟩) hS (fun r1 u2 H locs p_3 hG hS => ?_)
  obtain ⟨⟨b4, rfl, q_5⟩, he_⟩ := p_3
  rw [he_] at hG; clear he_
  have hbb4 : 0 ≤ b4 ∧ b4 ≤ 1 := by rcases q_5 with ⟨h, _⟩ | ⟨h, _⟩ <;> omega
  refine z_if_ne (tgt := 9) hx hb dX11_toss_4 (by decide) (by omega) (by omega) (fun c_6 => ?_) (fun c_6 => ?_)
  · refine lv_aload_n hx hb dX11_toss_9 rfl (lv_at hl 0 rfl) ?_
    refine g_get (C := RX11) (T := TX11) (N := 14) (ci := 10) hx hb hts (fun _ h => (List.mem_cons_of_mem _ (List.mem_append_left _ (List.mem_append_left _ (List.mem_append_left _ (List.mem_append_left _ (List.mem_append_left _ (List.mem_append_left _ (List.mem_append_right _ h))))))))) hown hC.1 hG 0 (by decide) rfl rfl 13 (by decide) (hts (.fieldLink RX11 75 "StraitSwim" "shelves" "[LStraitSwim$Held;") (List.mem_cons_of_mem _ (List.mem_append_left _ (List.mem_append_left _ (List.mem_append_left _ (List.mem_append_left _ (List.mem_append_left _ (List.mem_append_left _ (List.mem_append_left _ (List.mem_append_left _ (List.mem_of_getElem? (i := 0) rfl))))))))))) (fun _ h9 => h9) rfl dX11_toss_10 ?_
    refine lv_iload_n hx hb dX11_toss_13 rfl (lv_at hl 1 rfl) ?_
    refine g_aald (n := 8) hx hb hC.1 hG 30 3 (by decide) rfl rfl (by omega) (by omega) (by decide) dX11_toss_14 ?_
    rcases hsl p1.toNat (by omega) with ⟨hs1, hk1⟩ | ⟨a1, hs1, ha1, hk1, hkd1, hsp1, hli1, hfd1, hE1⟩ | ⟨a1, hs1, ha1, hk1, hE1, hb1, hEb1, hn1, hg1⟩
    · rw [hs1]
      simp only [va_rf]
      refine lv_ifnonnullN hx hb dX11_toss_15 ?_
      refine z_bipush hx hb dX11_toss_18 (by decide) ?_
      refine W.widen (k := 1) (n := 6) (Nat.le_of_ble_eq_true rfl) (Nat.le_of_ble_eq_true rfl) ?_
      exact W.iret (v := zI ((-11))) hx hb hr (fun t9 ht9_ hW => ⟨⟨zI ((-11)), u, rfl, (by refine ⟨?_, rfl⟩; unfold cToss; (repeat (first | rw [if_pos (by omega)] | rw [if_neg (by omega)])); all_goals rfl), gB.mk' hG hC hS ht9_ hW⟩, hS.F ht9_⟩) hS.2.2 dX11_toss_20
    · rw [hs1]
      simp only [va_rf]
      refine lv_ifnonnull (tgt := 21) hx hb dX11_toss_15 (by decide) ?_
      refine lv_aload_n hx hb dX11_toss_21 rfl (lv_at hl 0 rfl) ?_
      refine g_get (C := RX11) (T := TX11) (N := 14) (ci := 10) hx hb hts (fun _ h => (List.mem_cons_of_mem _ (List.mem_append_left _ (List.mem_append_left _ (List.mem_append_left _ (List.mem_append_left _ (List.mem_append_left _ (List.mem_append_left _ (List.mem_append_right _ h))))))))) hown hC.1 hG 0 (by decide) rfl rfl 13 (by decide) (hts (.fieldLink RX11 75 "StraitSwim" "shelves" "[LStraitSwim$Held;") (List.mem_cons_of_mem _ (List.mem_append_left _ (List.mem_append_left _ (List.mem_append_left _ (List.mem_append_left _ (List.mem_append_left _ (List.mem_append_left _ (List.mem_append_left _ (List.mem_append_left _ (List.mem_of_getElem? (i := 0) rfl))))))))))) (fun _ h9 => h9) rfl dX11_toss_22 ?_
      refine lv_iload_n hx hb dX11_toss_25 rfl (lv_at hl 1 rfl) ?_
      refine g_aald (n := 8) hx hb hC.1 hG 30 3 (by decide) rfl rfl (by omega) (by omega) (by decide) dX11_toss_26 ?_
      rw [hs1]
      simp only [va_rf]
      refine lv_astore_n (lv' := [(3, .ref a1), (0, .ref (ad 0)), (1, .int (zI p1))]) hx hb dX11_toss_27 rfl hl (by decide) rfl (fun ls hl => ?_)
      refine lv_aload_n hx hb dX11_toss_28 rfl (lv_at hl 0 rfl) ?_
      rcases (show KD p1.toNat = 0 ∨ KD p1.toNat = 1 ∨ KD p1.toNat = 2 ∨ KD p1.toNat = 3 by omega) with hk0 | hk0 | hk0 | hk0
      · have hE7 : u.2.2.2.2 a1 = .inr (2, [.int (zI (NM p1.toNat)), .int (zI (SP p1.toNat)), .int (zI (LI p1.toNat)), .int (zI (FD p1.toNat))]) := by rw [hE1, hk0]; rfl
        obtain ⟨k9, hk9⟩ := va_pl_get (X := gFx cy ad jf u) (f := u.2.2.2.2) ha1
        refine g_instS hx hb hown (hts (.classLink RX11 16 "StraitSwim$Plain") (List.mem_cons_of_mem _ (List.mem_append_left _ (List.mem_append_left _ (List.mem_append_left _ (List.mem_append_left _ (List.mem_append_left _ (List.mem_append_left _ (List.mem_append_left _ (List.mem_append_left _ (List.mem_of_getElem? (i := 1) rfl))))))))))) (hC.1.1 2 _ rfl).2 (va_recv (q := (RX3, TX3, 4)) hC.1 hG.1 rfl (hk9.trans (by rw [hE7]))) dX11_toss_29 ?_
        refine z_if_eq (tgt := 47) hx hb dX11_toss_32 (by decide) (by omega) (by omega) (fun c_8 => ?_) (fun c_8 => ?_)
        · exfalso; omega
        · refine lv_aload_n hx hb dX11_toss_35 rfl (lv_at hl 0 rfl) ?_
          obtain ⟨k9, hk9⟩ := va_pl_get (X := gFx cy ad jf u) (f := u.2.2.2.2) ha1
          refine va_castS hx hb hown (hts (.classLink RX11 16 "StraitSwim$Plain") (List.mem_cons_of_mem _ (List.mem_append_left _ (List.mem_append_left _ (List.mem_append_left _ (List.mem_append_left _ (List.mem_append_left _ (List.mem_append_left _ (List.mem_append_left _ (List.mem_append_left _ (List.mem_of_getElem? (i := 1) rfl))))))))))) (hC.1.1 2 _ rfl).2 (va_recv (q := (RX3, TX3, 4)) hC.1 hG.1 rfl (hk9.trans (by rw [hE7]))) dX11_toss_36 ?_
          refine lv_astore_n (lv' := [(2, .ref a1), (3, .ref a1), (0, .ref (ad 0)), (1, .int (zI p1))]) hx hb dX11_toss_39 rfl hl (by decide) rfl (fun ls hl => ?_)
          refine lv_aload_n hx hb dX11_toss_40 rfl (lv_at hl 0 rfl) ?_
          refine vx_calli (vx_runSX (As := [.ref a1]) (rest := []) ⟨hx, hb, hml, hown, hts⟩ (kX11_failureOf_X3 l D cy ad jf A hl9 u a1 (NM p1.toNat) (SP p1.toNat) (LI p1.toNat) (FD p1.toNat) ha1 hE7) (vx_cwSW 1 hts gX11_toss_X11_failureOf rfl rfl rfl (by decide +kernel) ⟨by decide, by decide⟩) (gX_preS hG hC hTh hS) rfl rfl hl.1 rfl (lv_room (Nat.le_of_ble_eq_true rfl)) dX11_toss_41 ⟨Nat.le_of_ble_eq_true rfl, Nat.le_of_ble_eq_true rfl⟩) hS (fun _ _ h => h) (fun _ h => h) (fun _ _ h => h) (fun E ce q9 v9 t H locs _ _ _ hBX => absurd hBX.1 id) (fun r9 v9 t H locs ht _ hpo hB _ _ hS => ?_)
          obtain ⟨rfl, hv9⟩ := hpo
          have hG := hB.1
          rw [hv9, ht] at hG
          refine lv_goto (tgt := 49) hx hb dX11_toss_44 (by decide) ?_
          refine W.widen (k := 1) (n := 6) (Nat.le_of_ble_eq_true rfl) (Nat.le_of_ble_eq_true rfl) ?_
          exact W.iret (v := zI ((-15))) hx hb hr (fun t9 ht9_ hW => ⟨⟨zI ((-15)), u, rfl, (by refine ⟨?_, rfl⟩; unfold cToss; (repeat (first | rw [if_pos (by omega)] | rw [if_neg (by omega)])); all_goals rfl), gB.mk' hG hC hS ht9_ hW⟩, hS.F ht9_⟩) hS.2.2 dX11_toss_49
      · have hE9 : u.2.2.2.2 a1 = .inr (0, [.int (zI (NM p1.toNat)), .int (zI (SP p1.toNat)), .int (zI (LI p1.toNat)), .int (zI (FD p1.toNat))]) := by rw [hE1, hk0]; rfl
        obtain ⟨k9, hk9⟩ := va_pl_get (X := gFx cy ad jf u) (f := u.2.2.2.2) ha1
        refine g_instY hx hb hown (hts (.classLink RX11 16 "StraitSwim$Plain") (List.mem_cons_of_mem _ (List.mem_append_left _ (List.mem_append_left _ (List.mem_append_left _ (List.mem_append_left _ (List.mem_append_left _ (List.mem_append_left _ (List.mem_append_left _ (List.mem_append_left _ (List.mem_of_getElem? (i := 1) rfl))))))))))) hC.2.2.2.2.2.1.1 (va_recv (q := (RX0, TX0, 4)) hC.1 hG.1 rfl (hk9.trans (by rw [hE9]))) dX11_toss_29 ?_
        refine z_if_eq (tgt := 47) hx hb dX11_toss_32 (by decide) (by omega) (by omega) (fun c_10 => ?_) (fun c_10 => ?_)
        · exfalso; omega
        · refine lv_aload_n hx hb dX11_toss_35 rfl (lv_at hl 0 rfl) ?_
          obtain ⟨k9, hk9⟩ := va_pl_get (X := gFx cy ad jf u) (f := u.2.2.2.2) ha1
          refine va_castY hx hb hown (hts (.classLink RX11 16 "StraitSwim$Plain") (List.mem_cons_of_mem _ (List.mem_append_left _ (List.mem_append_left _ (List.mem_append_left _ (List.mem_append_left _ (List.mem_append_left _ (List.mem_append_left _ (List.mem_append_left _ (List.mem_append_left _ (List.mem_of_getElem? (i := 1) rfl))))))))))) hC.2.2.2.2.2.1.1 (va_recv (q := (RX0, TX0, 4)) hC.1 hG.1 rfl (hk9.trans (by rw [hE9]))) dX11_toss_36 ?_
          refine lv_astore_n (lv' := [(2, .ref a1), (3, .ref a1), (0, .ref (ad 0)), (1, .int (zI p1))]) hx hb dX11_toss_39 rfl hl (by decide) rfl (fun ls hl => ?_)
          refine lv_aload_n hx hb dX11_toss_40 rfl (lv_at hl 0 rfl) ?_
          refine vx_calli (vx_runSX (As := [.ref a1]) (rest := []) ⟨hx, hb, hml, hown, hts⟩ (kX11_failureOf_X0 l D cy ad jf A hl9 u a1 (NM p1.toNat) (SP p1.toNat) (LI p1.toNat) (FD p1.toNat) ha1 hE9) (vx_cwSW 1 hts gX11_toss_X11_failureOf rfl rfl rfl (by decide +kernel) ⟨by decide, by decide⟩) (gX_preS hG hC hTh hS) rfl rfl hl.1 rfl (lv_room (Nat.le_of_ble_eq_true rfl)) dX11_toss_41 ⟨Nat.le_of_ble_eq_true rfl, Nat.le_of_ble_eq_true rfl⟩) hS (fun _ _ h => h) (fun _ h => h) (fun _ _ h => h) (fun E ce q9 v9 t H locs _ _ _ hBX => absurd hBX.1 id) (fun r9 v9 t H locs ht _ hpo hB _ _ hS => ?_)
          obtain ⟨rfl, hv9⟩ := hpo
          have hG := hB.1
          rw [hv9, ht] at hG
          refine lv_goto (tgt := 49) hx hb dX11_toss_44 (by decide) ?_
          refine W.widen (k := 1) (n := 6) (Nat.le_of_ble_eq_true rfl) (Nat.le_of_ble_eq_true rfl) ?_
          exact W.iret (v := zI (NM p1.toNat)) hx hb hr (fun t9 ht9_ hW => ⟨⟨zI (NM p1.toNat), u, rfl, (by refine ⟨?_, rfl⟩; unfold cToss; (repeat (first | rw [if_pos (by omega)] | rw [if_neg (by omega)])); all_goals rfl), gB.mk' hG hC hS ht9_ hW⟩, hS.F ht9_⟩) hS.2.2 dX11_toss_49
      · have hE11 : u.2.2.2.2 a1 = .inr (3, [.int (zI (NM p1.toNat)), .int (zI (SP p1.toNat)), .int (zI (LI p1.toNat)), .int (zI (FD p1.toNat))]) := by rw [hE1, hk0]; rfl
        obtain ⟨k9, hk9⟩ := va_pl_get (X := gFx cy ad jf u) (f := u.2.2.2.2) ha1
        refine g_instY hx hb hown (hts (.classLink RX11 16 "StraitSwim$Plain") (List.mem_cons_of_mem _ (List.mem_append_left _ (List.mem_append_left _ (List.mem_append_left _ (List.mem_append_left _ (List.mem_append_left _ (List.mem_append_left _ (List.mem_append_left _ (List.mem_append_left _ (List.mem_of_getElem? (i := 1) rfl))))))))))) hC.2.2.2.2.2.1.2.1 (va_recv (q := (RX4, TX4, 4)) hC.1 hG.1 rfl (hk9.trans (by rw [hE11]))) dX11_toss_29 ?_
        refine z_if_eq (tgt := 47) hx hb dX11_toss_32 (by decide) (by omega) (by omega) (fun c_12 => ?_) (fun c_12 => ?_)
        · exfalso; omega
        · refine lv_aload_n hx hb dX11_toss_35 rfl (lv_at hl 0 rfl) ?_
          obtain ⟨k9, hk9⟩ := va_pl_get (X := gFx cy ad jf u) (f := u.2.2.2.2) ha1
          refine va_castY hx hb hown (hts (.classLink RX11 16 "StraitSwim$Plain") (List.mem_cons_of_mem _ (List.mem_append_left _ (List.mem_append_left _ (List.mem_append_left _ (List.mem_append_left _ (List.mem_append_left _ (List.mem_append_left _ (List.mem_append_left _ (List.mem_append_left _ (List.mem_of_getElem? (i := 1) rfl))))))))))) hC.2.2.2.2.2.1.2.1 (va_recv (q := (RX4, TX4, 4)) hC.1 hG.1 rfl (hk9.trans (by rw [hE11]))) dX11_toss_36 ?_
          refine lv_astore_n (lv' := [(2, .ref a1), (3, .ref a1), (0, .ref (ad 0)), (1, .int (zI p1))]) hx hb dX11_toss_39 rfl hl (by decide) rfl (fun ls hl => ?_)
          refine lv_aload_n hx hb dX11_toss_40 rfl (lv_at hl 0 rfl) ?_
          refine vx_calli (vx_runSX (As := [.ref a1]) (rest := []) ⟨hx, hb, hml, hown, hts⟩ (kX11_failureOf_X4 l D cy ad jf A hl9 u a1 (NM p1.toNat) (SP p1.toNat) (LI p1.toNat) (FD p1.toNat) ha1 hE11) (vx_cwSW 1 hts gX11_toss_X11_failureOf rfl rfl rfl (by decide +kernel) ⟨by decide, by decide⟩) (gX_preS hG hC hTh hS) rfl rfl hl.1 rfl (lv_room (Nat.le_of_ble_eq_true rfl)) dX11_toss_41 ⟨Nat.le_of_ble_eq_true rfl, Nat.le_of_ble_eq_true rfl⟩) hS (fun _ _ h => h) (fun _ h => h) (fun _ _ h => h) (fun E ce q9 v9 t H locs _ _ _ hBX => absurd hBX.1 id) (fun r9 v9 t H locs ht _ hpo hB _ _ hS => ?_)
          obtain ⟨rfl, hv9⟩ := hpo
          have hG := hB.1
          rw [hv9, ht] at hG
          refine lv_goto (tgt := 49) hx hb dX11_toss_44 (by decide) ?_
          refine W.widen (k := 1) (n := 6) (Nat.le_of_ble_eq_true rfl) (Nat.le_of_ble_eq_true rfl) ?_
          exact W.iret (v := zI (NM p1.toNat)) hx hb hr (fun t9 ht9_ hW => ⟨⟨zI (NM p1.toNat), u, rfl, (by refine ⟨?_, rfl⟩; unfold cToss; (repeat (first | rw [if_pos (by omega)] | rw [if_neg (by omega)])); all_goals rfl), gB.mk' hG hC hS ht9_ hW⟩, hS.F ht9_⟩) hS.2.2 dX11_toss_49
      · have hE13 : u.2.2.2.2 a1 = .inr (5, [.int (zI (NM p1.toNat)), .int (zI (SP p1.toNat)), .int (zI (LI p1.toNat)), .int (zI (FD p1.toNat))]) := by rw [hE1, hk0]; rfl
        obtain ⟨k9, hk9⟩ := va_pl_get (X := gFx cy ad jf u) (f := u.2.2.2.2) ha1
        refine g_instY hx hb hown (hts (.classLink RX11 16 "StraitSwim$Plain") (List.mem_cons_of_mem _ (List.mem_append_left _ (List.mem_append_left _ (List.mem_append_left _ (List.mem_append_left _ (List.mem_append_left _ (List.mem_append_left _ (List.mem_append_left _ (List.mem_append_left _ (List.mem_of_getElem? (i := 1) rfl))))))))))) hC.2.2.2.2.2.1.2.2 (va_recv (q := (RX6, TX6, 4)) hC.1 hG.1 rfl (hk9.trans (by rw [hE13]))) dX11_toss_29 ?_
        refine z_if_eq (tgt := 47) hx hb dX11_toss_32 (by decide) (by omega) (by omega) (fun c_14 => ?_) (fun c_14 => ?_)
        · exfalso; omega
        · refine lv_aload_n hx hb dX11_toss_35 rfl (lv_at hl 0 rfl) ?_
          obtain ⟨k9, hk9⟩ := va_pl_get (X := gFx cy ad jf u) (f := u.2.2.2.2) ha1
          refine va_castY hx hb hown (hts (.classLink RX11 16 "StraitSwim$Plain") (List.mem_cons_of_mem _ (List.mem_append_left _ (List.mem_append_left _ (List.mem_append_left _ (List.mem_append_left _ (List.mem_append_left _ (List.mem_append_left _ (List.mem_append_left _ (List.mem_append_left _ (List.mem_of_getElem? (i := 1) rfl))))))))))) hC.2.2.2.2.2.1.2.2 (va_recv (q := (RX6, TX6, 4)) hC.1 hG.1 rfl (hk9.trans (by rw [hE13]))) dX11_toss_36 ?_
          refine lv_astore_n (lv' := [(2, .ref a1), (3, .ref a1), (0, .ref (ad 0)), (1, .int (zI p1))]) hx hb dX11_toss_39 rfl hl (by decide) rfl (fun ls hl => ?_)
          refine lv_aload_n hx hb dX11_toss_40 rfl (lv_at hl 0 rfl) ?_
          refine vx_calli (vx_runSX (As := [.ref a1]) (rest := []) ⟨hx, hb, hml, hown, hts⟩ (kX11_failureOf_X6 l D cy ad jf A hl9 u a1 (NM p1.toNat) (SP p1.toNat) (LI p1.toNat) (FD p1.toNat) ha1 hE13) (vx_cwSW 1 hts gX11_toss_X11_failureOf rfl rfl rfl (by decide +kernel) ⟨by decide, by decide⟩) (gX_preS hG hC hTh hS) rfl rfl hl.1 rfl (lv_room (Nat.le_of_ble_eq_true rfl)) dX11_toss_41 ⟨Nat.le_of_ble_eq_true rfl, Nat.le_of_ble_eq_true rfl⟩) hS (fun _ _ h => h) (fun _ h => h) (fun _ _ h => h) (fun E ce q9 v9 t H locs _ _ _ hBX => absurd hBX.1 id) (fun r9 v9 t H locs ht _ hpo hB _ _ hS => ?_)
          obtain ⟨rfl, hv9⟩ := hpo
          have hG := hB.1
          rw [hv9, ht] at hG
          refine lv_goto (tgt := 49) hx hb dX11_toss_44 (by decide) ?_
          refine W.widen (k := 1) (n := 6) (Nat.le_of_ble_eq_true rfl) (Nat.le_of_ble_eq_true rfl) ?_
          exact W.iret (v := zI (NM p1.toNat)) hx hb hr (fun t9 ht9_ hW => ⟨⟨zI (NM p1.toNat), u, rfl, (by refine ⟨?_, rfl⟩; unfold cToss; (repeat (first | rw [if_pos (by omega)] | rw [if_neg (by omega)])); all_goals rfl), gB.mk' hG hC hS ht9_ hW⟩, hS.F ht9_⟩) hS.2.2 dX11_toss_49
    · rw [hs1]
      simp only [va_rf]
      refine lv_ifnonnull (tgt := 21) hx hb dX11_toss_15 (by decide) ?_
      refine lv_aload_n hx hb dX11_toss_21 rfl (lv_at hl 0 rfl) ?_
      refine g_get (C := RX11) (T := TX11) (N := 14) (ci := 10) hx hb hts (fun _ h => (List.mem_cons_of_mem _ (List.mem_append_left _ (List.mem_append_left _ (List.mem_append_left _ (List.mem_append_left _ (List.mem_append_left _ (List.mem_append_left _ (List.mem_append_right _ h))))))))) hown hC.1 hG 0 (by decide) rfl rfl 13 (by decide) (hts (.fieldLink RX11 75 "StraitSwim" "shelves" "[LStraitSwim$Held;") (List.mem_cons_of_mem _ (List.mem_append_left _ (List.mem_append_left _ (List.mem_append_left _ (List.mem_append_left _ (List.mem_append_left _ (List.mem_append_left _ (List.mem_append_left _ (List.mem_append_left _ (List.mem_of_getElem? (i := 0) rfl))))))))))) (fun _ h9 => h9) rfl dX11_toss_22 ?_
      refine lv_iload_n hx hb dX11_toss_25 rfl (lv_at hl 1 rfl) ?_
      refine g_aald (n := 8) hx hb hC.1 hG 30 3 (by decide) rfl rfl (by omega) (by omega) (by decide) dX11_toss_26 ?_
      rw [hs1]
      simp only [va_rf]
      refine lv_astore_n (lv' := [(3, .ref a1), (0, .ref (ad 0)), (1, .int (zI p1))]) hx hb dX11_toss_27 rfl hl (by decide) rfl (fun ls hl => ?_)
      refine lv_aload_n hx hb dX11_toss_28 rfl (lv_at hl 0 rfl) ?_
      obtain ⟨k9, hk9⟩ := va_pl_get (X := gFx cy ad jf u) (f := u.2.2.2.2) ha1
      refine g_instNo hx hb hown (hts (.classLink RX11 16 "StraitSwim$Plain") (List.mem_cons_of_mem _ (List.mem_append_left _ (List.mem_append_left _ (List.mem_append_left _ (List.mem_append_left _ (List.mem_append_left _ (List.mem_append_left _ (List.mem_append_left _ (List.mem_append_left _ (List.mem_of_getElem? (i := 1) rfl))))))))))) hC.2.2.2.2.2.2.2.1 (va_recv (q := (RX5, TX5, 2)) hC.1 hG.1 rfl (hk9.trans (by rw [hE1]))) dX11_toss_29 ?_
      refine z_if_eq (tgt := 47) hx hb dX11_toss_32 (by decide) (by omega) (by omega) (fun c_15 => ?_) (fun c_15 => ?_)
      · refine z_bipush hx hb dX11_toss_47 (by decide) ?_
        refine W.widen (k := 1) (n := 6) (Nat.le_of_ble_eq_true rfl) (Nat.le_of_ble_eq_true rfl) ?_
        exact W.iret (v := zI ((-12))) hx hb hr (fun t9 ht9_ hW => ⟨⟨zI ((-12)), u, rfl, (by refine ⟨?_, rfl⟩; unfold cToss; (repeat (first | rw [if_pos (by omega)] | rw [if_neg (by omega)])); all_goals rfl), gB.mk' hG hC hS ht9_ hW⟩, hS.F ht9_⟩) hS.2.2 dX11_toss_49
      · exfalso; omega
  · refine z_iconst hx hb dX11_toss_7 ?_
    refine W.widen (k := 1) (n := 6) (Nat.le_of_ble_eq_true rfl) (Nat.le_of_ble_eq_true rfl) ?_
    exact W.iret (v := zI ((-1))) hx hb hr (fun t9 ht9_ hW => ⟨⟨zI ((-1)), u, rfl, (by refine ⟨?_, rfl⟩; unfold cToss; (repeat (first | rw [if_pos (by omega)] | rw [if_neg (by omega)])); all_goals rfl), gB.mk' hG hC hS ht9_ hW⟩, hS.F ht9_⟩) hS.2.2 dX11_toss_8
set_option maxHeartbeats 4000000 in
set_option maxRecDepth 100000 in
theorem kX11_carries (l : Launch) (D : va_G) (cy : Nat → ClassId) (ad : Nat → Nat) (jf : Nat → Int64) (A : Nat → Prop) (hl9 : l.stackTraces = false) (u : gS) (p1 p2 p3 p4 : Int) (j_p1 : -2147483648 ≤ p1 ∧ p1 < 2147483648) (j_p2 : -2147483648 ≤ p2 ∧ p2 < 2147483648) (j_p3 : -2147483648 ≤ p3 ∧ p3 < 2147483648) (j_p4 : -2147483648 ≤ p4 ∧ p4 < 2147483648) : vx_Met l yX11_carries wsX11_carries ({ frames := 6, cells := 1, slots := 6, locals := 90 }) (va_Pc [.ref (ad 0), .int (zI p1), .int (zI p2), .int (zI p3), .int (zI p4)] (gBX D cy ad jf A u)) (va_Ql (fun (r : Int64) (v : gS) => okCarry p1 p2 p3 p4 ∧ r = (zI (cCarry u p2 p3 p4)).toInt64 ∧ v = u) (gB D cy ad jf A) A) (gXC (fun E => E = xIA ∧ ¬ okCarry p1 p2 p3 p4) D cy ad jf A (fun v : gS => v = u)) 1 6 A := by
  refine vx_ofW (cc := cX11_carries) (maxL := 6) (ret := (some .long)) (by decide) rfl ?_
  intro p e s m args below meth c s₁ B hml htab hv
  obtain ⟨rfl, ⟨hG, hC⟩, hTh⟩ := hv
  have hx := B.exec
  have hb := B.bytes
  have hr := B.returns
  have hts := atoms_spec (ws := wsX11_carries) B.pre
  have hown : s.vm.findClass RX11 = some m.cls := findClass_of_methodNamed B.named
  have hlocks := B.notSynchronized
  have hS : va_S A s.heap s.heap [] := va_S.rf
  have hl := lv_entry ([.ref (ad 0), .int (zI p1), .int (zI p2), .int (zI p3), .int (zI p4)]) (n := 6) (Nat.le_of_ble_eq_true rfl)
  rw [lg_entry_eq]
  generalize (lg_sl ([.ref (ad 0), .int (zI p1), .int (zI p2), .int (zI p3), .int (zI p4)]) ++ List.replicate (6 - (lg_sl ([.ref (ad 0), .int (zI p1), .int (zI p2), .int (zI p3), .int (zI p4)])).length) Slot.unset).toArray = ls at hl ⊢
  have hl : lv_has ls 6 [(0, .ref (ad 0)), (1, .int (zI p1)), (2, .int (zI p2)), (3, .int (zI p3)), (4, .int (zI p4))] := hl
  refine lv_iload_n hx hb dX11_carries_0 rfl (lv_at hl 1 rfl) ?_
  refine lv_iload_n hx hb dX11_carries_1 rfl (lv_at hl 2 rfl) ?_
  refine g_calli (va_runS (As := [.int (zI p1), .int (zI p2)]) (rest := []) ⟨hx, hb, hml, hown, hts⟩ (kX11_isPlace l D cy ad jf A u p1 p2 (by omega) (by omega)) (va_cwS 2 hts gX11_carries_X11_isPlace rfl rfl rfl (by decide +kernel) ⟨by decide, by decide⟩) (g_preS hG hC hS) rfl rfl hl.1 rfl (lv_room (Nat.le_of_ble_eq_true rfl)) dX11_carries_2 ⟨Nat.le_of_ble_eq_true rfl, Nat.le_of_ble_eq_true rfl⟩) hS (fun r1 u2 H locs p_3 hG hS => ?_)
  obtain ⟨⟨b4, rfl, q_5⟩, he_⟩ := p_3
  rw [he_] at hG; clear he_
  have hbb4 : 0 ≤ b4 ∧ b4 ≤ 1 := by rcases q_5 with ⟨h, _⟩ | ⟨h, _⟩ <;> omega
  refine z_if_eq (tgt := 29) hx hb dX11_carries_5 (by decide) (by omega) (by omega) (fun c_6 => ?_) (fun c_6 => ?_)
  · obtain ⟨sa, hsa⟩ := hTh.2.1.1
    exact vx_throwS (A := A) (names := xNs) (cls := xIA) (ic := 101) hx hb hl9 hown (by decide +kernel) (by decide +kernel) (hts (.classLink RX11 97 "java/lang/IllegalArgumentException") (List.mem_cons_of_mem _ (List.mem_append_left _ (List.mem_append_left _ (List.mem_append_left _ (List.mem_of_getElem? (i := 0) rfl)))))) (hts (.initialized "java/lang/IllegalArgumentException") (List.mem_cons_of_mem _ (List.mem_append_left _ (List.mem_append_left _ (List.mem_append_left _ (List.mem_of_getElem? (i := 1) rfl)))))) hsa (vx_hat (fun w hw => hts w (List.mem_cons_of_mem _ (List.mem_append_right _ hw))) xb_0 (xB_IA hTh)) xg_0 hTh.1.1 hTh.1.2 hS (hl.1.trans hml.symm) dX11_carries_29 dX11_carries_32 dX11_carries_33 dX11_carries_35 dX11_carries_38 (fun x hx9 => absurd (htab x hx9) id) (Nat.le_of_ble_eq_true rfl) (Nat.le_of_ble_eq_true rfl) (Nat.le_of_ble_eq_true rfl) (Nat.le_of_ble_eq_true rfl) hlocks (gXC.mk ⟨rfl, (by unfold okCarry; omega)⟩ rfl hG hS) hS.2.2 (Nat.le_of_ble_eq_true rfl) (Nat.le_of_ble_eq_true rfl)
  · refine lv_iload_n hx hb dX11_carries_8 rfl (lv_at hl 3 rfl) ?_
    refine z_iconst hx hb dX11_carries_9 ?_
    refine z_sipush hx hb dX11_carries_10 (by decide) ?_
    refine g_calli (va_runS (As := [.int (zI p3), .int (zI 0), .int (zI 199)]) (rest := []) ⟨hx, hb, hml, hown, hts⟩ (kX11_isWithin l D cy ad jf A u p3 0 199 (by omega) (by omega) (by omega)) (va_cwS 3 hts gX11_carries_X11_isWithin rfl rfl rfl (by decide +kernel) ⟨by decide, by decide⟩) (g_preS hG hC hS) rfl rfl hl.1 rfl (lv_room (Nat.le_of_ble_eq_true rfl)) dX11_carries_13 ⟨Nat.le_of_ble_eq_true rfl, Nat.le_of_ble_eq_true rfl⟩) hS (fun r7 u8 H locs p_9 hG hS => ?_)
    obtain ⟨⟨b10, rfl, q_11⟩, he_⟩ := p_9
    rw [he_] at hG; clear he_
    have hbb10 : 0 ≤ b10 ∧ b10 ≤ 1 := by rcases q_11 with ⟨h, _⟩ | ⟨h, _⟩ <;> omega
    refine z_if_eq (tgt := 29) hx hb dX11_carries_16 (by decide) (by omega) (by omega) (fun c_12 => ?_) (fun c_12 => ?_)
    · obtain ⟨sa, hsa⟩ := hTh.2.1.1
      exact vx_throwS (A := A) (names := xNs) (cls := xIA) (ic := 101) hx hb hl9 hown (by decide +kernel) (by decide +kernel) (hts (.classLink RX11 97 "java/lang/IllegalArgumentException") (List.mem_cons_of_mem _ (List.mem_append_left _ (List.mem_append_left _ (List.mem_append_left _ (List.mem_of_getElem? (i := 0) rfl)))))) (hts (.initialized "java/lang/IllegalArgumentException") (List.mem_cons_of_mem _ (List.mem_append_left _ (List.mem_append_left _ (List.mem_append_left _ (List.mem_of_getElem? (i := 1) rfl)))))) hsa (vx_hat (fun w hw => hts w (List.mem_cons_of_mem _ (List.mem_append_right _ hw))) xb_0 (xB_IA hTh)) xg_0 hTh.1.1 hTh.1.2 hS (hl.1.trans hml.symm) dX11_carries_29 dX11_carries_32 dX11_carries_33 dX11_carries_35 dX11_carries_38 (fun x hx9 => absurd (htab x hx9) id) (Nat.le_of_ble_eq_true rfl) (Nat.le_of_ble_eq_true rfl) (Nat.le_of_ble_eq_true rfl) (Nat.le_of_ble_eq_true rfl) hlocks (gXC.mk ⟨rfl, (by unfold okCarry; omega)⟩ rfl hG hS) hS.2.2 (Nat.le_of_ble_eq_true rfl) (Nat.le_of_ble_eq_true rfl)
    · refine lv_iload hx hb dX11_carries_19 (lv_at hl 4 rfl) ?_
      refine z_iconst hx hb dX11_carries_21 ?_
      refine z_iconst hx hb dX11_carries_22 ?_
      refine g_calli (va_runS (As := [.int (zI p4), .int (zI 0), .int (zI 1)]) (rest := []) ⟨hx, hb, hml, hown, hts⟩ (kX11_isWithin l D cy ad jf A u p4 0 1 (by omega) (by omega) (by omega)) (va_cwS 3 hts gX11_carries_X11_isWithin rfl rfl rfl (by decide +kernel) ⟨by decide, by decide⟩) (g_preS hG hC hS) rfl rfl hl.1 rfl (lv_room (Nat.le_of_ble_eq_true rfl)) dX11_carries_23 ⟨Nat.le_of_ble_eq_true rfl, Nat.le_of_ble_eq_true rfl⟩) hS (fun r13 u14 H locs p_15 hG hS => ?_)
      obtain ⟨⟨b16, rfl, q_17⟩, he_⟩ := p_15
      rw [he_] at hG; clear he_
      have hbb16 : 0 ≤ b16 ∧ b16 ≤ 1 := by rcases q_17 with ⟨h, _⟩ | ⟨h, _⟩ <;> omega
      refine z_if_ne (tgt := 39) hx hb dX11_carries_26 (by decide) (by omega) (by omega) (fun c_18 => ?_) (fun c_18 => ?_)
      · refine lv_iload_n hx hb dX11_carries_39 rfl (lv_at hl 2 rfl) ?_
        refine lv_iload_n hx hb dX11_carries_40 rfl (lv_at hl 3 rfl) ?_
        refine g_calli (va_runS (As := [.int (zI p2), .int (zI p3)]) (rest := []) ⟨hx, hb, hml, hown, hts⟩ (kX11_tideIndex l D cy ad jf A u p2 p3 (by omega) (by omega)) (va_cwS 2 hts gX11_carries_X11_tideIndex rfl rfl rfl (by decide +kernel) ⟨by decide, by decide⟩) (g_preS hG hC hS) rfl rfl hl.1 rfl (lv_room (Nat.le_of_ble_eq_true rfl)) dX11_carries_41 ⟨Nat.le_of_ble_eq_true rfl, Nat.le_of_ble_eq_true rfl⟩) hS (fun r19 u20 H locs p_21 hG hS => ?_)
        obtain ⟨rfl, he_⟩ := p_21
        rw [he_] at hG; clear he_
        refine lv_istore (lv' := [(5, .int (zI (p2 / 40 * 12 + p3 / 4 % 12))), (0, .ref (ad 0)), (1, .int (zI p1)), (2, .int (zI p2)), (3, .int (zI p3)), (4, .int (zI p4))]) hx hb dX11_carries_44 hl (by decide) rfl (fun ls hl => ?_)
        refine lv_iload hx hb dX11_carries_46 (lv_at hl 5 rfl) ?_
        refine z_if_ne (tgt := 65) hx hb dX11_carries_48 (by decide) (by omega) (by omega) (fun c_22 => ?_) (fun c_22 => ?_)
        · refine lv_aload_n hx hb dX11_carries_65 rfl (lv_at hl 1 rfl) ?_
          refine g_get (C := RX11) (T := TX11) (N := 14) (ci := 10) hx hb hts (fun _ h => (List.mem_cons_of_mem _ (List.mem_append_left _ (List.mem_append_left _ (List.mem_append_right _ h))))) hown hC.1 hG 0 (by decide) rfl rfl 0 (by decide) (hts (.fieldLink RX11 10 "StraitSwim" "strait" "LStraitSwim$Strait;") (List.mem_cons_of_mem _ (List.mem_append_left _ (List.mem_append_left _ (List.mem_append_left _ (List.mem_of_getElem? (i := 2) rfl)))))) (fun _ h9 => h9) rfl dX11_carries_66 ?_
          refine g_get (C := RX8) (T := TX8) (N := 4) (ci := 7) hx hb hts (fun _ h => (List.mem_cons_of_mem _ (List.mem_append_left _ (List.mem_append_right _ h)))) hown hC.1 hG 1 (by decide) rfl rfl 3 (by decide) (hts (.fieldLink RX11 112 "StraitSwim$Strait" "north" "[I") (List.mem_cons_of_mem _ (List.mem_append_left _ (List.mem_append_left _ (List.mem_append_left _ (List.mem_of_getElem? (i := 4) rfl)))))) (fun _ h9 => h9) rfl dX11_carries_69 ?_
          refine lv_iload hx hb dX11_carries_72 (lv_at hl 0 rfl) ?_
          refine g_iald (n := 36) hx hb hC.1 hG 11 (by decide) rfl (by omega) (by omega) (by decide) dX11_carries_74 ?_
          refine lv_i2l (v := (zI (u.2.1 11 (p2 / 40 * 12 + p3 / 4 % 12).toNat)).toInt64) hx hb dX11_carries_75 rfl ?_
          refine W.widen (k := 1) (n := 6) (Nat.le_of_ble_eq_true rfl) (Nat.le_of_ble_eq_true rfl) ?_
          refine vx_ret ?_
          exact W.lret (v := (zI (u.2.1 11 (p2 / 40 * 12 + p3 / 4 % 12).toNat)).toInt64) hx hb hr (fun t9 ht9_ hW => ⟨⟨(zI (u.2.1 11 (p2 / 40 * 12 + p3 / 4 % 12).toNat)).toInt64, u, rfl, (by refine ⟨(by unfold okCarry; omega), ?_, rfl⟩; unfold cCarry; (first | rw [if_pos (by omega)] | rw [if_neg (by omega)])), gB.mk' hG hC hS ht9_ hW⟩, hS.F ht9_⟩) hS.2.2 dX11_carries_76
        · refine lv_aload_n hx hb dX11_carries_51 rfl (lv_at hl 1 rfl) ?_
          refine g_get (C := RX11) (T := TX11) (N := 14) (ci := 10) hx hb hts (fun _ h => (List.mem_cons_of_mem _ (List.mem_append_left _ (List.mem_append_left _ (List.mem_append_right _ h))))) hown hC.1 hG 0 (by decide) rfl rfl 0 (by decide) (hts (.fieldLink RX11 10 "StraitSwim" "strait" "LStraitSwim$Strait;") (List.mem_cons_of_mem _ (List.mem_append_left _ (List.mem_append_left _ (List.mem_append_left _ (List.mem_of_getElem? (i := 2) rfl)))))) (fun _ h9 => h9) rfl dX11_carries_52 ?_
          refine g_get (C := RX8) (T := TX8) (N := 4) (ci := 7) hx hb hts (fun _ h => (List.mem_cons_of_mem _ (List.mem_append_left _ (List.mem_append_right _ h)))) hown hC.1 hG 1 (by decide) rfl rfl 2 (by decide) (hts (.fieldLink RX11 108 "StraitSwim$Strait" "east" "[I") (List.mem_cons_of_mem _ (List.mem_append_left _ (List.mem_append_left _ (List.mem_append_left _ (List.mem_of_getElem? (i := 3) rfl)))))) (fun _ h9 => h9) rfl dX11_carries_55 ?_
          refine lv_iload hx hb dX11_carries_58 (lv_at hl 0 rfl) ?_
          refine g_iald (n := 36) hx hb hC.1 hG 10 (by decide) rfl (by omega) (by omega) (by decide) dX11_carries_60 ?_
          refine lv_i2l (v := (zI (u.2.1 10 (p2 / 40 * 12 + p3 / 4 % 12).toNat)).toInt64) hx hb dX11_carries_61 rfl ?_
          refine lv_goto (tgt := 76) hx hb dX11_carries_62 (by decide) ?_
          refine W.widen (k := 1) (n := 6) (Nat.le_of_ble_eq_true rfl) (Nat.le_of_ble_eq_true rfl) ?_
          refine vx_ret ?_
          exact W.lret (v := (zI (u.2.1 10 (p2 / 40 * 12 + p3 / 4 % 12).toNat)).toInt64) hx hb hr (fun t9 ht9_ hW => ⟨⟨(zI (u.2.1 10 (p2 / 40 * 12 + p3 / 4 % 12).toNat)).toInt64, u, rfl, (by refine ⟨(by unfold okCarry; omega), ?_, rfl⟩; unfold cCarry; (first | rw [if_pos (by omega)] | rw [if_neg (by omega)])), gB.mk' hG hC hS ht9_ hW⟩, hS.F ht9_⟩) hS.2.2 dX11_carries_76
      · obtain ⟨sa, hsa⟩ := hTh.2.1.1
        exact vx_throwS (A := A) (names := xNs) (cls := xIA) (ic := 101) hx hb hl9 hown (by decide +kernel) (by decide +kernel) (hts (.classLink RX11 97 "java/lang/IllegalArgumentException") (List.mem_cons_of_mem _ (List.mem_append_left _ (List.mem_append_left _ (List.mem_append_left _ (List.mem_of_getElem? (i := 0) rfl)))))) (hts (.initialized "java/lang/IllegalArgumentException") (List.mem_cons_of_mem _ (List.mem_append_left _ (List.mem_append_left _ (List.mem_append_left _ (List.mem_of_getElem? (i := 1) rfl)))))) hsa (vx_hat (fun w hw => hts w (List.mem_cons_of_mem _ (List.mem_append_right _ hw))) xb_0 (xB_IA hTh)) xg_0 hTh.1.1 hTh.1.2 hS (hl.1.trans hml.symm) dX11_carries_29 dX11_carries_32 dX11_carries_33 dX11_carries_35 dX11_carries_38 (fun x hx9 => absurd (htab x hx9) id) (Nat.le_of_ble_eq_true rfl) (Nat.le_of_ble_eq_true rfl) (Nat.le_of_ble_eq_true rfl) (Nat.le_of_ble_eq_true rfl) hlocks (gXC.mk ⟨rfl, (by unfold okCarry; omega)⟩ rfl hG hS) hS.2.2 (Nat.le_of_ble_eq_true rfl) (Nat.le_of_ble_eq_true rfl)
set_option maxHeartbeats 4000000 in
set_option maxRecDepth 100000 in
theorem kX11_element (l : Launch) (D : va_G) (cy : Nat → ClassId) (ad : Nat → Nat) (jf : Nat → Int64) (A : Nat → Prop) (hl9 : l.stackTraces = false) (u : gS) (p1 p2 : Int) (j_p1 : -2147483648 ≤ p1 ∧ p1 < 2147483648) (j_p2 : -2147483648 ≤ p2 ∧ p2 < 2147483648) (HK KD NM SP LI FD : Nat → Int) (BA NN : Nat → Nat) (GG : Nat → Nat → Int) (hsl : ∀ d, d < 8 → slAt cy u d (HK d) (KD d) (NM d) (SP d) (LI d) (FD d) (BA d) (NN d) (GG d)) : vx_Met l yX11_element wsX11_element ({ frames := 6, cells := 1, slots := 6, locals := 90 }) (va_Pc [.ref (ad 0), .int (zI p1), .int (zI p2)] (gBX D cy ad jf A u)) (va_Ql (fun (r : Int64) (v : gS) => ((0 ≤ p1 ∧ p1 ≤ 7) ∧ okEle HK NN p1 p2) ∧ r = (zI (cEle GG p1 p2)).toInt64 ∧ v = u) (gB D cy ad jf A) A) (gXC (fun E => (E = xIA ∧ ¬ (0 ≤ p1 ∧ p1 ≤ 7)) ∨ (E = xIS ∧ (0 ≤ p1 ∧ p1 ≤ 7) ∧ ¬ okEle HK NN p1 p2)) D cy ad jf A (fun v : gS => v = u)) 1 6 A := by
  refine vx_ofW (cc := cX11_element) (maxL := 5) (ret := (some .long)) (by decide) rfl ?_
  intro p e s m args below meth c s₁ B hml htab hv
  obtain ⟨rfl, ⟨hG, hC⟩, hTh⟩ := hv
  have hx := B.exec
  have hb := B.bytes
  have hr := B.returns
  have hts := atoms_spec (ws := wsX11_element) B.pre
  have hown : s.vm.findClass RX11 = some m.cls := findClass_of_methodNamed B.named
  have hlocks := B.notSynchronized
  have hS : va_S A s.heap s.heap [] := va_S.rf
  have hl := lv_entry ([.ref (ad 0), .int (zI p1), .int (zI p2)]) (n := 5) (Nat.le_of_ble_eq_true rfl)
  rw [lg_entry_eq]
  generalize (lg_sl ([.ref (ad 0), .int (zI p1), .int (zI p2)]) ++ List.replicate (5 - (lg_sl ([.ref (ad 0), .int (zI p1), .int (zI p2)])).length) Slot.unset).toArray = ls at hl ⊢
  have hl : lv_has ls 5 [(0, .ref (ad 0)), (1, .int (zI p1)), (2, .int (zI p2))] := hl
  refine lv_iload_n hx hb dX11_element_0 rfl (lv_at hl 1 rfl) ?_
  refine g_calli (va_runS (As := [.int (zI p1)]) (rest := []) ⟨hx, hb, hml, hown, hts⟩ (kX11_isShelf l D cy ad jf A u p1 (by omega)) (va_cwS 1 hts gX11_element_X11_isShelf rfl rfl rfl (by decide +kernel) ⟨by decide, by decide⟩) (g_preS hG hC hS) rfl rfl hl.1 rfl (lv_room (Nat.le_of_ble_eq_true rfl)) dX11_element_1 ⟨Nat.le_of_ble_eq_true rfl, Nat.le_of_ble_eq_true rfl⟩) hS (fun r1 u2 H locs p_3 hG hS => ?_)
  obtain ⟨⟨b4, rfl, q_5⟩, he_⟩ := p_3
  rw [he_] at hG; clear he_
  have hbb4 : 0 ≤ b4 ∧ b4 ≤ 1 := by rcases q_5 with ⟨h, _⟩ | ⟨h, _⟩ <;> omega
  refine z_if_ne (tgt := 17) hx hb dX11_element_4 (by decide) (by omega) (by omega) (fun c_6 => ?_) (fun c_6 => ?_)
  · refine lv_aload_n hx hb dX11_element_17 rfl (lv_at hl 0 rfl) ?_
    refine g_get (C := RX11) (T := TX11) (N := 14) (ci := 10) hx hb hts (fun _ h => (List.mem_cons_of_mem _ (List.mem_append_left _ (List.mem_append_left _ (List.mem_append_left _ (List.mem_append_right _ h)))))) hown hC.1 hG 0 (by decide) rfl rfl 13 (by decide) (hts (.fieldLink RX11 75 "StraitSwim" "shelves" "[LStraitSwim$Held;") (List.mem_cons_of_mem _ (List.mem_append_left _ (List.mem_append_left _ (List.mem_append_left _ (List.mem_append_left _ (List.mem_of_getElem? (i := 4) rfl))))))) (fun _ h9 => h9) rfl dX11_element_18 ?_
    refine lv_iload_n hx hb dX11_element_21 rfl (lv_at hl 1 rfl) ?_
    refine g_aald (n := 8) hx hb hC.1 hG 30 3 (by decide) rfl rfl (by omega) (by omega) (by decide) dX11_element_22 ?_
    rcases hsl p1.toNat (by omega) with ⟨hs1, hk1⟩ | ⟨a1, hs1, ha1, hk1, hkd1, hsp1, hli1, hfd1, hE1⟩ | ⟨a1, hs1, ha1, hk1, hE1, hb1, hEb1, hn1, hg1⟩
    · rw [hs1]
      simp only [va_rf]
      refine lv_astoreN (lv' := [(4, .null), (0, .ref (ad 0)), (1, .int (zI p1)), (2, .int (zI p2))]) hx hb dX11_element_23 hl (by decide) rfl (fun ls hl => ?_)
      refine lv_aloadN hx hb dX11_element_25 (lv_at hl 0 rfl) ?_
      refine lv_instN hx hb dX11_element_27 ?_
      rw [show (0 : Int32) = zI 0 from rfl]
      refine z_if_eq (tgt := 54) hx hb dX11_element_30 (by decide) (by omega) (by omega) (fun c_7 => ?_) (fun c_7 => ?_)
      · obtain ⟨sa, hsa⟩ := hTh.2.1.2.2.1
        exact vx_throwS (A := A) (names := xNs) (cls := xIS) (ic := 240) hx hb hl9 hown (by decide +kernel) (by decide +kernel) (hts (.classLink RX11 236 "java/lang/IllegalStateException") (List.mem_cons_of_mem _ (List.mem_append_left _ (List.mem_append_left _ (List.mem_append_left _ (List.mem_append_left _ (List.mem_of_getElem? (i := 2) rfl))))))) (hts (.initialized "java/lang/IllegalStateException") (List.mem_cons_of_mem _ (List.mem_append_left _ (List.mem_append_left _ (List.mem_append_left _ (List.mem_append_left _ (List.mem_of_getElem? (i := 3) rfl))))))) hsa (vx_hat (fun w hw => hts w (List.mem_cons_of_mem _ (List.mem_append_right _ hw))) xb_1 (xB_IS hTh)) xg_1 hTh.1.1 hTh.1.2 hS (hl.1.trans hml.symm) dX11_element_54 dX11_element_57 dX11_element_58 dX11_element_60 dX11_element_63 (fun x hx9 => absurd (htab x hx9) id) (Nat.le_of_ble_eq_true rfl) (Nat.le_of_ble_eq_true rfl) (Nat.le_of_ble_eq_true rfl) (Nat.le_of_ble_eq_true rfl) hlocks (gXC.mk (Or.inr ⟨rfl, (by omega), (by unfold okEle; omega)⟩) rfl hG hS) hS.2.2 (Nat.le_of_ble_eq_true rfl) (Nat.le_of_ble_eq_true rfl)
      · exfalso; omega
    · rw [hs1]
      simp only [va_rf]
      refine lv_astore (lv' := [(4, .ref a1), (0, .ref (ad 0)), (1, .int (zI p1)), (2, .int (zI p2))]) hx hb dX11_element_23 hl (by decide) rfl (fun ls hl => ?_)
      refine lv_aload hx hb dX11_element_25 (lv_at hl 0 rfl) ?_
      rcases (show KD p1.toNat = 0 ∨ KD p1.toNat = 1 ∨ KD p1.toNat = 2 ∨ KD p1.toNat = 3 by omega) with hk0 | hk0 | hk0 | hk0
      · have hE8 : u.2.2.2.2 a1 = .inr (2, [.int (zI (NM p1.toNat)), .int (zI (SP p1.toNat)), .int (zI (LI p1.toNat)), .int (zI (FD p1.toNat))]) := by rw [hE1, hk0]; rfl
        obtain ⟨k9, hk9⟩ := va_pl_get (X := gFx cy ad jf u) (f := u.2.2.2.2) ha1
        refine g_instNo hx hb hown (hts (.classLink RX11 226 "StraitSwim$Row") (List.mem_cons_of_mem _ (List.mem_append_left _ (List.mem_append_left _ (List.mem_append_left _ (List.mem_append_left _ (List.mem_of_getElem? (i := 5) rfl))))))) hC.2.2.2.2.2.2.2.2.2.1 (va_recv (q := (RX3, TX3, 4)) hC.1 hG.1 rfl (hk9.trans (by rw [hE8]))) dX11_element_27 ?_
        refine z_if_eq (tgt := 54) hx hb dX11_element_30 (by decide) (by omega) (by omega) (fun c_9 => ?_) (fun c_9 => ?_)
        · obtain ⟨sa, hsa⟩ := hTh.2.1.2.2.1
          exact vx_throwS (A := A) (names := xNs) (cls := xIS) (ic := 240) hx hb hl9 hown (by decide +kernel) (by decide +kernel) (hts (.classLink RX11 236 "java/lang/IllegalStateException") (List.mem_cons_of_mem _ (List.mem_append_left _ (List.mem_append_left _ (List.mem_append_left _ (List.mem_append_left _ (List.mem_of_getElem? (i := 2) rfl))))))) (hts (.initialized "java/lang/IllegalStateException") (List.mem_cons_of_mem _ (List.mem_append_left _ (List.mem_append_left _ (List.mem_append_left _ (List.mem_append_left _ (List.mem_of_getElem? (i := 3) rfl))))))) hsa (vx_hat (fun w hw => hts w (List.mem_cons_of_mem _ (List.mem_append_right _ hw))) xb_1 (xB_IS hTh)) xg_1 hTh.1.1 hTh.1.2 hS (hl.1.trans hml.symm) dX11_element_54 dX11_element_57 dX11_element_58 dX11_element_60 dX11_element_63 (fun x hx9 => absurd (htab x hx9) id) (Nat.le_of_ble_eq_true rfl) (Nat.le_of_ble_eq_true rfl) (Nat.le_of_ble_eq_true rfl) (Nat.le_of_ble_eq_true rfl) hlocks (gXC.mk (Or.inr ⟨rfl, (by omega), (by unfold okEle; omega)⟩) rfl hG hS) hS.2.2 (Nat.le_of_ble_eq_true rfl) (Nat.le_of_ble_eq_true rfl)
        · exfalso; omega
      · have hE10 : u.2.2.2.2 a1 = .inr (0, [.int (zI (NM p1.toNat)), .int (zI (SP p1.toNat)), .int (zI (LI p1.toNat)), .int (zI (FD p1.toNat))]) := by rw [hE1, hk0]; rfl
        obtain ⟨k9, hk9⟩ := va_pl_get (X := gFx cy ad jf u) (f := u.2.2.2.2) ha1
        refine g_instNo hx hb hown (hts (.classLink RX11 226 "StraitSwim$Row") (List.mem_cons_of_mem _ (List.mem_append_left _ (List.mem_append_left _ (List.mem_append_left _ (List.mem_append_left _ (List.mem_of_getElem? (i := 5) rfl))))))) hC.2.2.2.2.2.2.2.2.1 (va_recv (q := (RX0, TX0, 4)) hC.1 hG.1 rfl (hk9.trans (by rw [hE10]))) dX11_element_27 ?_
        refine z_if_eq (tgt := 54) hx hb dX11_element_30 (by decide) (by omega) (by omega) (fun c_11 => ?_) (fun c_11 => ?_)
        · obtain ⟨sa, hsa⟩ := hTh.2.1.2.2.1
          exact vx_throwS (A := A) (names := xNs) (cls := xIS) (ic := 240) hx hb hl9 hown (by decide +kernel) (by decide +kernel) (hts (.classLink RX11 236 "java/lang/IllegalStateException") (List.mem_cons_of_mem _ (List.mem_append_left _ (List.mem_append_left _ (List.mem_append_left _ (List.mem_append_left _ (List.mem_of_getElem? (i := 2) rfl))))))) (hts (.initialized "java/lang/IllegalStateException") (List.mem_cons_of_mem _ (List.mem_append_left _ (List.mem_append_left _ (List.mem_append_left _ (List.mem_append_left _ (List.mem_of_getElem? (i := 3) rfl))))))) hsa (vx_hat (fun w hw => hts w (List.mem_cons_of_mem _ (List.mem_append_right _ hw))) xb_1 (xB_IS hTh)) xg_1 hTh.1.1 hTh.1.2 hS (hl.1.trans hml.symm) dX11_element_54 dX11_element_57 dX11_element_58 dX11_element_60 dX11_element_63 (fun x hx9 => absurd (htab x hx9) id) (Nat.le_of_ble_eq_true rfl) (Nat.le_of_ble_eq_true rfl) (Nat.le_of_ble_eq_true rfl) (Nat.le_of_ble_eq_true rfl) hlocks (gXC.mk (Or.inr ⟨rfl, (by omega), (by unfold okEle; omega)⟩) rfl hG hS) hS.2.2 (Nat.le_of_ble_eq_true rfl) (Nat.le_of_ble_eq_true rfl)
        · exfalso; omega
      · have hE12 : u.2.2.2.2 a1 = .inr (3, [.int (zI (NM p1.toNat)), .int (zI (SP p1.toNat)), .int (zI (LI p1.toNat)), .int (zI (FD p1.toNat))]) := by rw [hE1, hk0]; rfl
        obtain ⟨k9, hk9⟩ := va_pl_get (X := gFx cy ad jf u) (f := u.2.2.2.2) ha1
        refine g_instNo hx hb hown (hts (.classLink RX11 226 "StraitSwim$Row") (List.mem_cons_of_mem _ (List.mem_append_left _ (List.mem_append_left _ (List.mem_append_left _ (List.mem_append_left _ (List.mem_of_getElem? (i := 5) rfl))))))) hC.2.2.2.2.2.2.2.2.2.2.1 (va_recv (q := (RX4, TX4, 4)) hC.1 hG.1 rfl (hk9.trans (by rw [hE12]))) dX11_element_27 ?_
        refine z_if_eq (tgt := 54) hx hb dX11_element_30 (by decide) (by omega) (by omega) (fun c_13 => ?_) (fun c_13 => ?_)
        · obtain ⟨sa, hsa⟩ := hTh.2.1.2.2.1
          exact vx_throwS (A := A) (names := xNs) (cls := xIS) (ic := 240) hx hb hl9 hown (by decide +kernel) (by decide +kernel) (hts (.classLink RX11 236 "java/lang/IllegalStateException") (List.mem_cons_of_mem _ (List.mem_append_left _ (List.mem_append_left _ (List.mem_append_left _ (List.mem_append_left _ (List.mem_of_getElem? (i := 2) rfl))))))) (hts (.initialized "java/lang/IllegalStateException") (List.mem_cons_of_mem _ (List.mem_append_left _ (List.mem_append_left _ (List.mem_append_left _ (List.mem_append_left _ (List.mem_of_getElem? (i := 3) rfl))))))) hsa (vx_hat (fun w hw => hts w (List.mem_cons_of_mem _ (List.mem_append_right _ hw))) xb_1 (xB_IS hTh)) xg_1 hTh.1.1 hTh.1.2 hS (hl.1.trans hml.symm) dX11_element_54 dX11_element_57 dX11_element_58 dX11_element_60 dX11_element_63 (fun x hx9 => absurd (htab x hx9) id) (Nat.le_of_ble_eq_true rfl) (Nat.le_of_ble_eq_true rfl) (Nat.le_of_ble_eq_true rfl) (Nat.le_of_ble_eq_true rfl) hlocks (gXC.mk (Or.inr ⟨rfl, (by omega), (by unfold okEle; omega)⟩) rfl hG hS) hS.2.2 (Nat.le_of_ble_eq_true rfl) (Nat.le_of_ble_eq_true rfl)
        · exfalso; omega
      · have hE14 : u.2.2.2.2 a1 = .inr (5, [.int (zI (NM p1.toNat)), .int (zI (SP p1.toNat)), .int (zI (LI p1.toNat)), .int (zI (FD p1.toNat))]) := by rw [hE1, hk0]; rfl
        obtain ⟨k9, hk9⟩ := va_pl_get (X := gFx cy ad jf u) (f := u.2.2.2.2) ha1
        refine g_instNo hx hb hown (hts (.classLink RX11 226 "StraitSwim$Row") (List.mem_cons_of_mem _ (List.mem_append_left _ (List.mem_append_left _ (List.mem_append_left _ (List.mem_append_left _ (List.mem_of_getElem? (i := 5) rfl))))))) hC.2.2.2.2.2.2.2.2.2.2.2 (va_recv (q := (RX6, TX6, 4)) hC.1 hG.1 rfl (hk9.trans (by rw [hE14]))) dX11_element_27 ?_
        refine z_if_eq (tgt := 54) hx hb dX11_element_30 (by decide) (by omega) (by omega) (fun c_15 => ?_) (fun c_15 => ?_)
        · obtain ⟨sa, hsa⟩ := hTh.2.1.2.2.1
          exact vx_throwS (A := A) (names := xNs) (cls := xIS) (ic := 240) hx hb hl9 hown (by decide +kernel) (by decide +kernel) (hts (.classLink RX11 236 "java/lang/IllegalStateException") (List.mem_cons_of_mem _ (List.mem_append_left _ (List.mem_append_left _ (List.mem_append_left _ (List.mem_append_left _ (List.mem_of_getElem? (i := 2) rfl))))))) (hts (.initialized "java/lang/IllegalStateException") (List.mem_cons_of_mem _ (List.mem_append_left _ (List.mem_append_left _ (List.mem_append_left _ (List.mem_append_left _ (List.mem_of_getElem? (i := 3) rfl))))))) hsa (vx_hat (fun w hw => hts w (List.mem_cons_of_mem _ (List.mem_append_right _ hw))) xb_1 (xB_IS hTh)) xg_1 hTh.1.1 hTh.1.2 hS (hl.1.trans hml.symm) dX11_element_54 dX11_element_57 dX11_element_58 dX11_element_60 dX11_element_63 (fun x hx9 => absurd (htab x hx9) id) (Nat.le_of_ble_eq_true rfl) (Nat.le_of_ble_eq_true rfl) (Nat.le_of_ble_eq_true rfl) (Nat.le_of_ble_eq_true rfl) hlocks (gXC.mk (Or.inr ⟨rfl, (by omega), (by unfold okEle; omega)⟩) rfl hG hS) hS.2.2 (Nat.le_of_ble_eq_true rfl) (Nat.le_of_ble_eq_true rfl)
        · exfalso; omega
    · rw [hs1]
      simp only [va_rf]
      refine lv_astore (lv' := [(4, .ref a1), (0, .ref (ad 0)), (1, .int (zI p1)), (2, .int (zI p2))]) hx hb dX11_element_23 hl (by decide) rfl (fun ls hl => ?_)
      refine lv_aload hx hb dX11_element_25 (lv_at hl 0 rfl) ?_
      obtain ⟨k9, hk9⟩ := va_pl_get (X := gFx cy ad jf u) (f := u.2.2.2.2) ha1
      refine g_instS hx hb hown (hts (.classLink RX11 226 "StraitSwim$Row") (List.mem_cons_of_mem _ (List.mem_append_left _ (List.mem_append_left _ (List.mem_append_left _ (List.mem_append_left _ (List.mem_of_getElem? (i := 5) rfl))))))) (hC.1.1 4 _ rfl).2 (va_recv (q := (RX5, TX5, 2)) hC.1 hG.1 rfl (hk9.trans (by rw [hE1]))) dX11_element_27 ?_
      refine z_if_eq (tgt := 54) hx hb dX11_element_30 (by decide) (by omega) (by omega) (fun c_16 => ?_) (fun c_16 => ?_)
      · exfalso; omega
      · refine lv_aload hx hb dX11_element_33 (lv_at hl 0 rfl) ?_
        obtain ⟨k9, hk9⟩ := va_pl_get (X := gFx cy ad jf u) (f := u.2.2.2.2) ha1
        refine va_castS hx hb hown (hts (.classLink RX11 226 "StraitSwim$Row") (List.mem_cons_of_mem _ (List.mem_append_left _ (List.mem_append_left _ (List.mem_append_left _ (List.mem_append_left _ (List.mem_of_getElem? (i := 5) rfl))))))) (hC.1.1 4 _ rfl).2 (va_recv (q := (RX5, TX5, 2)) hC.1 hG.1 rfl (hk9.trans (by rw [hE1]))) dX11_element_35 ?_
        refine lv_astore_n (lv' := [(3, .ref a1), (4, .ref a1), (0, .ref (ad 0)), (1, .int (zI p1)), (2, .int (zI p2))]) hx hb dX11_element_38 rfl hl (by decide) rfl (fun ls hl => ?_)
        refine lv_iload_n hx hb dX11_element_39 rfl (lv_at hl 4 rfl) ?_
        refine z_iconst hx hb dX11_element_40 ?_
        refine lv_aload_n hx hb dX11_element_41 rfl (lv_at hl 0 rfl) ?_
        obtain ⟨k9, hk9⟩ := va_pl_get (X := gFx cy ad jf u) (f := u.2.2.2.2) ha1
        refine va_get (C := RX5) (T := TX5) (N := 2) (ci := 4) hx hb hts (fun _ h => (List.mem_cons_of_mem _ (List.mem_append_left _ (List.mem_append_left _ (List.mem_append_right _ h))))) hown hC.1 hG.1 k9 (hk9.trans (by rw [hE1])) rfl 1 (by decide) (hts (.fieldLink RX11 233 "StraitSwim$Row" "items" "[S") (List.mem_cons_of_mem _ (List.mem_append_left _ (List.mem_append_left _ (List.mem_append_left _ (List.mem_append_left _ (List.mem_of_getElem? (i := 6) rfl))))))) (fun _ h9 => h9) rfl dX11_element_42 ?_
        refine g_alenP hx hb hC.1 hG hb1 hEb1 dX11_element_45 ?_
        refine z_iconst hx hb dX11_element_46 ?_
        refine z_isub hx hb dX11_element_47 ?_
        refine g_calli (va_runS (As := [.int (zI p2), .int (zI 0), .int (zI (((NN p1.toNat : Int)) - 1))]) (rest := []) ⟨hx, hb, hml, hown, hts⟩ (kX11_isWithin l D cy ad jf A u p2 0 (((NN p1.toNat : Int)) - 1) (by omega) (by omega) (by omega)) (va_cwS 3 hts gX11_element_X11_isWithin rfl rfl rfl (by decide +kernel) ⟨by decide, by decide⟩) (g_preS hG hC hS) rfl rfl hl.1 rfl (lv_room (Nat.le_of_ble_eq_true rfl)) dX11_element_48 ⟨Nat.le_of_ble_eq_true rfl, Nat.le_of_ble_eq_true rfl⟩) hS (fun r17 u18 H locs p_19 hG hS => ?_)
        obtain ⟨⟨b20, rfl, q_21⟩, he_⟩ := p_19
        rw [he_] at hG; clear he_
        have hbb20 : 0 ≤ b20 ∧ b20 ≤ 1 := by rcases q_21 with ⟨h, _⟩ | ⟨h, _⟩ <;> omega
        refine z_if_ne (tgt := 64) hx hb dX11_element_51 (by decide) (by omega) (by omega) (fun c_22 => ?_) (fun c_22 => ?_)
        · refine lv_aload_n hx hb dX11_element_64 rfl (lv_at hl 0 rfl) ?_
          obtain ⟨k9, hk9⟩ := va_pl_get (X := gFx cy ad jf u) (f := u.2.2.2.2) ha1
          refine va_get (C := RX5) (T := TX5) (N := 2) (ci := 4) hx hb hts (fun _ h => (List.mem_cons_of_mem _ (List.mem_append_left _ (List.mem_append_left _ (List.mem_append_right _ h))))) hown hC.1 hG.1 k9 (hk9.trans (by rw [hE1])) rfl 1 (by decide) (hts (.fieldLink RX11 233 "StraitSwim$Row" "items" "[S") (List.mem_cons_of_mem _ (List.mem_append_left _ (List.mem_append_left _ (List.mem_append_left _ (List.mem_append_left _ (List.mem_of_getElem? (i := 6) rfl))))))) (fun _ h9 => h9) rfl dX11_element_65 ?_
          refine lv_iload_n hx hb dX11_element_68 rfl (lv_at hl 4 rfl) ?_
          refine g_saldP (n := NN p1.toNat) (g := GG p1.toNat) (z := p2) hx hb hC.1 hG hb1 hEb1 (by omega) (by omega) (by omega) dX11_element_69 ?_
          refine lv_i2l (v := (zI ((GG p1.toNat) p2.toNat)).toInt64) hx hb dX11_element_70 rfl ?_
          refine W.widen (k := 1) (n := 6) (Nat.le_of_ble_eq_true rfl) (Nat.le_of_ble_eq_true rfl) ?_
          refine vx_ret ?_
          exact W.lret (v := (zI ((GG p1.toNat) p2.toNat)).toInt64) hx hb hr (fun t9 ht9_ hW => ⟨⟨(zI ((GG p1.toNat) p2.toNat)).toInt64, u, rfl, (by exact ⟨⟨(by omega), (by unfold okEle; omega)⟩, rfl, rfl⟩), gB.mk' hG hC hS ht9_ hW⟩, hS.F ht9_⟩) hS.2.2 dX11_element_71
        · obtain ⟨sa, hsa⟩ := hTh.2.1.2.2.1
          exact vx_throwS (A := A) (names := xNs) (cls := xIS) (ic := 240) hx hb hl9 hown (by decide +kernel) (by decide +kernel) (hts (.classLink RX11 236 "java/lang/IllegalStateException") (List.mem_cons_of_mem _ (List.mem_append_left _ (List.mem_append_left _ (List.mem_append_left _ (List.mem_append_left _ (List.mem_of_getElem? (i := 2) rfl))))))) (hts (.initialized "java/lang/IllegalStateException") (List.mem_cons_of_mem _ (List.mem_append_left _ (List.mem_append_left _ (List.mem_append_left _ (List.mem_append_left _ (List.mem_of_getElem? (i := 3) rfl))))))) hsa (vx_hat (fun w hw => hts w (List.mem_cons_of_mem _ (List.mem_append_right _ hw))) xb_1 (xB_IS hTh)) xg_1 hTh.1.1 hTh.1.2 hS (hl.1.trans hml.symm) dX11_element_54 dX11_element_57 dX11_element_58 dX11_element_60 dX11_element_63 (fun x hx9 => absurd (htab x hx9) id) (Nat.le_of_ble_eq_true rfl) (Nat.le_of_ble_eq_true rfl) (Nat.le_of_ble_eq_true rfl) (Nat.le_of_ble_eq_true rfl) hlocks (gXC.mk (Or.inr ⟨rfl, (by omega), (by unfold okEle; omega)⟩) rfl hG hS) hS.2.2 (Nat.le_of_ble_eq_true rfl) (Nat.le_of_ble_eq_true rfl)
  · obtain ⟨sa, hsa⟩ := hTh.2.1.2.1
    exact vx_throwS (A := A) (names := xNs) (cls := xIA) (ic := 101) hx hb hl9 hown (by decide +kernel) (by decide +kernel) (hts (.classLink RX11 97 "java/lang/IllegalArgumentException") (List.mem_cons_of_mem _ (List.mem_append_left _ (List.mem_append_left _ (List.mem_append_left _ (List.mem_append_left _ (List.mem_of_getElem? (i := 0) rfl))))))) (hts (.initialized "java/lang/IllegalArgumentException") (List.mem_cons_of_mem _ (List.mem_append_left _ (List.mem_append_left _ (List.mem_append_left _ (List.mem_append_left _ (List.mem_of_getElem? (i := 1) rfl))))))) hsa (vx_hat (fun w hw => hts w (List.mem_cons_of_mem _ (List.mem_append_left _ (List.mem_append_right _ hw)))) xb_0 (xB_IA hTh)) xg_0 hTh.1.1 hTh.1.2 hS (hl.1.trans hml.symm) dX11_element_7 dX11_element_10 dX11_element_11 dX11_element_13 dX11_element_16 (fun x hx9 => absurd (htab x hx9) id) (Nat.le_of_ble_eq_true rfl) (Nat.le_of_ble_eq_true rfl) (Nat.le_of_ble_eq_true rfl) (Nat.le_of_ble_eq_true rfl) hlocks (gXC.mk (Or.inl ⟨rfl, (by omega)⟩) rfl hG hS) hS.2.2 (Nat.le_of_ble_eq_true rfl) (Nat.le_of_ble_eq_true rfl)
