section GD
variable {s : State} {H : Heap} {locs : List Loc} {D : va_G} {cy : Nat → ClassId} {ad : Nat → Nat} {jf : Nat → Int64} {A : Nat → Prop} {u : gS}
theorem g_preD (hG : gH D cy ad jf A u H) (hC : gC D cy A s) (hS : va_S A s.heap H locs) {As : List Value} {k a : Nat} {ci : Nat} {fs : List Value} {C : String} {T : u_T} {N : Nat} (he : (gW cy ad jf u)[k]? = some (a, .inr (ci, fs))) (hc : vwCl[ci]? = some (C, T, N)) : PreV s H C a (va_Pc (.ref a :: As) (gB D cy ad jf A u)) As :=
  ⟨g_blind, va_recv hC.1 hG.1 hc he, fun U hU hW => ⟨rfl, gB.mk' hG hC hS hU hW⟩⟩
end GD
set_option maxHeartbeats 4000000 in
set_option maxRecDepth 100000 in
theorem kX3_kind_X3 (l : Launch) (D : va_G) (cy : Nat → ClassId) (ad : Nat → Nat) (jf : Nat → Int64) (A : Nat → Prop) (u : gS) (a : Nat) (nm sp li fd : Int) (ha : a ∈ u.2.2.2.1) (hE : u.2.2.2.2 a = .inr (2, [.int (zI nm), .int (zI sp), .int (zI li), .int (zI fd)])) : Met l yX3_kind wsX3_kind ({ frames := 0, cells := 0, slots := 0, locals := 0 }) (va_Pc [.ref a] (gB D cy ad jf A u)) (va_Qi (fun (r : Int32) (v : gS) => r = zI (0) ∧ v = u) (gB D cy ad jf A) A) 0 0 A := by
  refine Met.ofW (cc := cX3_kind) (maxL := 1) (ret := (some .int)) (by decide) rfl ?_
  intro p e s m args below meth c s₁ B hml hv
  obtain ⟨rfl, hG, hC⟩ := hv
  have hx := B.exec
  have hb := B.bytes
  have hr := B.returns
  have hts := atoms_spec (ws := wsX3_kind) B.pre
  have hown : s.vm.findClass RX3 = some m.cls := findClass_of_methodNamed B.named
  have hlocks := B.notSynchronized
  have hS : va_S A s.heap s.heap [] := va_S.rf
  have hl := lv_entry ([.ref a]) (n := 1) (Nat.le_of_ble_eq_true rfl)
  rw [lg_entry_eq]
  generalize (lg_sl ([.ref a]) ++ List.replicate (1 - (lg_sl ([.ref a])).length) Slot.unset).toArray = ls at hl ⊢
  have hl : lv_has ls 1 [(0, .ref a)] := hl
  refine z_iconst hx hb dX3_kind_0 ?_
  exact W.iret (v := zI 0) hx hb hr (fun t9 ht9_ hW => ⟨⟨zI 0, u, rfl, (by refine ⟨?_, rfl⟩; subst_vars; first | rfl | (congr 1; omega)), gB.mk' hG hC hS ht9_ hW⟩, hS.F ht9_⟩) hS.2.2 dX3_kind_1
set_option maxHeartbeats 4000000 in
set_option maxRecDepth 100000 in
theorem kX0_kind_X0 (l : Launch) (D : va_G) (cy : Nat → ClassId) (ad : Nat → Nat) (jf : Nat → Int64) (A : Nat → Prop) (u : gS) (a : Nat) (nm sp li fd : Int) (ha : a ∈ u.2.2.2.1) (hE : u.2.2.2.2 a = .inr (0, [.int (zI nm), .int (zI sp), .int (zI li), .int (zI fd)])) : Met l yX0_kind wsX0_kind ({ frames := 0, cells := 0, slots := 0, locals := 0 }) (va_Pc [.ref a] (gB D cy ad jf A u)) (va_Qi (fun (r : Int32) (v : gS) => r = zI (1) ∧ v = u) (gB D cy ad jf A) A) 0 0 A := by
  refine Met.ofW (cc := cX0_kind) (maxL := 1) (ret := (some .int)) (by decide) rfl ?_
  intro p e s m args below meth c s₁ B hml hv
  obtain ⟨rfl, hG, hC⟩ := hv
  have hx := B.exec
  have hb := B.bytes
  have hr := B.returns
  have hts := atoms_spec (ws := wsX0_kind) B.pre
  have hown : s.vm.findClass RX0 = some m.cls := findClass_of_methodNamed B.named
  have hlocks := B.notSynchronized
  have hS : va_S A s.heap s.heap [] := va_S.rf
  have hl := lv_entry ([.ref a]) (n := 1) (Nat.le_of_ble_eq_true rfl)
  rw [lg_entry_eq]
  generalize (lg_sl ([.ref a]) ++ List.replicate (1 - (lg_sl ([.ref a])).length) Slot.unset).toArray = ls at hl ⊢
  have hl : lv_has ls 1 [(0, .ref a)] := hl
  refine z_iconst hx hb dX0_kind_0 ?_
  exact W.iret (v := zI 1) hx hb hr (fun t9 ht9_ hW => ⟨⟨zI 1, u, rfl, (by refine ⟨?_, rfl⟩; subst_vars; first | rfl | (congr 1; omega)), gB.mk' hG hC hS ht9_ hW⟩, hS.F ht9_⟩) hS.2.2 dX0_kind_1
set_option maxHeartbeats 4000000 in
set_option maxRecDepth 100000 in
theorem kX4_kind_X4 (l : Launch) (D : va_G) (cy : Nat → ClassId) (ad : Nat → Nat) (jf : Nat → Int64) (A : Nat → Prop) (u : gS) (a : Nat) (nm sp li fd : Int) (ha : a ∈ u.2.2.2.1) (hE : u.2.2.2.2 a = .inr (3, [.int (zI nm), .int (zI sp), .int (zI li), .int (zI fd)])) : Met l yX4_kind wsX4_kind ({ frames := 0, cells := 0, slots := 0, locals := 0 }) (va_Pc [.ref a] (gB D cy ad jf A u)) (va_Qi (fun (r : Int32) (v : gS) => r = zI (2) ∧ v = u) (gB D cy ad jf A) A) 0 0 A := by
  refine Met.ofW (cc := cX4_kind) (maxL := 1) (ret := (some .int)) (by decide) rfl ?_
  intro p e s m args below meth c s₁ B hml hv
  obtain ⟨rfl, hG, hC⟩ := hv
  have hx := B.exec
  have hb := B.bytes
  have hr := B.returns
  have hts := atoms_spec (ws := wsX4_kind) B.pre
  have hown : s.vm.findClass RX4 = some m.cls := findClass_of_methodNamed B.named
  have hlocks := B.notSynchronized
  have hS : va_S A s.heap s.heap [] := va_S.rf
  have hl := lv_entry ([.ref a]) (n := 1) (Nat.le_of_ble_eq_true rfl)
  rw [lg_entry_eq]
  generalize (lg_sl ([.ref a]) ++ List.replicate (1 - (lg_sl ([.ref a])).length) Slot.unset).toArray = ls at hl ⊢
  have hl : lv_has ls 1 [(0, .ref a)] := hl
  refine z_iconst hx hb dX4_kind_0 ?_
  exact W.iret (v := zI 2) hx hb hr (fun t9 ht9_ hW => ⟨⟨zI 2, u, rfl, (by refine ⟨?_, rfl⟩; subst_vars; first | rfl | (congr 1; omega)), gB.mk' hG hC hS ht9_ hW⟩, hS.F ht9_⟩) hS.2.2 dX4_kind_1
set_option maxHeartbeats 4000000 in
set_option maxRecDepth 100000 in
theorem kX6_kind_X6 (l : Launch) (D : va_G) (cy : Nat → ClassId) (ad : Nat → Nat) (jf : Nat → Int64) (A : Nat → Prop) (u : gS) (a : Nat) (nm sp li fd : Int) (ha : a ∈ u.2.2.2.1) (hE : u.2.2.2.2 a = .inr (5, [.int (zI nm), .int (zI sp), .int (zI li), .int (zI fd)])) : Met l yX6_kind wsX6_kind ({ frames := 0, cells := 0, slots := 0, locals := 0 }) (va_Pc [.ref a] (gB D cy ad jf A u)) (va_Qi (fun (r : Int32) (v : gS) => r = zI (3) ∧ v = u) (gB D cy ad jf A) A) 0 0 A := by
  refine Met.ofW (cc := cX6_kind) (maxL := 1) (ret := (some .int)) (by decide) rfl ?_
  intro p e s m args below meth c s₁ B hml hv
  obtain ⟨rfl, hG, hC⟩ := hv
  have hx := B.exec
  have hb := B.bytes
  have hr := B.returns
  have hts := atoms_spec (ws := wsX6_kind) B.pre
  have hown : s.vm.findClass RX6 = some m.cls := findClass_of_methodNamed B.named
  have hlocks := B.notSynchronized
  have hS : va_S A s.heap s.heap [] := va_S.rf
  have hl := lv_entry ([.ref a]) (n := 1) (Nat.le_of_ble_eq_true rfl)
  rw [lg_entry_eq]
  generalize (lg_sl ([.ref a]) ++ List.replicate (1 - (lg_sl ([.ref a])).length) Slot.unset).toArray = ls at hl ⊢
  have hl : lv_has ls 1 [(0, .ref a)] := hl
  refine z_iconst hx hb dX6_kind_0 ?_
  exact W.iret (v := zI 3) hx hb hr (fun t9 ht9_ hW => ⟨⟨zI 3, u, rfl, (by refine ⟨?_, rfl⟩; subst_vars; first | rfl | (congr 1; omega)), gB.mk' hG hC hS ht9_ hW⟩, hS.F ht9_⟩) hS.2.2 dX6_kind_1
set_option maxHeartbeats 4000000 in
set_option maxRecDepth 100000 in
theorem kX3_coldIn_X3 (l : Launch) (D : va_G) (cy : Nat → ClassId) (ad : Nat → Nat) (jf : Nat → Int64) (A : Nat → Prop) (u : gS) (a : Nat) (nm sp li fd : Int) (p1 p2 : Int) (ha : a ∈ u.2.2.2.1) (hE : u.2.2.2.2 a = .inr (2, [.int (zI nm), .int (zI sp), .int (zI li), .int (zI fd)])) (j_t : 0 ≤ p1 ∧ p1 ≤ 1000) (j_c : 0 ≤ p2 ∧ p2 ≤ 20) : Met l yX3_coldIn wsX3_coldIn ({ frames := 0, cells := 0, slots := 0, locals := 0 }) (va_Pc [.ref a, .int (zI p1), .int (zI p2)] (gB D cy ad jf A u)) (va_Qi (fun (r : Int32) (v : gS) => r = zI (p2 + p1 / 8) ∧ v = u) (gB D cy ad jf A) A) 0 0 A := by
  refine Met.ofW (cc := cX3_coldIn) (maxL := 3) (ret := (some .int)) (by decide) rfl ?_
  intro p e s m args below meth c s₁ B hml hv
  obtain ⟨rfl, hG, hC⟩ := hv
  have hx := B.exec
  have hb := B.bytes
  have hr := B.returns
  have hts := atoms_spec (ws := wsX3_coldIn) B.pre
  have hown : s.vm.findClass RX3 = some m.cls := findClass_of_methodNamed B.named
  have hlocks := B.notSynchronized
  have hS : va_S A s.heap s.heap [] := va_S.rf
  have hl := lv_entry ([.ref a, .int (zI p1), .int (zI p2)]) (n := 3) (Nat.le_of_ble_eq_true rfl)
  rw [lg_entry_eq]
  generalize (lg_sl ([.ref a, .int (zI p1), .int (zI p2)]) ++ List.replicate (3 - (lg_sl ([.ref a, .int (zI p1), .int (zI p2)])).length) Slot.unset).toArray = ls at hl ⊢
  have hl : lv_has ls 3 [(0, .ref a), (1, .int (zI p1)), (2, .int (zI p2))] := hl
  refine lv_iload_n hx hb dX3_coldIn_0 rfl (lv_at hl 2 rfl) ?_
  refine lv_iload_n hx hb dX3_coldIn_1 rfl (lv_at hl 1 rfl) ?_
  refine z_bipush hx hb dX3_coldIn_2 (by decide) ?_
  refine z_idiv hx hb dX3_coldIn_4 (by omega) (by omega) (by omega) (by omega) ?_
  refine z_iadd hx hb dX3_coldIn_5 ?_
  exact W.iret (v := zI (p2 + (p1 / 8))) hx hb hr (fun t9 ht9_ hW => ⟨⟨zI (p2 + (p1 / 8)), u, rfl, (by refine ⟨?_, rfl⟩; subst_vars; first | rfl | (congr 1; omega)), gB.mk' hG hC hS ht9_ hW⟩, hS.F ht9_⟩) hS.2.2 dX3_coldIn_6
set_option maxHeartbeats 4000000 in
set_option maxRecDepth 100000 in
theorem kX3_coldIn_X0 (l : Launch) (D : va_G) (cy : Nat → ClassId) (ad : Nat → Nat) (jf : Nat → Int64) (A : Nat → Prop) (u : gS) (a : Nat) (nm sp li fd : Int) (p1 p2 : Int) (ha : a ∈ u.2.2.2.1) (hE : u.2.2.2.2 a = .inr (0, [.int (zI nm), .int (zI sp), .int (zI li), .int (zI fd)])) (j_t : 0 ≤ p1 ∧ p1 ≤ 1000) (j_c : 0 ≤ p2 ∧ p2 ≤ 20) : Met l yX3_coldIn wsX3_coldIn ({ frames := 0, cells := 0, slots := 0, locals := 0 }) (va_Pc [.ref a, .int (zI p1), .int (zI p2)] (gB D cy ad jf A u)) (va_Qi (fun (r : Int32) (v : gS) => r = zI (p2 + p1 / 8) ∧ v = u) (gB D cy ad jf A) A) 0 0 A := by
  refine Met.ofW (cc := cX3_coldIn) (maxL := 3) (ret := (some .int)) (by decide) rfl ?_
  intro p e s m args below meth c s₁ B hml hv
  obtain ⟨rfl, hG, hC⟩ := hv
  have hx := B.exec
  have hb := B.bytes
  have hr := B.returns
  have hts := atoms_spec (ws := wsX3_coldIn) B.pre
  have hown : s.vm.findClass RX3 = some m.cls := findClass_of_methodNamed B.named
  have hlocks := B.notSynchronized
  have hS : va_S A s.heap s.heap [] := va_S.rf
  have hl := lv_entry ([.ref a, .int (zI p1), .int (zI p2)]) (n := 3) (Nat.le_of_ble_eq_true rfl)
  rw [lg_entry_eq]
  generalize (lg_sl ([.ref a, .int (zI p1), .int (zI p2)]) ++ List.replicate (3 - (lg_sl ([.ref a, .int (zI p1), .int (zI p2)])).length) Slot.unset).toArray = ls at hl ⊢
  have hl : lv_has ls 3 [(0, .ref a), (1, .int (zI p1)), (2, .int (zI p2))] := hl
  refine lv_iload_n hx hb dX3_coldIn_0 rfl (lv_at hl 2 rfl) ?_
  refine lv_iload_n hx hb dX3_coldIn_1 rfl (lv_at hl 1 rfl) ?_
  refine z_bipush hx hb dX3_coldIn_2 (by decide) ?_
  refine z_idiv hx hb dX3_coldIn_4 (by omega) (by omega) (by omega) (by omega) ?_
  refine z_iadd hx hb dX3_coldIn_5 ?_
  exact W.iret (v := zI (p2 + (p1 / 8))) hx hb hr (fun t9 ht9_ hW => ⟨⟨zI (p2 + (p1 / 8)), u, rfl, (by refine ⟨?_, rfl⟩; subst_vars; first | rfl | (congr 1; omega)), gB.mk' hG hC hS ht9_ hW⟩, hS.F ht9_⟩) hS.2.2 dX3_coldIn_6
set_option maxHeartbeats 4000000 in
set_option maxRecDepth 100000 in
theorem kX3_coldIn_X4 (l : Launch) (D : va_G) (cy : Nat → ClassId) (ad : Nat → Nat) (jf : Nat → Int64) (A : Nat → Prop) (u : gS) (a : Nat) (nm sp li fd : Int) (p1 p2 : Int) (ha : a ∈ u.2.2.2.1) (hE : u.2.2.2.2 a = .inr (3, [.int (zI nm), .int (zI sp), .int (zI li), .int (zI fd)])) (j_t : 0 ≤ p1 ∧ p1 ≤ 1000) (j_c : 0 ≤ p2 ∧ p2 ≤ 20) : Met l yX3_coldIn wsX3_coldIn ({ frames := 0, cells := 0, slots := 0, locals := 0 }) (va_Pc [.ref a, .int (zI p1), .int (zI p2)] (gB D cy ad jf A u)) (va_Qi (fun (r : Int32) (v : gS) => r = zI (p2 + p1 / 8) ∧ v = u) (gB D cy ad jf A) A) 0 0 A := by
  refine Met.ofW (cc := cX3_coldIn) (maxL := 3) (ret := (some .int)) (by decide) rfl ?_
  intro p e s m args below meth c s₁ B hml hv
  obtain ⟨rfl, hG, hC⟩ := hv
  have hx := B.exec
  have hb := B.bytes
  have hr := B.returns
  have hts := atoms_spec (ws := wsX3_coldIn) B.pre
  have hown : s.vm.findClass RX3 = some m.cls := findClass_of_methodNamed B.named
  have hlocks := B.notSynchronized
  have hS : va_S A s.heap s.heap [] := va_S.rf
  have hl := lv_entry ([.ref a, .int (zI p1), .int (zI p2)]) (n := 3) (Nat.le_of_ble_eq_true rfl)
  rw [lg_entry_eq]
  generalize (lg_sl ([.ref a, .int (zI p1), .int (zI p2)]) ++ List.replicate (3 - (lg_sl ([.ref a, .int (zI p1), .int (zI p2)])).length) Slot.unset).toArray = ls at hl ⊢
  have hl : lv_has ls 3 [(0, .ref a), (1, .int (zI p1)), (2, .int (zI p2))] := hl
  refine lv_iload_n hx hb dX3_coldIn_0 rfl (lv_at hl 2 rfl) ?_
  refine lv_iload_n hx hb dX3_coldIn_1 rfl (lv_at hl 1 rfl) ?_
  refine z_bipush hx hb dX3_coldIn_2 (by decide) ?_
  refine z_idiv hx hb dX3_coldIn_4 (by omega) (by omega) (by omega) (by omega) ?_
  refine z_iadd hx hb dX3_coldIn_5 ?_
  exact W.iret (v := zI (p2 + (p1 / 8))) hx hb hr (fun t9 ht9_ hW => ⟨⟨zI (p2 + (p1 / 8)), u, rfl, (by refine ⟨?_, rfl⟩; subst_vars; first | rfl | (congr 1; omega)), gB.mk' hG hC hS ht9_ hW⟩, hS.F ht9_⟩) hS.2.2 dX3_coldIn_6
set_option maxHeartbeats 4000000 in
set_option maxRecDepth 100000 in
theorem kX3_coldIn_X6 (l : Launch) (D : va_G) (cy : Nat → ClassId) (ad : Nat → Nat) (jf : Nat → Int64) (A : Nat → Prop) (u : gS) (a : Nat) (nm sp li fd : Int) (p1 p2 : Int) (ha : a ∈ u.2.2.2.1) (hE : u.2.2.2.2 a = .inr (5, [.int (zI nm), .int (zI sp), .int (zI li), .int (zI fd)])) (j_t : 0 ≤ p1 ∧ p1 ≤ 1000) (j_c : 0 ≤ p2 ∧ p2 ≤ 20) : Met l yX3_coldIn wsX3_coldIn ({ frames := 0, cells := 0, slots := 0, locals := 0 }) (va_Pc [.ref a, .int (zI p1), .int (zI p2)] (gB D cy ad jf A u)) (va_Qi (fun (r : Int32) (v : gS) => r = zI (p2 + p1 / 8) ∧ v = u) (gB D cy ad jf A) A) 0 0 A := by
  refine Met.ofW (cc := cX3_coldIn) (maxL := 3) (ret := (some .int)) (by decide) rfl ?_
  intro p e s m args below meth c s₁ B hml hv
  obtain ⟨rfl, hG, hC⟩ := hv
  have hx := B.exec
  have hb := B.bytes
  have hr := B.returns
  have hts := atoms_spec (ws := wsX3_coldIn) B.pre
  have hown : s.vm.findClass RX3 = some m.cls := findClass_of_methodNamed B.named
  have hlocks := B.notSynchronized
  have hS : va_S A s.heap s.heap [] := va_S.rf
  have hl := lv_entry ([.ref a, .int (zI p1), .int (zI p2)]) (n := 3) (Nat.le_of_ble_eq_true rfl)
  rw [lg_entry_eq]
  generalize (lg_sl ([.ref a, .int (zI p1), .int (zI p2)]) ++ List.replicate (3 - (lg_sl ([.ref a, .int (zI p1), .int (zI p2)])).length) Slot.unset).toArray = ls at hl ⊢
  have hl : lv_has ls 3 [(0, .ref a), (1, .int (zI p1)), (2, .int (zI p2))] := hl
  refine lv_iload_n hx hb dX3_coldIn_0 rfl (lv_at hl 2 rfl) ?_
  refine lv_iload_n hx hb dX3_coldIn_1 rfl (lv_at hl 1 rfl) ?_
  refine z_bipush hx hb dX3_coldIn_2 (by decide) ?_
  refine z_idiv hx hb dX3_coldIn_4 (by omega) (by omega) (by omega) (by omega) ?_
  refine z_iadd hx hb dX3_coldIn_5 ?_
  exact W.iret (v := zI (p2 + (p1 / 8))) hx hb hr (fun t9 ht9_ hW => ⟨⟨zI (p2 + (p1 / 8)), u, rfl, (by refine ⟨?_, rfl⟩; subst_vars; first | rfl | (congr 1; omega)), gB.mk' hG hC hS ht9_ hW⟩, hS.F ht9_⟩) hS.2.2 dX3_coldIn_6
set_option maxHeartbeats 4000000 in
set_option maxRecDepth 100000 in
theorem kX0_coldIn_X0 (l : Launch) (D : va_G) (cy : Nat → ClassId) (ad : Nat → Nat) (jf : Nat → Int64) (A : Nat → Prop) (u : gS) (a : Nat) (nm sp li fd : Int) (p1 p2 : Int) (ha : a ∈ u.2.2.2.1) (hE : u.2.2.2.2 a = .inr (0, [.int (zI nm), .int (zI sp), .int (zI li), .int (zI fd)])) (j_t : 0 ≤ p1 ∧ p1 ≤ 1000) (j_c : 0 ≤ p2 ∧ p2 ≤ 20) : Met l yX0_coldIn wsX0_coldIn ({ frames := 1, cells := 0, slots := 0, locals := 30 }) (va_Pc [.ref a, .int (zI p1), .int (zI p2)] (gB D cy ad jf A u)) (va_Qi (fun (r : Int32) (v : gS) => r = zI (spAt1 (p2 + p1 / 8 - 2)) ∧ v = u) (gB D cy ad jf A) A) 0 0 A := by
  refine Met.ofW (cc := cX0_coldIn) (maxL := 3) (ret := (some .int)) (by decide) rfl ?_
  intro p e s m args below meth c s₁ B hml hv
  obtain ⟨rfl, hG, hC⟩ := hv
  have hx := B.exec
  have hb := B.bytes
  have hr := B.returns
  have hts := atoms_spec (ws := wsX0_coldIn) B.pre
  have hown : s.vm.findClass RX0 = some m.cls := findClass_of_methodNamed B.named
  have hlocks := B.notSynchronized
  have hS : va_S A s.heap s.heap [] := va_S.rf
  have hl := lv_entry ([.ref a, .int (zI p1), .int (zI p2)]) (n := 3) (Nat.le_of_ble_eq_true rfl)
  rw [lg_entry_eq]
  generalize (lg_sl ([.ref a, .int (zI p1), .int (zI p2)]) ++ List.replicate (3 - (lg_sl ([.ref a, .int (zI p1), .int (zI p2)])).length) Slot.unset).toArray = ls at hl ⊢
  have hl : lv_has ls 3 [(0, .ref a), (1, .int (zI p1)), (2, .int (zI p2))] := hl
  refine z_iconst hx hb dX0_coldIn_0 ?_
  refine lv_aload_n hx hb dX0_coldIn_1 rfl (lv_at hl 0 rfl) ?_
  refine lv_iload_n hx hb dX0_coldIn_2 rfl (lv_at hl 1 rfl) ?_
  refine lv_iload_n hx hb dX0_coldIn_3 rfl (lv_at hl 2 rfl) ?_
  obtain ⟨k9, hk9⟩ := va_pl_get (X := gFx cy ad jf u) (f := u.2.2.2.2) ha
  refine g_calli (va_runSU (C := RX0) (hC.1.1 0 _ rfl).2 (As := [.int (zI p1), .int (zI p2)]) (rest := [.int (zI 1)]) ⟨hx, hb, hml, hown, hts⟩ (kX3_coldIn_X0 l D cy ad jf A u a nm sp li fd p1 p2 ha hE (by omega) (by omega)) (va_cwSU 2 hts gX0_coldIn_X3_coldIn_s9 rfl rfl rfl (by decide +kernel) ⟨by decide, by decide⟩) (g_preD (C := RX0) hG hC hS (hk9.trans (by rw [hE])) rfl) rfl rfl hl.1 rfl (lv_room (Nat.le_of_ble_eq_true rfl)) dX0_coldIn_4 ⟨Nat.le_of_ble_eq_true rfl, Nat.le_of_ble_eq_true rfl⟩) hS (fun r1 u2 H locs p_3 hG hS => ?_)
  obtain ⟨rfl, he_⟩ := p_3
  rw [he_] at hG; clear he_
  obtain ⟨z4, hz4⟩ : ∃ z : Int, z = p2 + p1 / 8 := ⟨_, rfl⟩
  rw [← hz4]
  have qz4 : 0 ≤ z4 ∧ z4 ≤ 145 := by rw [hz4]; (first | omega | (unfold spAt1; split <;> omega) | (unfold spAt1; split <;> split <;> omega) | (split <;> first | omega | (unfold spAt1; split <;> omega)) | (unfold spPace spPc spAt1; split <;> (first | omega | (split <;> first | omega | (split <;> omega)))))
  refine z_iconst hx hb dX0_coldIn_7 ?_
  refine z_isub hx hb dX0_coldIn_8 ?_
  refine va_mmax hx hb (hml.trans hl.1.symm) hown (hts (.methodLink RX0 13 Lib.Math.max.name) (List.mem_cons_of_mem _ (List.mem_of_getElem? (i := 0) rfl))) (hts (.static Lib.Math.max.name) (List.mem_cons_of_mem _ (List.mem_of_getElem? (i := 1) rfl))) (hts (.initialized "java/lang/Math") (List.mem_cons_of_mem _ (List.mem_of_getElem? (i := 2) rfl))) (hts (.code Lib.Math.max.name Lib.Math.max.code 2 (some .int)) (List.mem_cons_of_mem _ (List.mem_of_getElem? (i := 3) rfl))) (by decide) (by decide) (Nat.le_of_ble_eq_true rfl) (Nat.le_of_ble_eq_true rfl) dX0_coldIn_9 ?_
  rw [z_max (a := 1) (b := z4 - 2) (by omega) (by omega) (by omega) (by omega), show (if 1 < (z4 - 2) then (z4 - 2) else 1) = spAt1 (z4 - 2) by (unfold spAt1; split <;> split <;> omega)]
  obtain ⟨x5, hx5⟩ : ∃ z : Int, z = spAt1 (z4 - 2) := ⟨_, rfl⟩
  rw [← hx5]
  have qx5 : ((z4 - 2) < 1 ∧ x5 = 1) ∨ (1 ≤ (z4 - 2) ∧ x5 = (z4 - 2)) := by rw [hx5]; unfold spAt1; split <;> omega
  exact W.iret (v := zI x5) hx hb hr (fun t9 ht9_ hW => ⟨⟨zI x5, u, rfl, (by refine ⟨?_, rfl⟩; subst_vars; first | rfl | (congr 1; omega)), gB.mk' hG hC hS ht9_ hW⟩, hS.F ht9_⟩) hS.2.2 dX0_coldIn_12
set_option maxHeartbeats 4000000 in
set_option maxRecDepth 100000 in
theorem kX0_coldIn_X6 (l : Launch) (D : va_G) (cy : Nat → ClassId) (ad : Nat → Nat) (jf : Nat → Int64) (A : Nat → Prop) (u : gS) (a : Nat) (nm sp li fd : Int) (p1 p2 : Int) (ha : a ∈ u.2.2.2.1) (hE : u.2.2.2.2 a = .inr (5, [.int (zI nm), .int (zI sp), .int (zI li), .int (zI fd)])) (j_t : 0 ≤ p1 ∧ p1 ≤ 1000) (j_c : 0 ≤ p2 ∧ p2 ≤ 20) : Met l yX0_coldIn wsX0_coldIn ({ frames := 2, cells := 0, slots := 0, locals := 52 }) (va_Pc [.ref a, .int (zI p1), .int (zI p2)] (gB D cy ad jf A u)) (va_Qi (fun (r : Int32) (v : gS) => r = zI (spAt1 (p2 + p1 / 8 - 2)) ∧ v = u) (gB D cy ad jf A) A) 0 0 A := by
  refine Met.ofW (cc := cX0_coldIn) (maxL := 3) (ret := (some .int)) (by decide) rfl ?_
  intro p e s m args below meth c s₁ B hml hv
  obtain ⟨rfl, hG, hC⟩ := hv
  have hx := B.exec
  have hb := B.bytes
  have hr := B.returns
  have hts := atoms_spec (ws := wsX0_coldIn) B.pre
  have hown : s.vm.findClass RX0 = some m.cls := findClass_of_methodNamed B.named
  have hlocks := B.notSynchronized
  have hS : va_S A s.heap s.heap [] := va_S.rf
  have hl := lv_entry ([.ref a, .int (zI p1), .int (zI p2)]) (n := 3) (Nat.le_of_ble_eq_true rfl)
  rw [lg_entry_eq]
  generalize (lg_sl ([.ref a, .int (zI p1), .int (zI p2)]) ++ List.replicate (3 - (lg_sl ([.ref a, .int (zI p1), .int (zI p2)])).length) Slot.unset).toArray = ls at hl ⊢
  have hl : lv_has ls 3 [(0, .ref a), (1, .int (zI p1)), (2, .int (zI p2))] := hl
  refine z_iconst hx hb dX0_coldIn_0 ?_
  refine lv_aload_n hx hb dX0_coldIn_1 rfl (lv_at hl 0 rfl) ?_
  refine lv_iload_n hx hb dX0_coldIn_2 rfl (lv_at hl 1 rfl) ?_
  refine lv_iload_n hx hb dX0_coldIn_3 rfl (lv_at hl 2 rfl) ?_
  obtain ⟨k9, hk9⟩ := va_pl_get (X := gFx cy ad jf u) (f := u.2.2.2.2) ha
  refine g_calli (va_runSU (C := RX6) (hC.1.1 5 _ rfl).2 (As := [.int (zI p1), .int (zI p2)]) (rest := [.int (zI 1)]) ⟨hx, hb, hml, hown, hts⟩ (kX3_coldIn_X6 l D cy ad jf A u a nm sp li fd p1 p2 ha hE (by omega) (by omega)) (va_cwSU 2 hts gX0_coldIn_X3_coldIn_s9 rfl rfl rfl (by decide +kernel) ⟨by decide, by decide⟩) (g_preD (C := RX6) hG hC hS (hk9.trans (by rw [hE])) rfl) rfl rfl hl.1 rfl (lv_room (Nat.le_of_ble_eq_true rfl)) dX0_coldIn_4 ⟨Nat.le_of_ble_eq_true rfl, Nat.le_of_ble_eq_true rfl⟩) hS (fun r1 u2 H locs p_3 hG hS => ?_)
  obtain ⟨rfl, he_⟩ := p_3
  rw [he_] at hG; clear he_
  obtain ⟨z4, hz4⟩ : ∃ z : Int, z = p2 + p1 / 8 := ⟨_, rfl⟩
  rw [← hz4]
  have qz4 : 0 ≤ z4 ∧ z4 ≤ 145 := by rw [hz4]; (first | omega | (unfold spAt1; split <;> omega) | (unfold spAt1; split <;> split <;> omega) | (split <;> first | omega | (unfold spAt1; split <;> omega)) | (unfold spPace spPc spAt1; split <;> (first | omega | (split <;> first | omega | (split <;> omega)))))
  refine z_iconst hx hb dX0_coldIn_7 ?_
  refine z_isub hx hb dX0_coldIn_8 ?_
  refine va_mmax hx hb (hml.trans hl.1.symm) hown (hts (.methodLink RX0 13 Lib.Math.max.name) (List.mem_cons_of_mem _ (List.mem_of_getElem? (i := 0) rfl))) (hts (.static Lib.Math.max.name) (List.mem_cons_of_mem _ (List.mem_of_getElem? (i := 1) rfl))) (hts (.initialized "java/lang/Math") (List.mem_cons_of_mem _ (List.mem_of_getElem? (i := 2) rfl))) (hts (.code Lib.Math.max.name Lib.Math.max.code 2 (some .int)) (List.mem_cons_of_mem _ (List.mem_of_getElem? (i := 3) rfl))) (by decide) (by decide) (Nat.le_of_ble_eq_true rfl) (Nat.le_of_ble_eq_true rfl) dX0_coldIn_9 ?_
  rw [z_max (a := 1) (b := z4 - 2) (by omega) (by omega) (by omega) (by omega), show (if 1 < (z4 - 2) then (z4 - 2) else 1) = spAt1 (z4 - 2) by (unfold spAt1; split <;> split <;> omega)]
  obtain ⟨x5, hx5⟩ : ∃ z : Int, z = spAt1 (z4 - 2) := ⟨_, rfl⟩
  rw [← hx5]
  have qx5 : ((z4 - 2) < 1 ∧ x5 = 1) ∨ (1 ≤ (z4 - 2) ∧ x5 = (z4 - 2)) := by rw [hx5]; unfold spAt1; split <;> omega
  exact W.iret (v := zI x5) hx hb hr (fun t9 ht9_ hW => ⟨⟨zI x5, u, rfl, (by refine ⟨?_, rfl⟩; subst_vars; first | rfl | (congr 1; omega)), gB.mk' hG hC hS ht9_ hW⟩, hS.F ht9_⟩) hS.2.2 dX0_coldIn_12
set_option maxHeartbeats 4000000 in
set_option maxRecDepth 100000 in
theorem kX6_coldIn_X6 (l : Launch) (D : va_G) (cy : Nat → ClassId) (ad : Nat → Nat) (jf : Nat → Int64) (A : Nat → Prop) (u : gS) (a : Nat) (nm sp li fd : Int) (p1 p2 : Int) (ha : a ∈ u.2.2.2.1) (hE : u.2.2.2.2 a = .inr (5, [.int (zI nm), .int (zI sp), .int (zI li), .int (zI fd)])) (j_t : 0 ≤ p1 ∧ p1 ≤ 1000) (j_c : 0 ≤ p2 ∧ p2 ≤ 20) : Met l yX6_coldIn wsX6_coldIn ({ frames := 3, cells := 0, slots := 0, locals := 74 }) (va_Pc [.ref a, .int (zI p1), .int (zI p2)] (gB D cy ad jf A u)) (va_Qi (fun (r : Int32) (v : gS) => r = zI (spAt1 (spAt1 (p2 + p1 / 8 - 2) / 2)) ∧ v = u) (gB D cy ad jf A) A) 0 0 A := by
  refine Met.ofW (cc := cX6_coldIn) (maxL := 3) (ret := (some .int)) (by decide) rfl ?_
  intro p e s m args below meth c s₁ B hml hv
  obtain ⟨rfl, hG, hC⟩ := hv
  have hx := B.exec
  have hb := B.bytes
  have hr := B.returns
  have hts := atoms_spec (ws := wsX6_coldIn) B.pre
  have hown : s.vm.findClass RX6 = some m.cls := findClass_of_methodNamed B.named
  have hlocks := B.notSynchronized
  have hS : va_S A s.heap s.heap [] := va_S.rf
  have hl := lv_entry ([.ref a, .int (zI p1), .int (zI p2)]) (n := 3) (Nat.le_of_ble_eq_true rfl)
  rw [lg_entry_eq]
  generalize (lg_sl ([.ref a, .int (zI p1), .int (zI p2)]) ++ List.replicate (3 - (lg_sl ([.ref a, .int (zI p1), .int (zI p2)])).length) Slot.unset).toArray = ls at hl ⊢
  have hl : lv_has ls 3 [(0, .ref a), (1, .int (zI p1)), (2, .int (zI p2))] := hl
  refine z_iconst hx hb dX6_coldIn_0 ?_
  refine lv_aload_n hx hb dX6_coldIn_1 rfl (lv_at hl 0 rfl) ?_
  refine lv_iload_n hx hb dX6_coldIn_2 rfl (lv_at hl 1 rfl) ?_
  refine lv_iload_n hx hb dX6_coldIn_3 rfl (lv_at hl 2 rfl) ?_
  obtain ⟨k9, hk9⟩ := va_pl_get (X := gFx cy ad jf u) (f := u.2.2.2.2) ha
  refine g_calli (va_runSU (C := RX6) (hC.1.1 5 _ rfl).2 (As := [.int (zI p1), .int (zI p2)]) (rest := [.int (zI 1)]) ⟨hx, hb, hml, hown, hts⟩ (kX0_coldIn_X6 l D cy ad jf A u a nm sp li fd p1 p2 ha hE (by omega) (by omega)) (va_cwSU 2 hts gX6_coldIn_X0_coldIn_s9 rfl rfl rfl (by decide +kernel) ⟨by decide, by decide⟩) (g_preD (C := RX6) hG hC hS (hk9.trans (by rw [hE])) rfl) rfl rfl hl.1 rfl (lv_room (Nat.le_of_ble_eq_true rfl)) dX6_coldIn_4 ⟨Nat.le_of_ble_eq_true rfl, Nat.le_of_ble_eq_true rfl⟩) hS (fun r1 u2 H locs p_3 hG hS => ?_)
  obtain ⟨rfl, he_⟩ := p_3
  rw [he_] at hG; clear he_
  obtain ⟨z4, hz4⟩ : ∃ z : Int, z = spAt1 (p2 + p1 / 8 - 2) := ⟨_, rfl⟩
  rw [← hz4]
  have qz4 : 1 ≤ z4 ∧ z4 ≤ 145 := by rw [hz4]; (first | omega | (unfold spAt1; split <;> omega) | (unfold spAt1; split <;> split <;> omega) | (split <;> first | omega | (unfold spAt1; split <;> omega)) | (unfold spPace spPc spAt1; split <;> (first | omega | (split <;> first | omega | (split <;> omega)))))
  refine z_iconst hx hb dX6_coldIn_7 ?_
  refine z_idiv hx hb dX6_coldIn_8 (by omega) (by omega) (by omega) (by omega) ?_
  refine va_mmax hx hb (hml.trans hl.1.symm) hown (hts (.methodLink RX6 13 Lib.Math.max.name) (List.mem_cons_of_mem _ (List.mem_of_getElem? (i := 0) rfl))) (hts (.static Lib.Math.max.name) (List.mem_cons_of_mem _ (List.mem_of_getElem? (i := 1) rfl))) (hts (.initialized "java/lang/Math") (List.mem_cons_of_mem _ (List.mem_of_getElem? (i := 2) rfl))) (hts (.code Lib.Math.max.name Lib.Math.max.code 2 (some .int)) (List.mem_cons_of_mem _ (List.mem_of_getElem? (i := 3) rfl))) (by decide) (by decide) (Nat.le_of_ble_eq_true rfl) (Nat.le_of_ble_eq_true rfl) dX6_coldIn_9 ?_
  rw [z_max (a := 1) (b := z4 / 2) (by omega) (by omega) (by omega) (by omega), show (if 1 < (z4 / 2) then (z4 / 2) else 1) = spAt1 (z4 / 2) by (unfold spAt1; split <;> split <;> omega)]
  obtain ⟨x5, hx5⟩ : ∃ z : Int, z = spAt1 (z4 / 2) := ⟨_, rfl⟩
  rw [← hx5]
  have qx5 : ((z4 / 2) < 1 ∧ x5 = 1) ∨ (1 ≤ (z4 / 2) ∧ x5 = (z4 / 2)) := by rw [hx5]; unfold spAt1; split <;> omega
  exact W.iret (v := zI x5) hx hb hr (fun t9 ht9_ hW => ⟨⟨zI x5, u, rfl, (by refine ⟨?_, rfl⟩; subst_vars; first | rfl | (congr 1; omega)), gB.mk' hG hC hS ht9_ hW⟩, hS.F ht9_⟩) hS.2.2 dX6_coldIn_12
set_option maxHeartbeats 4000000 in
set_option maxRecDepth 100000 in
theorem kX3_paceIn_X3 (l : Launch) (D : va_G) (cy : Nat → ClassId) (ad : Nat → Nat) (jf : Nat → Int64) (A : Nat → Prop) (u : gS) (a : Nat) (nm sp li fd : Int) (p1 : Int) (ha : a ∈ u.2.2.2.1) (hE : u.2.2.2.2 a = .inr (2, [.int (zI nm), .int (zI sp), .int (zI li), .int (zI fd)])) (j_t : 0 ≤ p1 ∧ p1 ≤ 1000) (j_s : 0 ≤ sp ∧ sp ≤ 20) : Met l yX3_paceIn wsX3_paceIn ({ frames := 1, cells := 0, slots := 0, locals := 30 }) (va_Pc [.ref a, .int (zI p1)] (gB D cy ad jf A u)) (va_Qi (fun (r : Int32) (v : gS) => r = zI (spAt1 (sp - p1 / 6)) ∧ v = u) (gB D cy ad jf A) A) 0 0 A := by
  refine Met.ofW (cc := cX3_paceIn) (maxL := 2) (ret := (some .int)) (by decide) rfl ?_
  intro p e s m args below meth c s₁ B hml hv
  obtain ⟨rfl, hG, hC⟩ := hv
  have hx := B.exec
  have hb := B.bytes
  have hr := B.returns
  have hts := atoms_spec (ws := wsX3_paceIn) B.pre
  have hown : s.vm.findClass RX3 = some m.cls := findClass_of_methodNamed B.named
  have hlocks := B.notSynchronized
  have hS : va_S A s.heap s.heap [] := va_S.rf
  have hl := lv_entry ([.ref a, .int (zI p1)]) (n := 2) (Nat.le_of_ble_eq_true rfl)
  rw [lg_entry_eq]
  generalize (lg_sl ([.ref a, .int (zI p1)]) ++ List.replicate (2 - (lg_sl ([.ref a, .int (zI p1)])).length) Slot.unset).toArray = ls at hl ⊢
  have hl : lv_has ls 2 [(0, .ref a), (1, .int (zI p1))] := hl
  refine z_iconst hx hb dX3_paceIn_0 ?_
  refine lv_aload_n hx hb dX3_paceIn_1 rfl (lv_at hl 0 rfl) ?_
  obtain ⟨k9, hk9⟩ := va_pl_get (X := gFx cy ad jf u) (f := u.2.2.2.2) ha
  refine va_get (C := RX3) (T := TX3) (N := 4) (ci := 2) hx hb hts (fun _ h => (List.mem_cons_of_mem _ (List.mem_append_left _ (List.mem_append_left _ (List.mem_append_right _ h))))) hown hC.1 hG.1 k9 (hk9.trans (by rw [hE])) rfl 1 (by decide) (hts (.fieldLink RX3 18 "StraitSwim$Plain" "speed" "I") (List.mem_cons_of_mem _ (List.mem_append_left _ (List.mem_append_left _ (List.mem_append_left _ (List.mem_append_left _ (List.mem_of_getElem? (i := 0) rfl))))))) (fun _ h9 => h9) rfl dX3_paceIn_2 ?_
  refine lv_iload_n hx hb dX3_paceIn_5 rfl (lv_at hl 1 rfl) ?_
  refine z_bipush hx hb dX3_paceIn_6 (by decide) ?_
  refine z_idiv hx hb dX3_paceIn_8 (by omega) (by omega) (by omega) (by omega) ?_
  refine z_isub hx hb dX3_paceIn_9 ?_
  refine va_mmax hx hb (hml.trans hl.1.symm) hown (hts (.methodLink RX3 24 Lib.Math.max.name) (List.mem_cons_of_mem _ (List.mem_append_left _ (List.mem_append_left _ (List.mem_append_left _ (List.mem_append_left _ (List.mem_of_getElem? (i := 1) rfl))))))) (hts (.static Lib.Math.max.name) (List.mem_cons_of_mem _ (List.mem_append_left _ (List.mem_append_left _ (List.mem_append_left _ (List.mem_append_left _ (List.mem_of_getElem? (i := 2) rfl))))))) (hts (.initialized "java/lang/Math") (List.mem_cons_of_mem _ (List.mem_append_left _ (List.mem_append_left _ (List.mem_append_left _ (List.mem_append_left _ (List.mem_of_getElem? (i := 3) rfl))))))) (hts (.code Lib.Math.max.name Lib.Math.max.code 2 (some .int)) (List.mem_cons_of_mem _ (List.mem_append_left _ (List.mem_append_left _ (List.mem_append_left _ (List.mem_append_left _ (List.mem_of_getElem? (i := 4) rfl))))))) (by decide) (by decide) (Nat.le_of_ble_eq_true rfl) (Nat.le_of_ble_eq_true rfl) dX3_paceIn_10 ?_
  rw [z_max (a := 1) (b := sp - (p1 / 6)) (by omega) (by omega) (by omega) (by omega), show (if 1 < (sp - (p1 / 6)) then (sp - (p1 / 6)) else 1) = spAt1 (sp - (p1 / 6)) by (unfold spAt1; split <;> split <;> omega)]
  obtain ⟨x1, hx1⟩ : ∃ z : Int, z = spAt1 (sp - (p1 / 6)) := ⟨_, rfl⟩
  rw [← hx1]
  have qx1 : ((sp - (p1 / 6)) < 1 ∧ x1 = 1) ∨ (1 ≤ (sp - (p1 / 6)) ∧ x1 = (sp - (p1 / 6))) := by rw [hx1]; unfold spAt1; split <;> omega
  exact W.iret (v := zI x1) hx hb hr (fun t9 ht9_ hW => ⟨⟨zI x1, u, rfl, (by refine ⟨?_, rfl⟩; subst_vars; first | rfl | (congr 1; omega)), gB.mk' hG hC hS ht9_ hW⟩, hS.F ht9_⟩) hS.2.2 dX3_paceIn_13
set_option maxHeartbeats 4000000 in
set_option maxRecDepth 100000 in
theorem kX3_paceIn_X0 (l : Launch) (D : va_G) (cy : Nat → ClassId) (ad : Nat → Nat) (jf : Nat → Int64) (A : Nat → Prop) (u : gS) (a : Nat) (nm sp li fd : Int) (p1 : Int) (ha : a ∈ u.2.2.2.1) (hE : u.2.2.2.2 a = .inr (0, [.int (zI nm), .int (zI sp), .int (zI li), .int (zI fd)])) (j_t : 0 ≤ p1 ∧ p1 ≤ 1000) (j_s : 0 ≤ sp ∧ sp ≤ 20) : Met l yX3_paceIn wsX3_paceIn ({ frames := 1, cells := 0, slots := 0, locals := 30 }) (va_Pc [.ref a, .int (zI p1)] (gB D cy ad jf A u)) (va_Qi (fun (r : Int32) (v : gS) => r = zI (spAt1 (sp - p1 / 6)) ∧ v = u) (gB D cy ad jf A) A) 0 0 A := by
  refine Met.ofW (cc := cX3_paceIn) (maxL := 2) (ret := (some .int)) (by decide) rfl ?_
  intro p e s m args below meth c s₁ B hml hv
  obtain ⟨rfl, hG, hC⟩ := hv
  have hx := B.exec
  have hb := B.bytes
  have hr := B.returns
  have hts := atoms_spec (ws := wsX3_paceIn) B.pre
  have hown : s.vm.findClass RX3 = some m.cls := findClass_of_methodNamed B.named
  have hlocks := B.notSynchronized
  have hS : va_S A s.heap s.heap [] := va_S.rf
  have hl := lv_entry ([.ref a, .int (zI p1)]) (n := 2) (Nat.le_of_ble_eq_true rfl)
  rw [lg_entry_eq]
  generalize (lg_sl ([.ref a, .int (zI p1)]) ++ List.replicate (2 - (lg_sl ([.ref a, .int (zI p1)])).length) Slot.unset).toArray = ls at hl ⊢
  have hl : lv_has ls 2 [(0, .ref a), (1, .int (zI p1))] := hl
  refine z_iconst hx hb dX3_paceIn_0 ?_
  refine lv_aload_n hx hb dX3_paceIn_1 rfl (lv_at hl 0 rfl) ?_
  obtain ⟨k9, hk9⟩ := va_pl_get (X := gFx cy ad jf u) (f := u.2.2.2.2) ha
  refine va_get (C := RX0) (T := TX0) (N := 4) (ci := 0) hx hb hts (fun _ h => (List.mem_cons_of_mem _ (List.mem_append_left _ (List.mem_append_left _ (List.mem_append_left _ (List.mem_append_right _ h)))))) hown hC.1 hG.1 k9 (hk9.trans (by rw [hE])) rfl 1 (by decide) (hts (.fieldLink RX3 18 "StraitSwim$Plain" "speed" "I") (List.mem_cons_of_mem _ (List.mem_append_left _ (List.mem_append_left _ (List.mem_append_left _ (List.mem_append_left _ (List.mem_of_getElem? (i := 0) rfl))))))) (fun _ h9 => h9) rfl dX3_paceIn_2 ?_
  refine lv_iload_n hx hb dX3_paceIn_5 rfl (lv_at hl 1 rfl) ?_
  refine z_bipush hx hb dX3_paceIn_6 (by decide) ?_
  refine z_idiv hx hb dX3_paceIn_8 (by omega) (by omega) (by omega) (by omega) ?_
  refine z_isub hx hb dX3_paceIn_9 ?_
  refine va_mmax hx hb (hml.trans hl.1.symm) hown (hts (.methodLink RX3 24 Lib.Math.max.name) (List.mem_cons_of_mem _ (List.mem_append_left _ (List.mem_append_left _ (List.mem_append_left _ (List.mem_append_left _ (List.mem_of_getElem? (i := 1) rfl))))))) (hts (.static Lib.Math.max.name) (List.mem_cons_of_mem _ (List.mem_append_left _ (List.mem_append_left _ (List.mem_append_left _ (List.mem_append_left _ (List.mem_of_getElem? (i := 2) rfl))))))) (hts (.initialized "java/lang/Math") (List.mem_cons_of_mem _ (List.mem_append_left _ (List.mem_append_left _ (List.mem_append_left _ (List.mem_append_left _ (List.mem_of_getElem? (i := 3) rfl))))))) (hts (.code Lib.Math.max.name Lib.Math.max.code 2 (some .int)) (List.mem_cons_of_mem _ (List.mem_append_left _ (List.mem_append_left _ (List.mem_append_left _ (List.mem_append_left _ (List.mem_of_getElem? (i := 4) rfl))))))) (by decide) (by decide) (Nat.le_of_ble_eq_true rfl) (Nat.le_of_ble_eq_true rfl) dX3_paceIn_10 ?_
  rw [z_max (a := 1) (b := sp - (p1 / 6)) (by omega) (by omega) (by omega) (by omega), show (if 1 < (sp - (p1 / 6)) then (sp - (p1 / 6)) else 1) = spAt1 (sp - (p1 / 6)) by (unfold spAt1; split <;> split <;> omega)]
  obtain ⟨x1, hx1⟩ : ∃ z : Int, z = spAt1 (sp - (p1 / 6)) := ⟨_, rfl⟩
  rw [← hx1]
  have qx1 : ((sp - (p1 / 6)) < 1 ∧ x1 = 1) ∨ (1 ≤ (sp - (p1 / 6)) ∧ x1 = (sp - (p1 / 6))) := by rw [hx1]; unfold spAt1; split <;> omega
  exact W.iret (v := zI x1) hx hb hr (fun t9 ht9_ hW => ⟨⟨zI x1, u, rfl, (by refine ⟨?_, rfl⟩; subst_vars; first | rfl | (congr 1; omega)), gB.mk' hG hC hS ht9_ hW⟩, hS.F ht9_⟩) hS.2.2 dX3_paceIn_13
set_option maxHeartbeats 4000000 in
set_option maxRecDepth 100000 in
theorem kX3_paceIn_X6 (l : Launch) (D : va_G) (cy : Nat → ClassId) (ad : Nat → Nat) (jf : Nat → Int64) (A : Nat → Prop) (u : gS) (a : Nat) (nm sp li fd : Int) (p1 : Int) (ha : a ∈ u.2.2.2.1) (hE : u.2.2.2.2 a = .inr (5, [.int (zI nm), .int (zI sp), .int (zI li), .int (zI fd)])) (j_t : 0 ≤ p1 ∧ p1 ≤ 1000) (j_s : 0 ≤ sp ∧ sp ≤ 20) : Met l yX3_paceIn wsX3_paceIn ({ frames := 1, cells := 0, slots := 0, locals := 30 }) (va_Pc [.ref a, .int (zI p1)] (gB D cy ad jf A u)) (va_Qi (fun (r : Int32) (v : gS) => r = zI (spAt1 (sp - p1 / 6)) ∧ v = u) (gB D cy ad jf A) A) 0 0 A := by
  refine Met.ofW (cc := cX3_paceIn) (maxL := 2) (ret := (some .int)) (by decide) rfl ?_
  intro p e s m args below meth c s₁ B hml hv
  obtain ⟨rfl, hG, hC⟩ := hv
  have hx := B.exec
  have hb := B.bytes
  have hr := B.returns
  have hts := atoms_spec (ws := wsX3_paceIn) B.pre
  have hown : s.vm.findClass RX3 = some m.cls := findClass_of_methodNamed B.named
  have hlocks := B.notSynchronized
  have hS : va_S A s.heap s.heap [] := va_S.rf
  have hl := lv_entry ([.ref a, .int (zI p1)]) (n := 2) (Nat.le_of_ble_eq_true rfl)
  rw [lg_entry_eq]
  generalize (lg_sl ([.ref a, .int (zI p1)]) ++ List.replicate (2 - (lg_sl ([.ref a, .int (zI p1)])).length) Slot.unset).toArray = ls at hl ⊢
  have hl : lv_has ls 2 [(0, .ref a), (1, .int (zI p1))] := hl
  refine z_iconst hx hb dX3_paceIn_0 ?_
  refine lv_aload_n hx hb dX3_paceIn_1 rfl (lv_at hl 0 rfl) ?_
  obtain ⟨k9, hk9⟩ := va_pl_get (X := gFx cy ad jf u) (f := u.2.2.2.2) ha
  refine va_get (C := RX6) (T := TX6) (N := 4) (ci := 5) hx hb hts (fun _ h => (List.mem_cons_of_mem _ (List.mem_append_right _ h))) hown hC.1 hG.1 k9 (hk9.trans (by rw [hE])) rfl 1 (by decide) (hts (.fieldLink RX3 18 "StraitSwim$Plain" "speed" "I") (List.mem_cons_of_mem _ (List.mem_append_left _ (List.mem_append_left _ (List.mem_append_left _ (List.mem_append_left _ (List.mem_of_getElem? (i := 0) rfl))))))) (fun _ h9 => h9) rfl dX3_paceIn_2 ?_
  refine lv_iload_n hx hb dX3_paceIn_5 rfl (lv_at hl 1 rfl) ?_
  refine z_bipush hx hb dX3_paceIn_6 (by decide) ?_
  refine z_idiv hx hb dX3_paceIn_8 (by omega) (by omega) (by omega) (by omega) ?_
  refine z_isub hx hb dX3_paceIn_9 ?_
  refine va_mmax hx hb (hml.trans hl.1.symm) hown (hts (.methodLink RX3 24 Lib.Math.max.name) (List.mem_cons_of_mem _ (List.mem_append_left _ (List.mem_append_left _ (List.mem_append_left _ (List.mem_append_left _ (List.mem_of_getElem? (i := 1) rfl))))))) (hts (.static Lib.Math.max.name) (List.mem_cons_of_mem _ (List.mem_append_left _ (List.mem_append_left _ (List.mem_append_left _ (List.mem_append_left _ (List.mem_of_getElem? (i := 2) rfl))))))) (hts (.initialized "java/lang/Math") (List.mem_cons_of_mem _ (List.mem_append_left _ (List.mem_append_left _ (List.mem_append_left _ (List.mem_append_left _ (List.mem_of_getElem? (i := 3) rfl))))))) (hts (.code Lib.Math.max.name Lib.Math.max.code 2 (some .int)) (List.mem_cons_of_mem _ (List.mem_append_left _ (List.mem_append_left _ (List.mem_append_left _ (List.mem_append_left _ (List.mem_of_getElem? (i := 4) rfl))))))) (by decide) (by decide) (Nat.le_of_ble_eq_true rfl) (Nat.le_of_ble_eq_true rfl) dX3_paceIn_10 ?_
  rw [z_max (a := 1) (b := sp - (p1 / 6)) (by omega) (by omega) (by omega) (by omega), show (if 1 < (sp - (p1 / 6)) then (sp - (p1 / 6)) else 1) = spAt1 (sp - (p1 / 6)) by (unfold spAt1; split <;> split <;> omega)]
  obtain ⟨x1, hx1⟩ : ∃ z : Int, z = spAt1 (sp - (p1 / 6)) := ⟨_, rfl⟩
  rw [← hx1]
  have qx1 : ((sp - (p1 / 6)) < 1 ∧ x1 = 1) ∨ (1 ≤ (sp - (p1 / 6)) ∧ x1 = (sp - (p1 / 6))) := by rw [hx1]; unfold spAt1; split <;> omega
  exact W.iret (v := zI x1) hx hb hr (fun t9 ht9_ hW => ⟨⟨zI x1, u, rfl, (by refine ⟨?_, rfl⟩; subst_vars; first | rfl | (congr 1; omega)), gB.mk' hG hC hS ht9_ hW⟩, hS.F ht9_⟩) hS.2.2 dX3_paceIn_13
set_option maxHeartbeats 4000000 in
set_option maxRecDepth 100000 in
theorem kX4_paceIn_X4 (l : Launch) (D : va_G) (cy : Nat → ClassId) (ad : Nat → Nat) (jf : Nat → Int64) (A : Nat → Prop) (u : gS) (a : Nat) (nm sp li fd : Int) (p1 : Int) (ha : a ∈ u.2.2.2.1) (hE : u.2.2.2.2 a = .inr (3, [.int (zI nm), .int (zI sp), .int (zI li), .int (zI fd)])) (j_t : 0 ≤ p1 ∧ p1 ≤ 1000) (j_s : 0 ≤ sp ∧ sp ≤ 20) : Met l yX4_paceIn wsX4_paceIn ({ frames := 1, cells := 0, slots := 0, locals := 30 }) (va_Pc [.ref a, .int (zI p1)] (gB D cy ad jf A u)) (va_Qi (fun (r : Int32) (v : gS) => r = zI ((if p1 < 8 then sp + 4 else spAt1 (sp - p1 / 4))) ∧ v = u) (gB D cy ad jf A) A) 0 0 A := by
  refine Met.ofW (cc := cX4_paceIn) (maxL := 2) (ret := (some .int)) (by decide) rfl ?_
  intro p e s m args below meth c s₁ B hml hv
  obtain ⟨rfl, hG, hC⟩ := hv
  have hx := B.exec
  have hb := B.bytes
  have hr := B.returns
  have hts := atoms_spec (ws := wsX4_paceIn) B.pre
  have hown : s.vm.findClass RX4 = some m.cls := findClass_of_methodNamed B.named
  have hlocks := B.notSynchronized
  have hS : va_S A s.heap s.heap [] := va_S.rf
  have hl := lv_entry ([.ref a, .int (zI p1)]) (n := 2) (Nat.le_of_ble_eq_true rfl)
  rw [lg_entry_eq]
  generalize (lg_sl ([.ref a, .int (zI p1)]) ++ List.replicate (2 - (lg_sl ([.ref a, .int (zI p1)])).length) Slot.unset).toArray = ls at hl ⊢
  have hl : lv_has ls 2 [(0, .ref a), (1, .int (zI p1))] := hl
  refine lv_iload_n hx hb dX4_paceIn_0 rfl (lv_at hl 1 rfl) ?_
  refine z_bipush hx hb dX4_paceIn_1 (by decide) ?_
  refine z_icmp_ge (tgt := 15) hx hb dX4_paceIn_3 (by decide) (by omega) (by omega) (by omega) (by omega) (fun c_1 => ?_) (fun c_1 => ?_)
  · refine z_iconst hx hb dX4_paceIn_15 ?_
    refine lv_aload_n hx hb dX4_paceIn_16 rfl (lv_at hl 0 rfl) ?_
    obtain ⟨k9, hk9⟩ := va_pl_get (X := gFx cy ad jf u) (f := u.2.2.2.2) ha
    refine va_get (C := RX4) (T := TX4) (N := 4) (ci := 3) hx hb hts (fun _ h => (List.mem_cons_of_mem _ (List.mem_append_left _ (List.mem_append_right _ h)))) hown hC.1 hG.1 k9 (hk9.trans (by rw [hE])) rfl 1 (by decide) (hts (.fieldLink RX4 9 "StraitSwim$Quick" "speed" "I") (List.mem_cons_of_mem _ (List.mem_append_left _ (List.mem_append_left _ (List.mem_append_left _ (List.mem_append_left _ (List.mem_of_getElem? (i := 0) rfl))))))) (u_same (hts (.sameField "StraitSwim$Quick" "StraitSwim$Plain" "speed" "I") (List.mem_cons_of_mem _ (List.mem_append_left _ (List.mem_append_left _ (List.mem_append_left _ (List.mem_append_left _ (List.mem_of_getElem? (i := 1) rfl)))))))) rfl dX4_paceIn_17 ?_
    refine lv_iload_n hx hb dX4_paceIn_20 rfl (lv_at hl 1 rfl) ?_
    refine z_iconst hx hb dX4_paceIn_21 ?_
    refine z_idiv hx hb dX4_paceIn_22 (by omega) (by omega) (by omega) (by omega) ?_
    refine z_isub hx hb dX4_paceIn_23 ?_
    refine va_mmax hx hb (hml.trans hl.1.symm) hown (hts (.methodLink RX4 15 Lib.Math.max.name) (List.mem_cons_of_mem _ (List.mem_append_left _ (List.mem_append_left _ (List.mem_append_left _ (List.mem_append_left _ (List.mem_of_getElem? (i := 2) rfl))))))) (hts (.static Lib.Math.max.name) (List.mem_cons_of_mem _ (List.mem_append_left _ (List.mem_append_left _ (List.mem_append_left _ (List.mem_append_left _ (List.mem_of_getElem? (i := 3) rfl))))))) (hts (.initialized "java/lang/Math") (List.mem_cons_of_mem _ (List.mem_append_left _ (List.mem_append_left _ (List.mem_append_left _ (List.mem_append_left _ (List.mem_of_getElem? (i := 4) rfl))))))) (hts (.code Lib.Math.max.name Lib.Math.max.code 2 (some .int)) (List.mem_cons_of_mem _ (List.mem_append_left _ (List.mem_append_left _ (List.mem_append_left _ (List.mem_append_left _ (List.mem_of_getElem? (i := 5) rfl))))))) (by decide) (by decide) (Nat.le_of_ble_eq_true rfl) (Nat.le_of_ble_eq_true rfl) dX4_paceIn_24 ?_
    rw [z_max (a := 1) (b := sp - (p1 / 4)) (by omega) (by omega) (by omega) (by omega), show (if 1 < (sp - (p1 / 4)) then (sp - (p1 / 4)) else 1) = spAt1 (sp - (p1 / 4)) by (unfold spAt1; split <;> split <;> omega)]
    obtain ⟨x2, hx2⟩ : ∃ z : Int, z = spAt1 (sp - (p1 / 4)) := ⟨_, rfl⟩
    rw [← hx2]
    have qx2 : ((sp - (p1 / 4)) < 1 ∧ x2 = 1) ∨ (1 ≤ (sp - (p1 / 4)) ∧ x2 = (sp - (p1 / 4))) := by rw [hx2]; unfold spAt1; split <;> omega
    exact W.iret (v := zI x2) hx hb hr (fun t9 ht9_ hW => ⟨⟨zI x2, u, rfl, (by refine ⟨?_, rfl⟩; (repeat (first | rw [if_pos (by omega)] | rw [if_neg (by omega)])); all_goals (subst_vars; first | rfl | (congr 1; omega))), gB.mk' hG hC hS ht9_ hW⟩, hS.F ht9_⟩) hS.2.2 dX4_paceIn_27
  · refine lv_aload_n hx hb dX4_paceIn_6 rfl (lv_at hl 0 rfl) ?_
    obtain ⟨k9, hk9⟩ := va_pl_get (X := gFx cy ad jf u) (f := u.2.2.2.2) ha
    refine va_get (C := RX4) (T := TX4) (N := 4) (ci := 3) hx hb hts (fun _ h => (List.mem_cons_of_mem _ (List.mem_append_left _ (List.mem_append_right _ h)))) hown hC.1 hG.1 k9 (hk9.trans (by rw [hE])) rfl 1 (by decide) (hts (.fieldLink RX4 9 "StraitSwim$Quick" "speed" "I") (List.mem_cons_of_mem _ (List.mem_append_left _ (List.mem_append_left _ (List.mem_append_left _ (List.mem_append_left _ (List.mem_of_getElem? (i := 0) rfl))))))) (u_same (hts (.sameField "StraitSwim$Quick" "StraitSwim$Plain" "speed" "I") (List.mem_cons_of_mem _ (List.mem_append_left _ (List.mem_append_left _ (List.mem_append_left _ (List.mem_append_left _ (List.mem_of_getElem? (i := 1) rfl)))))))) rfl dX4_paceIn_7 ?_
    refine z_iconst hx hb dX4_paceIn_10 ?_
    refine z_iadd hx hb dX4_paceIn_11 ?_
    refine lv_goto (tgt := 27) hx hb dX4_paceIn_12 (by decide) ?_
    exact W.iret (v := zI (sp + 4)) hx hb hr (fun t9 ht9_ hW => ⟨⟨zI (sp + 4), u, rfl, (by refine ⟨?_, rfl⟩; (repeat (first | rw [if_pos (by omega)] | rw [if_neg (by omega)])); all_goals (subst_vars; first | rfl | (congr 1; omega))), gB.mk' hG hC hS ht9_ hW⟩, hS.F ht9_⟩) hS.2.2 dX4_paceIn_27
set_option maxHeartbeats 4000000 in
set_option maxRecDepth 100000 in
theorem kX3_feedsIn_X3 (l : Launch) (D : va_G) (cy : Nat → ClassId) (ad : Nat → Nat) (jf : Nat → Int64) (A : Nat → Prop) (u : gS) (a : Nat) (nm sp li fd : Int) (p1 : Int) (ha : a ∈ u.2.2.2.1) (hE : u.2.2.2.2 a = .inr (2, [.int (zI nm), .int (zI sp), .int (zI li), .int (zI fd)])) (j_t : 0 ≤ p1 ∧ p1 ≤ 1000) (j_f : 0 ≤ fd ∧ fd ≤ 40) : Met l yX3_feedsIn wsX3_feedsIn ({ frames := 0, cells := 0, slots := 0, locals := 0 }) (va_Pc [.ref a, .int (zI p1)] (gB D cy ad jf A u)) (va_Qi (fun (r : Int32) (v : gS) => (∃ b : Int, r = zI b ∧ (b = 1 ∧ 0 < fd ∧ (p1 + 1) % fd = 0 ∨ b = 0 ∧ ¬ (0 < fd ∧ (p1 + 1) % fd = 0))) ∧ v = u) (gB D cy ad jf A) A) 0 0 A := by
  refine Met.ofW (cc := cX3_feedsIn) (maxL := 2) (ret := (some .boolean)) (by decide) rfl ?_
  intro p e s m args below meth c s₁ B hml hv
  obtain ⟨rfl, hG, hC⟩ := hv
  have hx := B.exec
  have hb := B.bytes
  have hr := B.returns
  have hts := atoms_spec (ws := wsX3_feedsIn) B.pre
  have hown : s.vm.findClass RX3 = some m.cls := findClass_of_methodNamed B.named
  have hlocks := B.notSynchronized
  have hS : va_S A s.heap s.heap [] := va_S.rf
  have hl := lv_entry ([.ref a, .int (zI p1)]) (n := 2) (Nat.le_of_ble_eq_true rfl)
  rw [lg_entry_eq]
  generalize (lg_sl ([.ref a, .int (zI p1)]) ++ List.replicate (2 - (lg_sl ([.ref a, .int (zI p1)])).length) Slot.unset).toArray = ls at hl ⊢
  have hl : lv_has ls 2 [(0, .ref a), (1, .int (zI p1))] := hl
  refine lv_aload_n hx hb dX3_feedsIn_0 rfl (lv_at hl 0 rfl) ?_
  obtain ⟨k9, hk9⟩ := va_pl_get (X := gFx cy ad jf u) (f := u.2.2.2.2) ha
  refine va_get (C := RX3) (T := TX3) (N := 4) (ci := 2) hx hb hts (fun _ h => (List.mem_cons_of_mem _ (List.mem_append_left _ (List.mem_append_left _ (List.mem_append_right _ h))))) hown hC.1 hG.1 k9 (hk9.trans (by rw [hE])) rfl 3 (by decide) (hts (.fieldLink RX3 9 "StraitSwim$Plain" "feed" "I") (List.mem_cons_of_mem _ (List.mem_append_left _ (List.mem_append_left _ (List.mem_append_left _ (List.mem_append_left _ (List.mem_of_getElem? (i := 0) rfl))))))) (fun _ h9 => h9) rfl dX3_feedsIn_1 ?_
  refine z_if_le (tgt := 22) hx hb dX3_feedsIn_4 (by decide) (by omega) (by omega) (fun c_1 => ?_) (fun c_1 => ?_)
  · refine z_iconst hx hb dX3_feedsIn_22 ?_
    exact W.zret (ty := .boolean) (v := zI 0) hx hb hr (nar_b (by omega)) (fun t9 ht9_ hW => ⟨⟨zI 0, u, rfl, (by exact ⟨⟨0, rfl, by omega⟩, rfl⟩), gB.mk' hG hC hS ht9_ hW⟩, hS.F ht9_⟩) hS.2.2 dX3_feedsIn_23
  · refine lv_iload_n hx hb dX3_feedsIn_7 rfl (lv_at hl 1 rfl) ?_
    refine z_iconst hx hb dX3_feedsIn_8 ?_
    refine z_iadd hx hb dX3_feedsIn_9 ?_
    refine lv_aload_n hx hb dX3_feedsIn_10 rfl (lv_at hl 0 rfl) ?_
    obtain ⟨k9, hk9⟩ := va_pl_get (X := gFx cy ad jf u) (f := u.2.2.2.2) ha
    refine va_get (C := RX3) (T := TX3) (N := 4) (ci := 2) hx hb hts (fun _ h => (List.mem_cons_of_mem _ (List.mem_append_left _ (List.mem_append_left _ (List.mem_append_right _ h))))) hown hC.1 hG.1 k9 (hk9.trans (by rw [hE])) rfl 3 (by decide) (hts (.fieldLink RX3 9 "StraitSwim$Plain" "feed" "I") (List.mem_cons_of_mem _ (List.mem_append_left _ (List.mem_append_left _ (List.mem_append_left _ (List.mem_append_left _ (List.mem_of_getElem? (i := 0) rfl))))))) (fun _ h9 => h9) rfl dX3_feedsIn_11 ?_
    have q_2 : 0 ≤ (p1 + 1) % fd ∧ (p1 + 1) % fd < fd := ⟨Int.emod_nonneg _ (by omega), Int.emod_lt_of_pos _ (by omega)⟩
    refine z_irem hx hb dX3_feedsIn_14 (by omega) (by omega) (by omega) (by omega) ?_
    refine z_if_ne (tgt := 22) hx hb dX3_feedsIn_15 (by decide) (by omega) (by omega) (fun c_3 => ?_) (fun c_3 => ?_)
    · refine z_iconst hx hb dX3_feedsIn_22 ?_
      exact W.zret (ty := .boolean) (v := zI 0) hx hb hr (nar_b (by omega)) (fun t9 ht9_ hW => ⟨⟨zI 0, u, rfl, (by exact ⟨⟨0, rfl, by omega⟩, rfl⟩), gB.mk' hG hC hS ht9_ hW⟩, hS.F ht9_⟩) hS.2.2 dX3_feedsIn_23
    · refine z_iconst hx hb dX3_feedsIn_18 ?_
      refine lv_goto (tgt := 23) hx hb dX3_feedsIn_19 (by decide) ?_
      exact W.zret (ty := .boolean) (v := zI 1) hx hb hr (nar_b (by omega)) (fun t9 ht9_ hW => ⟨⟨zI 1, u, rfl, (by exact ⟨⟨1, rfl, by omega⟩, rfl⟩), gB.mk' hG hC hS ht9_ hW⟩, hS.F ht9_⟩) hS.2.2 dX3_feedsIn_23
set_option maxHeartbeats 4000000 in
set_option maxRecDepth 100000 in
theorem kX3_feedsIn_X0 (l : Launch) (D : va_G) (cy : Nat → ClassId) (ad : Nat → Nat) (jf : Nat → Int64) (A : Nat → Prop) (u : gS) (a : Nat) (nm sp li fd : Int) (p1 : Int) (ha : a ∈ u.2.2.2.1) (hE : u.2.2.2.2 a = .inr (0, [.int (zI nm), .int (zI sp), .int (zI li), .int (zI fd)])) (j_t : 0 ≤ p1 ∧ p1 ≤ 1000) (j_f : 0 ≤ fd ∧ fd ≤ 40) : Met l yX3_feedsIn wsX3_feedsIn ({ frames := 0, cells := 0, slots := 0, locals := 0 }) (va_Pc [.ref a, .int (zI p1)] (gB D cy ad jf A u)) (va_Qi (fun (r : Int32) (v : gS) => (∃ b : Int, r = zI b ∧ (b = 1 ∧ 0 < fd ∧ (p1 + 1) % fd = 0 ∨ b = 0 ∧ ¬ (0 < fd ∧ (p1 + 1) % fd = 0))) ∧ v = u) (gB D cy ad jf A) A) 0 0 A := by
  refine Met.ofW (cc := cX3_feedsIn) (maxL := 2) (ret := (some .boolean)) (by decide) rfl ?_
  intro p e s m args below meth c s₁ B hml hv
  obtain ⟨rfl, hG, hC⟩ := hv
  have hx := B.exec
  have hb := B.bytes
  have hr := B.returns
  have hts := atoms_spec (ws := wsX3_feedsIn) B.pre
  have hown : s.vm.findClass RX3 = some m.cls := findClass_of_methodNamed B.named
  have hlocks := B.notSynchronized
  have hS : va_S A s.heap s.heap [] := va_S.rf
  have hl := lv_entry ([.ref a, .int (zI p1)]) (n := 2) (Nat.le_of_ble_eq_true rfl)
  rw [lg_entry_eq]
  generalize (lg_sl ([.ref a, .int (zI p1)]) ++ List.replicate (2 - (lg_sl ([.ref a, .int (zI p1)])).length) Slot.unset).toArray = ls at hl ⊢
  have hl : lv_has ls 2 [(0, .ref a), (1, .int (zI p1))] := hl
  refine lv_aload_n hx hb dX3_feedsIn_0 rfl (lv_at hl 0 rfl) ?_
  obtain ⟨k9, hk9⟩ := va_pl_get (X := gFx cy ad jf u) (f := u.2.2.2.2) ha
  refine va_get (C := RX0) (T := TX0) (N := 4) (ci := 0) hx hb hts (fun _ h => (List.mem_cons_of_mem _ (List.mem_append_left _ (List.mem_append_left _ (List.mem_append_left _ (List.mem_append_right _ h)))))) hown hC.1 hG.1 k9 (hk9.trans (by rw [hE])) rfl 3 (by decide) (hts (.fieldLink RX3 9 "StraitSwim$Plain" "feed" "I") (List.mem_cons_of_mem _ (List.mem_append_left _ (List.mem_append_left _ (List.mem_append_left _ (List.mem_append_left _ (List.mem_of_getElem? (i := 0) rfl))))))) (fun _ h9 => h9) rfl dX3_feedsIn_1 ?_
  refine z_if_le (tgt := 22) hx hb dX3_feedsIn_4 (by decide) (by omega) (by omega) (fun c_1 => ?_) (fun c_1 => ?_)
  · refine z_iconst hx hb dX3_feedsIn_22 ?_
    exact W.zret (ty := .boolean) (v := zI 0) hx hb hr (nar_b (by omega)) (fun t9 ht9_ hW => ⟨⟨zI 0, u, rfl, (by exact ⟨⟨0, rfl, by omega⟩, rfl⟩), gB.mk' hG hC hS ht9_ hW⟩, hS.F ht9_⟩) hS.2.2 dX3_feedsIn_23
  · refine lv_iload_n hx hb dX3_feedsIn_7 rfl (lv_at hl 1 rfl) ?_
    refine z_iconst hx hb dX3_feedsIn_8 ?_
    refine z_iadd hx hb dX3_feedsIn_9 ?_
    refine lv_aload_n hx hb dX3_feedsIn_10 rfl (lv_at hl 0 rfl) ?_
    obtain ⟨k9, hk9⟩ := va_pl_get (X := gFx cy ad jf u) (f := u.2.2.2.2) ha
    refine va_get (C := RX0) (T := TX0) (N := 4) (ci := 0) hx hb hts (fun _ h => (List.mem_cons_of_mem _ (List.mem_append_left _ (List.mem_append_left _ (List.mem_append_left _ (List.mem_append_right _ h)))))) hown hC.1 hG.1 k9 (hk9.trans (by rw [hE])) rfl 3 (by decide) (hts (.fieldLink RX3 9 "StraitSwim$Plain" "feed" "I") (List.mem_cons_of_mem _ (List.mem_append_left _ (List.mem_append_left _ (List.mem_append_left _ (List.mem_append_left _ (List.mem_of_getElem? (i := 0) rfl))))))) (fun _ h9 => h9) rfl dX3_feedsIn_11 ?_
    have q_2 : 0 ≤ (p1 + 1) % fd ∧ (p1 + 1) % fd < fd := ⟨Int.emod_nonneg _ (by omega), Int.emod_lt_of_pos _ (by omega)⟩
    refine z_irem hx hb dX3_feedsIn_14 (by omega) (by omega) (by omega) (by omega) ?_
    refine z_if_ne (tgt := 22) hx hb dX3_feedsIn_15 (by decide) (by omega) (by omega) (fun c_3 => ?_) (fun c_3 => ?_)
    · refine z_iconst hx hb dX3_feedsIn_22 ?_
      exact W.zret (ty := .boolean) (v := zI 0) hx hb hr (nar_b (by omega)) (fun t9 ht9_ hW => ⟨⟨zI 0, u, rfl, (by exact ⟨⟨0, rfl, by omega⟩, rfl⟩), gB.mk' hG hC hS ht9_ hW⟩, hS.F ht9_⟩) hS.2.2 dX3_feedsIn_23
    · refine z_iconst hx hb dX3_feedsIn_18 ?_
      refine lv_goto (tgt := 23) hx hb dX3_feedsIn_19 (by decide) ?_
      exact W.zret (ty := .boolean) (v := zI 1) hx hb hr (nar_b (by omega)) (fun t9 ht9_ hW => ⟨⟨zI 1, u, rfl, (by exact ⟨⟨1, rfl, by omega⟩, rfl⟩), gB.mk' hG hC hS ht9_ hW⟩, hS.F ht9_⟩) hS.2.2 dX3_feedsIn_23
set_option maxHeartbeats 4000000 in
set_option maxRecDepth 100000 in
theorem kX3_feedsIn_X4 (l : Launch) (D : va_G) (cy : Nat → ClassId) (ad : Nat → Nat) (jf : Nat → Int64) (A : Nat → Prop) (u : gS) (a : Nat) (nm sp li fd : Int) (p1 : Int) (ha : a ∈ u.2.2.2.1) (hE : u.2.2.2.2 a = .inr (3, [.int (zI nm), .int (zI sp), .int (zI li), .int (zI fd)])) (j_t : 0 ≤ p1 ∧ p1 ≤ 1000) (j_f : 0 ≤ fd ∧ fd ≤ 40) : Met l yX3_feedsIn wsX3_feedsIn ({ frames := 0, cells := 0, slots := 0, locals := 0 }) (va_Pc [.ref a, .int (zI p1)] (gB D cy ad jf A u)) (va_Qi (fun (r : Int32) (v : gS) => (∃ b : Int, r = zI b ∧ (b = 1 ∧ 0 < fd ∧ (p1 + 1) % fd = 0 ∨ b = 0 ∧ ¬ (0 < fd ∧ (p1 + 1) % fd = 0))) ∧ v = u) (gB D cy ad jf A) A) 0 0 A := by
  refine Met.ofW (cc := cX3_feedsIn) (maxL := 2) (ret := (some .boolean)) (by decide) rfl ?_
  intro p e s m args below meth c s₁ B hml hv
  obtain ⟨rfl, hG, hC⟩ := hv
  have hx := B.exec
  have hb := B.bytes
  have hr := B.returns
  have hts := atoms_spec (ws := wsX3_feedsIn) B.pre
  have hown : s.vm.findClass RX3 = some m.cls := findClass_of_methodNamed B.named
  have hlocks := B.notSynchronized
  have hS : va_S A s.heap s.heap [] := va_S.rf
  have hl := lv_entry ([.ref a, .int (zI p1)]) (n := 2) (Nat.le_of_ble_eq_true rfl)
  rw [lg_entry_eq]
  generalize (lg_sl ([.ref a, .int (zI p1)]) ++ List.replicate (2 - (lg_sl ([.ref a, .int (zI p1)])).length) Slot.unset).toArray = ls at hl ⊢
  have hl : lv_has ls 2 [(0, .ref a), (1, .int (zI p1))] := hl
  refine lv_aload_n hx hb dX3_feedsIn_0 rfl (lv_at hl 0 rfl) ?_
  obtain ⟨k9, hk9⟩ := va_pl_get (X := gFx cy ad jf u) (f := u.2.2.2.2) ha
  refine va_get (C := RX4) (T := TX4) (N := 4) (ci := 3) hx hb hts (fun _ h => (List.mem_cons_of_mem _ (List.mem_append_left _ (List.mem_append_right _ h)))) hown hC.1 hG.1 k9 (hk9.trans (by rw [hE])) rfl 3 (by decide) (hts (.fieldLink RX3 9 "StraitSwim$Plain" "feed" "I") (List.mem_cons_of_mem _ (List.mem_append_left _ (List.mem_append_left _ (List.mem_append_left _ (List.mem_append_left _ (List.mem_of_getElem? (i := 0) rfl))))))) (fun _ h9 => h9) rfl dX3_feedsIn_1 ?_
  refine z_if_le (tgt := 22) hx hb dX3_feedsIn_4 (by decide) (by omega) (by omega) (fun c_1 => ?_) (fun c_1 => ?_)
  · refine z_iconst hx hb dX3_feedsIn_22 ?_
    exact W.zret (ty := .boolean) (v := zI 0) hx hb hr (nar_b (by omega)) (fun t9 ht9_ hW => ⟨⟨zI 0, u, rfl, (by exact ⟨⟨0, rfl, by omega⟩, rfl⟩), gB.mk' hG hC hS ht9_ hW⟩, hS.F ht9_⟩) hS.2.2 dX3_feedsIn_23
  · refine lv_iload_n hx hb dX3_feedsIn_7 rfl (lv_at hl 1 rfl) ?_
    refine z_iconst hx hb dX3_feedsIn_8 ?_
    refine z_iadd hx hb dX3_feedsIn_9 ?_
    refine lv_aload_n hx hb dX3_feedsIn_10 rfl (lv_at hl 0 rfl) ?_
    obtain ⟨k9, hk9⟩ := va_pl_get (X := gFx cy ad jf u) (f := u.2.2.2.2) ha
    refine va_get (C := RX4) (T := TX4) (N := 4) (ci := 3) hx hb hts (fun _ h => (List.mem_cons_of_mem _ (List.mem_append_left _ (List.mem_append_right _ h)))) hown hC.1 hG.1 k9 (hk9.trans (by rw [hE])) rfl 3 (by decide) (hts (.fieldLink RX3 9 "StraitSwim$Plain" "feed" "I") (List.mem_cons_of_mem _ (List.mem_append_left _ (List.mem_append_left _ (List.mem_append_left _ (List.mem_append_left _ (List.mem_of_getElem? (i := 0) rfl))))))) (fun _ h9 => h9) rfl dX3_feedsIn_11 ?_
    have q_2 : 0 ≤ (p1 + 1) % fd ∧ (p1 + 1) % fd < fd := ⟨Int.emod_nonneg _ (by omega), Int.emod_lt_of_pos _ (by omega)⟩
    refine z_irem hx hb dX3_feedsIn_14 (by omega) (by omega) (by omega) (by omega) ?_
    refine z_if_ne (tgt := 22) hx hb dX3_feedsIn_15 (by decide) (by omega) (by omega) (fun c_3 => ?_) (fun c_3 => ?_)
    · refine z_iconst hx hb dX3_feedsIn_22 ?_
      exact W.zret (ty := .boolean) (v := zI 0) hx hb hr (nar_b (by omega)) (fun t9 ht9_ hW => ⟨⟨zI 0, u, rfl, (by exact ⟨⟨0, rfl, by omega⟩, rfl⟩), gB.mk' hG hC hS ht9_ hW⟩, hS.F ht9_⟩) hS.2.2 dX3_feedsIn_23
    · refine z_iconst hx hb dX3_feedsIn_18 ?_
      refine lv_goto (tgt := 23) hx hb dX3_feedsIn_19 (by decide) ?_
      exact W.zret (ty := .boolean) (v := zI 1) hx hb hr (nar_b (by omega)) (fun t9 ht9_ hW => ⟨⟨zI 1, u, rfl, (by exact ⟨⟨1, rfl, by omega⟩, rfl⟩), gB.mk' hG hC hS ht9_ hW⟩, hS.F ht9_⟩) hS.2.2 dX3_feedsIn_23
set_option maxHeartbeats 4000000 in
set_option maxRecDepth 100000 in
theorem kX3_feedsIn_X6 (l : Launch) (D : va_G) (cy : Nat → ClassId) (ad : Nat → Nat) (jf : Nat → Int64) (A : Nat → Prop) (u : gS) (a : Nat) (nm sp li fd : Int) (p1 : Int) (ha : a ∈ u.2.2.2.1) (hE : u.2.2.2.2 a = .inr (5, [.int (zI nm), .int (zI sp), .int (zI li), .int (zI fd)])) (j_t : 0 ≤ p1 ∧ p1 ≤ 1000) (j_f : 0 ≤ fd ∧ fd ≤ 40) : Met l yX3_feedsIn wsX3_feedsIn ({ frames := 0, cells := 0, slots := 0, locals := 0 }) (va_Pc [.ref a, .int (zI p1)] (gB D cy ad jf A u)) (va_Qi (fun (r : Int32) (v : gS) => (∃ b : Int, r = zI b ∧ (b = 1 ∧ 0 < fd ∧ (p1 + 1) % fd = 0 ∨ b = 0 ∧ ¬ (0 < fd ∧ (p1 + 1) % fd = 0))) ∧ v = u) (gB D cy ad jf A) A) 0 0 A := by
  refine Met.ofW (cc := cX3_feedsIn) (maxL := 2) (ret := (some .boolean)) (by decide) rfl ?_
  intro p e s m args below meth c s₁ B hml hv
  obtain ⟨rfl, hG, hC⟩ := hv
  have hx := B.exec
  have hb := B.bytes
  have hr := B.returns
  have hts := atoms_spec (ws := wsX3_feedsIn) B.pre
  have hown : s.vm.findClass RX3 = some m.cls := findClass_of_methodNamed B.named
  have hlocks := B.notSynchronized
  have hS : va_S A s.heap s.heap [] := va_S.rf
  have hl := lv_entry ([.ref a, .int (zI p1)]) (n := 2) (Nat.le_of_ble_eq_true rfl)
  rw [lg_entry_eq]
  generalize (lg_sl ([.ref a, .int (zI p1)]) ++ List.replicate (2 - (lg_sl ([.ref a, .int (zI p1)])).length) Slot.unset).toArray = ls at hl ⊢
  have hl : lv_has ls 2 [(0, .ref a), (1, .int (zI p1))] := hl
  refine lv_aload_n hx hb dX3_feedsIn_0 rfl (lv_at hl 0 rfl) ?_
  obtain ⟨k9, hk9⟩ := va_pl_get (X := gFx cy ad jf u) (f := u.2.2.2.2) ha
  refine va_get (C := RX6) (T := TX6) (N := 4) (ci := 5) hx hb hts (fun _ h => (List.mem_cons_of_mem _ (List.mem_append_right _ h))) hown hC.1 hG.1 k9 (hk9.trans (by rw [hE])) rfl 3 (by decide) (hts (.fieldLink RX3 9 "StraitSwim$Plain" "feed" "I") (List.mem_cons_of_mem _ (List.mem_append_left _ (List.mem_append_left _ (List.mem_append_left _ (List.mem_append_left _ (List.mem_of_getElem? (i := 0) rfl))))))) (fun _ h9 => h9) rfl dX3_feedsIn_1 ?_
  refine z_if_le (tgt := 22) hx hb dX3_feedsIn_4 (by decide) (by omega) (by omega) (fun c_1 => ?_) (fun c_1 => ?_)
  · refine z_iconst hx hb dX3_feedsIn_22 ?_
    exact W.zret (ty := .boolean) (v := zI 0) hx hb hr (nar_b (by omega)) (fun t9 ht9_ hW => ⟨⟨zI 0, u, rfl, (by exact ⟨⟨0, rfl, by omega⟩, rfl⟩), gB.mk' hG hC hS ht9_ hW⟩, hS.F ht9_⟩) hS.2.2 dX3_feedsIn_23
  · refine lv_iload_n hx hb dX3_feedsIn_7 rfl (lv_at hl 1 rfl) ?_
    refine z_iconst hx hb dX3_feedsIn_8 ?_
    refine z_iadd hx hb dX3_feedsIn_9 ?_
    refine lv_aload_n hx hb dX3_feedsIn_10 rfl (lv_at hl 0 rfl) ?_
    obtain ⟨k9, hk9⟩ := va_pl_get (X := gFx cy ad jf u) (f := u.2.2.2.2) ha
    refine va_get (C := RX6) (T := TX6) (N := 4) (ci := 5) hx hb hts (fun _ h => (List.mem_cons_of_mem _ (List.mem_append_right _ h))) hown hC.1 hG.1 k9 (hk9.trans (by rw [hE])) rfl 3 (by decide) (hts (.fieldLink RX3 9 "StraitSwim$Plain" "feed" "I") (List.mem_cons_of_mem _ (List.mem_append_left _ (List.mem_append_left _ (List.mem_append_left _ (List.mem_append_left _ (List.mem_of_getElem? (i := 0) rfl))))))) (fun _ h9 => h9) rfl dX3_feedsIn_11 ?_
    have q_2 : 0 ≤ (p1 + 1) % fd ∧ (p1 + 1) % fd < fd := ⟨Int.emod_nonneg _ (by omega), Int.emod_lt_of_pos _ (by omega)⟩
    refine z_irem hx hb dX3_feedsIn_14 (by omega) (by omega) (by omega) (by omega) ?_
    refine z_if_ne (tgt := 22) hx hb dX3_feedsIn_15 (by decide) (by omega) (by omega) (fun c_3 => ?_) (fun c_3 => ?_)
    · refine z_iconst hx hb dX3_feedsIn_22 ?_
      exact W.zret (ty := .boolean) (v := zI 0) hx hb hr (nar_b (by omega)) (fun t9 ht9_ hW => ⟨⟨zI 0, u, rfl, (by exact ⟨⟨0, rfl, by omega⟩, rfl⟩), gB.mk' hG hC hS ht9_ hW⟩, hS.F ht9_⟩) hS.2.2 dX3_feedsIn_23
    · refine z_iconst hx hb dX3_feedsIn_18 ?_
      refine lv_goto (tgt := 23) hx hb dX3_feedsIn_19 (by decide) ?_
      exact W.zret (ty := .boolean) (v := zI 1) hx hb hr (nar_b (by omega)) (fun t9 ht9_ hW => ⟨⟨zI 1, u, rfl, (by exact ⟨⟨1, rfl, by omega⟩, rfl⟩), gB.mk' hG hC hS ht9_ hW⟩, hS.F ht9_⟩) hS.2.2 dX3_feedsIn_23
set_option maxHeartbeats 4000000 in
set_option maxRecDepth 100000 in
theorem kX3_strideIn_X3 (l : Launch) (D : va_G) (cy : Nat → ClassId) (ad : Nat → Nat) (jf : Nat → Int64) (A : Nat → Prop) (u : gS) (a : Nat) (nm sp li fd : Int) (p1 : Int) (ha : a ∈ u.2.2.2.1) (hE : u.2.2.2.2 a = .inr (2, [.int (zI nm), .int (zI sp), .int (zI li), .int (zI fd)])) (j_t : 0 ≤ p1 ∧ p1 ≤ 1000) (j_s : 0 ≤ sp ∧ sp ≤ 20) (j_f : 0 ≤ fd ∧ fd ≤ 40) : Met l yX3_strideIn wsX3_strideIn ({ frames := 2, cells := 0, slots := 0, locals := 51 }) (va_Pc [.ref a, .int (zI p1)] (gB D cy ad jf A u)) (va_Qi (fun (r : Int32) (v : gS) => r = zI (spPace 0 sp fd p1) ∧ v = u) (gB D cy ad jf A) A) 0 0 A := by
  refine Met.ofW (cc := cX3_strideIn) (maxL := 2) (ret := (some .int)) (by decide) rfl ?_
  intro p e s m args below meth c s₁ B hml hv
  obtain ⟨rfl, hG, hC⟩ := hv
  have hx := B.exec
  have hb := B.bytes
  have hr := B.returns
  have hts := atoms_spec (ws := wsX3_strideIn) B.pre
  have hown : s.vm.findClass RX3 = some m.cls := findClass_of_methodNamed B.named
  have hlocks := B.notSynchronized
  have hS : va_S A s.heap s.heap [] := va_S.rf
  have hl := lv_entry ([.ref a, .int (zI p1)]) (n := 2) (Nat.le_of_ble_eq_true rfl)
  rw [lg_entry_eq]
  generalize (lg_sl ([.ref a, .int (zI p1)]) ++ List.replicate (2 - (lg_sl ([.ref a, .int (zI p1)])).length) Slot.unset).toArray = ls at hl ⊢
  have hl : lv_has ls 2 [(0, .ref a), (1, .int (zI p1))] := hl
  refine lv_aload_n hx hb dX3_strideIn_0 rfl (lv_at hl 0 rfl) ?_
  refine lv_iload_n hx hb dX3_strideIn_1 rfl (lv_at hl 1 rfl) ?_
  obtain ⟨k9, hk9⟩ := va_pl_get (X := gFx cy ad jf u) (f := u.2.2.2.2) ha
  refine g_calli (va_runV (As := [.int (zI p1)]) (rest := []) ⟨hx, hb, hml, hown, hts⟩ (kX3_feedsIn_X3 l D cy ad jf A u a nm sp li fd p1 ha hE (by omega) (by omega)) (cwV 1 hts gX3_strideIn_X3_feedsIn rfl rfl rfl (by decide +kernel) ⟨by decide, by decide⟩) (g_preD (C := RX3) hG hC hS (hk9.trans (by rw [hE])) rfl) rfl rfl hl.1 rfl (lv_room (Nat.le_of_ble_eq_true rfl)) dX3_strideIn_2 ⟨Nat.le_of_ble_eq_true rfl, Nat.le_of_ble_eq_true rfl⟩) hS (fun r1 u2 H locs p_3 hG hS => ?_)
  obtain ⟨⟨b4, rfl, q_5⟩, he_⟩ := p_3
  rw [he_] at hG; clear he_
  have hbb4 : 0 ≤ b4 ∧ b4 ≤ 1 := by rcases q_5 with ⟨h, _⟩ | ⟨h, _⟩ <;> omega
  refine z_if_eq (tgt := 18) hx hb dX3_strideIn_5 (by decide) (by omega) (by omega) (fun c_6 => ?_) (fun c_6 => ?_)
  · refine lv_aload_n hx hb dX3_strideIn_18 rfl (lv_at hl 0 rfl) ?_
    refine lv_iload_n hx hb dX3_strideIn_19 rfl (lv_at hl 1 rfl) ?_
    obtain ⟨k9, hk9⟩ := va_pl_get (X := gFx cy ad jf u) (f := u.2.2.2.2) ha
    refine g_calli (va_runV (As := [.int (zI p1)]) (rest := []) ⟨hx, hb, hml, hown, hts⟩ (kX3_paceIn_X3 l D cy ad jf A u a nm sp li fd p1 ha hE (by omega) (by omega)) (cwV 1 hts gX3_strideIn_X3_paceIn rfl rfl rfl (by decide +kernel) ⟨by decide, by decide⟩) (g_preD (C := RX3) hG hC hS (hk9.trans (by rw [hE])) rfl) rfl rfl hl.1 rfl (lv_room (Nat.le_of_ble_eq_true rfl)) dX3_strideIn_20 ⟨Nat.le_of_ble_eq_true rfl, Nat.le_of_ble_eq_true rfl⟩) hS (fun r7 u8 H locs p_9 hG hS => ?_)
    obtain ⟨rfl, he_⟩ := p_9
    rw [he_] at hG; clear he_
    obtain ⟨z10, hz10⟩ : ∃ z : Int, z = spAt1 (sp - p1 / 6) := ⟨_, rfl⟩
    rw [← hz10]
    have qz10 : 1 ≤ z10 ∧ z10 ≤ 24 := by rw [hz10]; (first | omega | (unfold spAt1; split <;> omega) | (unfold spAt1; split <;> split <;> omega) | (split <;> first | omega | (unfold spAt1; split <;> omega)) | (unfold spPace spPc spAt1; split <;> (first | omega | (split <;> first | omega | (split <;> omega)))))
    exact W.iret (v := zI z10) hx hb hr (fun t9 ht9_ hW => ⟨⟨zI z10, u, rfl, (by refine ⟨?_, rfl⟩; unfold spPace spPc; (repeat (first | rw [if_pos (by omega)] | rw [if_neg (by omega)])); all_goals (subst_vars; (repeat (first | rw [if_pos (by omega)] | rw [if_neg (by omega)])); all_goals first | rfl | (congr 1; omega))), gB.mk' hG hC hS ht9_ hW⟩, hS.F ht9_⟩) hS.2.2 dX3_strideIn_23
  · refine lv_aload_n hx hb dX3_strideIn_8 rfl (lv_at hl 0 rfl) ?_
    refine lv_iload_n hx hb dX3_strideIn_9 rfl (lv_at hl 1 rfl) ?_
    obtain ⟨k9, hk9⟩ := va_pl_get (X := gFx cy ad jf u) (f := u.2.2.2.2) ha
    refine g_calli (va_runV (As := [.int (zI p1)]) (rest := []) ⟨hx, hb, hml, hown, hts⟩ (kX3_paceIn_X3 l D cy ad jf A u a nm sp li fd p1 ha hE (by omega) (by omega)) (cwV 1 hts gX3_strideIn_X3_paceIn rfl rfl rfl (by decide +kernel) ⟨by decide, by decide⟩) (g_preD (C := RX3) hG hC hS (hk9.trans (by rw [hE])) rfl) rfl rfl hl.1 rfl (lv_room (Nat.le_of_ble_eq_true rfl)) dX3_strideIn_10 ⟨Nat.le_of_ble_eq_true rfl, Nat.le_of_ble_eq_true rfl⟩) hS (fun r11 u12 H locs p_13 hG hS => ?_)
    obtain ⟨rfl, he_⟩ := p_13
    rw [he_] at hG; clear he_
    obtain ⟨z14, hz14⟩ : ∃ z : Int, z = spAt1 (sp - p1 / 6) := ⟨_, rfl⟩
    rw [← hz14]
    have qz14 : 1 ≤ z14 ∧ z14 ≤ 24 := by rw [hz14]; (first | omega | (unfold spAt1; split <;> omega) | (unfold spAt1; split <;> split <;> omega) | (split <;> first | omega | (unfold spAt1; split <;> omega)) | (unfold spPace spPc spAt1; split <;> (first | omega | (split <;> first | omega | (split <;> omega)))))
    refine z_iconst hx hb dX3_strideIn_13 ?_
    refine z_idiv hx hb dX3_strideIn_14 (by omega) (by omega) (by omega) (by omega) ?_
    refine lv_goto (tgt := 23) hx hb dX3_strideIn_15 (by decide) ?_
    exact W.iret (v := zI (z14 / 2)) hx hb hr (fun t9 ht9_ hW => ⟨⟨zI (z14 / 2), u, rfl, (by refine ⟨?_, rfl⟩; unfold spPace spPc; (repeat (first | rw [if_pos (by omega)] | rw [if_neg (by omega)])); all_goals (subst_vars; (repeat (first | rw [if_pos (by omega)] | rw [if_neg (by omega)])); all_goals first | rfl | (congr 1; omega))), gB.mk' hG hC hS ht9_ hW⟩, hS.F ht9_⟩) hS.2.2 dX3_strideIn_23
set_option maxHeartbeats 4000000 in
set_option maxRecDepth 100000 in
theorem kX3_strideIn_X0 (l : Launch) (D : va_G) (cy : Nat → ClassId) (ad : Nat → Nat) (jf : Nat → Int64) (A : Nat → Prop) (u : gS) (a : Nat) (nm sp li fd : Int) (p1 : Int) (ha : a ∈ u.2.2.2.1) (hE : u.2.2.2.2 a = .inr (0, [.int (zI nm), .int (zI sp), .int (zI li), .int (zI fd)])) (j_t : 0 ≤ p1 ∧ p1 ≤ 1000) (j_s : 0 ≤ sp ∧ sp ≤ 20) (j_f : 0 ≤ fd ∧ fd ≤ 40) : Met l yX3_strideIn wsX3_strideIn ({ frames := 2, cells := 0, slots := 0, locals := 51 }) (va_Pc [.ref a, .int (zI p1)] (gB D cy ad jf A u)) (va_Qi (fun (r : Int32) (v : gS) => r = zI (spPace 1 sp fd p1) ∧ v = u) (gB D cy ad jf A) A) 0 0 A := by
  refine Met.ofW (cc := cX3_strideIn) (maxL := 2) (ret := (some .int)) (by decide) rfl ?_
  intro p e s m args below meth c s₁ B hml hv
  obtain ⟨rfl, hG, hC⟩ := hv
  have hx := B.exec
  have hb := B.bytes
  have hr := B.returns
  have hts := atoms_spec (ws := wsX3_strideIn) B.pre
  have hown : s.vm.findClass RX3 = some m.cls := findClass_of_methodNamed B.named
  have hlocks := B.notSynchronized
  have hS : va_S A s.heap s.heap [] := va_S.rf
  have hl := lv_entry ([.ref a, .int (zI p1)]) (n := 2) (Nat.le_of_ble_eq_true rfl)
  rw [lg_entry_eq]
  generalize (lg_sl ([.ref a, .int (zI p1)]) ++ List.replicate (2 - (lg_sl ([.ref a, .int (zI p1)])).length) Slot.unset).toArray = ls at hl ⊢
  have hl : lv_has ls 2 [(0, .ref a), (1, .int (zI p1))] := hl
  refine lv_aload_n hx hb dX3_strideIn_0 rfl (lv_at hl 0 rfl) ?_
  refine lv_iload_n hx hb dX3_strideIn_1 rfl (lv_at hl 1 rfl) ?_
  obtain ⟨k9, hk9⟩ := va_pl_get (X := gFx cy ad jf u) (f := u.2.2.2.2) ha
  refine g_calli (va_runU (As := [.int (zI p1)]) (rest := []) ⟨hx, hb, hml, hown, hts⟩ (kX3_feedsIn_X0 l D cy ad jf A u a nm sp li fd p1 ha hE (by omega) (by omega)) (va_cwU 1 hts gX3_strideIn_X3_feedsIn_u30X0 rfl rfl rfl rfl (by decide +kernel) ⟨by decide, by decide⟩) (g_preD (C := RX0) hG hC hS (hk9.trans (by rw [hE])) rfl) rfl rfl hl.1 rfl (lv_room (Nat.le_of_ble_eq_true rfl)) dX3_strideIn_2 ⟨Nat.le_of_ble_eq_true rfl, Nat.le_of_ble_eq_true rfl⟩) hS (fun r1 u2 H locs p_3 hG hS => ?_)
  obtain ⟨⟨b4, rfl, q_5⟩, he_⟩ := p_3
  rw [he_] at hG; clear he_
  have hbb4 : 0 ≤ b4 ∧ b4 ≤ 1 := by rcases q_5 with ⟨h, _⟩ | ⟨h, _⟩ <;> omega
  refine z_if_eq (tgt := 18) hx hb dX3_strideIn_5 (by decide) (by omega) (by omega) (fun c_6 => ?_) (fun c_6 => ?_)
  · refine lv_aload_n hx hb dX3_strideIn_18 rfl (lv_at hl 0 rfl) ?_
    refine lv_iload_n hx hb dX3_strideIn_19 rfl (lv_at hl 1 rfl) ?_
    obtain ⟨k9, hk9⟩ := va_pl_get (X := gFx cy ad jf u) (f := u.2.2.2.2) ha
    refine g_calli (va_runU (As := [.int (zI p1)]) (rest := []) ⟨hx, hb, hml, hown, hts⟩ (kX3_paceIn_X0 l D cy ad jf A u a nm sp li fd p1 ha hE (by omega) (by omega)) (va_cwU 1 hts gX3_strideIn_X3_paceIn_u34X0 rfl rfl rfl rfl (by decide +kernel) ⟨by decide, by decide⟩) (g_preD (C := RX0) hG hC hS (hk9.trans (by rw [hE])) rfl) rfl rfl hl.1 rfl (lv_room (Nat.le_of_ble_eq_true rfl)) dX3_strideIn_20 ⟨Nat.le_of_ble_eq_true rfl, Nat.le_of_ble_eq_true rfl⟩) hS (fun r7 u8 H locs p_9 hG hS => ?_)
    obtain ⟨rfl, he_⟩ := p_9
    rw [he_] at hG; clear he_
    obtain ⟨z10, hz10⟩ : ∃ z : Int, z = spAt1 (sp - p1 / 6) := ⟨_, rfl⟩
    rw [← hz10]
    have qz10 : 1 ≤ z10 ∧ z10 ≤ 24 := by rw [hz10]; (first | omega | (unfold spAt1; split <;> omega) | (unfold spAt1; split <;> split <;> omega) | (split <;> first | omega | (unfold spAt1; split <;> omega)) | (unfold spPace spPc spAt1; split <;> (first | omega | (split <;> first | omega | (split <;> omega)))))
    exact W.iret (v := zI z10) hx hb hr (fun t9 ht9_ hW => ⟨⟨zI z10, u, rfl, (by refine ⟨?_, rfl⟩; unfold spPace spPc; (repeat (first | rw [if_pos (by omega)] | rw [if_neg (by omega)])); all_goals (subst_vars; (repeat (first | rw [if_pos (by omega)] | rw [if_neg (by omega)])); all_goals first | rfl | (congr 1; omega))), gB.mk' hG hC hS ht9_ hW⟩, hS.F ht9_⟩) hS.2.2 dX3_strideIn_23
  · refine lv_aload_n hx hb dX3_strideIn_8 rfl (lv_at hl 0 rfl) ?_
    refine lv_iload_n hx hb dX3_strideIn_9 rfl (lv_at hl 1 rfl) ?_
    obtain ⟨k9, hk9⟩ := va_pl_get (X := gFx cy ad jf u) (f := u.2.2.2.2) ha
    refine g_calli (va_runU (As := [.int (zI p1)]) (rest := []) ⟨hx, hb, hml, hown, hts⟩ (kX3_paceIn_X0 l D cy ad jf A u a nm sp li fd p1 ha hE (by omega) (by omega)) (va_cwU 1 hts gX3_strideIn_X3_paceIn_u34X0 rfl rfl rfl rfl (by decide +kernel) ⟨by decide, by decide⟩) (g_preD (C := RX0) hG hC hS (hk9.trans (by rw [hE])) rfl) rfl rfl hl.1 rfl (lv_room (Nat.le_of_ble_eq_true rfl)) dX3_strideIn_10 ⟨Nat.le_of_ble_eq_true rfl, Nat.le_of_ble_eq_true rfl⟩) hS (fun r11 u12 H locs p_13 hG hS => ?_)
    obtain ⟨rfl, he_⟩ := p_13
    rw [he_] at hG; clear he_
    obtain ⟨z14, hz14⟩ : ∃ z : Int, z = spAt1 (sp - p1 / 6) := ⟨_, rfl⟩
    rw [← hz14]
    have qz14 : 1 ≤ z14 ∧ z14 ≤ 24 := by rw [hz14]; (first | omega | (unfold spAt1; split <;> omega) | (unfold spAt1; split <;> split <;> omega) | (split <;> first | omega | (unfold spAt1; split <;> omega)) | (unfold spPace spPc spAt1; split <;> (first | omega | (split <;> first | omega | (split <;> omega)))))
    refine z_iconst hx hb dX3_strideIn_13 ?_
    refine z_idiv hx hb dX3_strideIn_14 (by omega) (by omega) (by omega) (by omega) ?_
    refine lv_goto (tgt := 23) hx hb dX3_strideIn_15 (by decide) ?_
    exact W.iret (v := zI (z14 / 2)) hx hb hr (fun t9 ht9_ hW => ⟨⟨zI (z14 / 2), u, rfl, (by refine ⟨?_, rfl⟩; unfold spPace spPc; (repeat (first | rw [if_pos (by omega)] | rw [if_neg (by omega)])); all_goals (subst_vars; (repeat (first | rw [if_pos (by omega)] | rw [if_neg (by omega)])); all_goals first | rfl | (congr 1; omega))), gB.mk' hG hC hS ht9_ hW⟩, hS.F ht9_⟩) hS.2.2 dX3_strideIn_23
set_option maxHeartbeats 4000000 in
set_option maxRecDepth 100000 in
theorem kX3_strideIn_X4 (l : Launch) (D : va_G) (cy : Nat → ClassId) (ad : Nat → Nat) (jf : Nat → Int64) (A : Nat → Prop) (u : gS) (a : Nat) (nm sp li fd : Int) (p1 : Int) (ha : a ∈ u.2.2.2.1) (hE : u.2.2.2.2 a = .inr (3, [.int (zI nm), .int (zI sp), .int (zI li), .int (zI fd)])) (j_t : 0 ≤ p1 ∧ p1 ≤ 1000) (j_s : 0 ≤ sp ∧ sp ≤ 20) (j_f : 0 ≤ fd ∧ fd ≤ 40) : Met l yX3_strideIn wsX3_strideIn ({ frames := 2, cells := 0, slots := 0, locals := 51 }) (va_Pc [.ref a, .int (zI p1)] (gB D cy ad jf A u)) (va_Qi (fun (r : Int32) (v : gS) => r = zI (spPace 2 sp fd p1) ∧ v = u) (gB D cy ad jf A) A) 0 0 A := by
  refine Met.ofW (cc := cX3_strideIn) (maxL := 2) (ret := (some .int)) (by decide) rfl ?_
  intro p e s m args below meth c s₁ B hml hv
  obtain ⟨rfl, hG, hC⟩ := hv
  have hx := B.exec
  have hb := B.bytes
  have hr := B.returns
  have hts := atoms_spec (ws := wsX3_strideIn) B.pre
  have hown : s.vm.findClass RX3 = some m.cls := findClass_of_methodNamed B.named
  have hlocks := B.notSynchronized
  have hS : va_S A s.heap s.heap [] := va_S.rf
  have hl := lv_entry ([.ref a, .int (zI p1)]) (n := 2) (Nat.le_of_ble_eq_true rfl)
  rw [lg_entry_eq]
  generalize (lg_sl ([.ref a, .int (zI p1)]) ++ List.replicate (2 - (lg_sl ([.ref a, .int (zI p1)])).length) Slot.unset).toArray = ls at hl ⊢
  have hl : lv_has ls 2 [(0, .ref a), (1, .int (zI p1))] := hl
  refine lv_aload_n hx hb dX3_strideIn_0 rfl (lv_at hl 0 rfl) ?_
  refine lv_iload_n hx hb dX3_strideIn_1 rfl (lv_at hl 1 rfl) ?_
  obtain ⟨k9, hk9⟩ := va_pl_get (X := gFx cy ad jf u) (f := u.2.2.2.2) ha
  refine g_calli (va_runU (As := [.int (zI p1)]) (rest := []) ⟨hx, hb, hml, hown, hts⟩ (kX3_feedsIn_X4 l D cy ad jf A u a nm sp li fd p1 ha hE (by omega) (by omega)) (va_cwU 1 hts gX3_strideIn_X3_feedsIn_u30X4 rfl rfl rfl rfl (by decide +kernel) ⟨by decide, by decide⟩) (g_preD (C := RX4) hG hC hS (hk9.trans (by rw [hE])) rfl) rfl rfl hl.1 rfl (lv_room (Nat.le_of_ble_eq_true rfl)) dX3_strideIn_2 ⟨Nat.le_of_ble_eq_true rfl, Nat.le_of_ble_eq_true rfl⟩) hS (fun r1 u2 H locs p_3 hG hS => ?_)
  obtain ⟨⟨b4, rfl, q_5⟩, he_⟩ := p_3
  rw [he_] at hG; clear he_
  have hbb4 : 0 ≤ b4 ∧ b4 ≤ 1 := by rcases q_5 with ⟨h, _⟩ | ⟨h, _⟩ <;> omega
  refine z_if_eq (tgt := 18) hx hb dX3_strideIn_5 (by decide) (by omega) (by omega) (fun c_6 => ?_) (fun c_6 => ?_)
  · refine lv_aload_n hx hb dX3_strideIn_18 rfl (lv_at hl 0 rfl) ?_
    refine lv_iload_n hx hb dX3_strideIn_19 rfl (lv_at hl 1 rfl) ?_
    obtain ⟨k9, hk9⟩ := va_pl_get (X := gFx cy ad jf u) (f := u.2.2.2.2) ha
    refine g_calli (va_runU (As := [.int (zI p1)]) (rest := []) ⟨hx, hb, hml, hown, hts⟩ (kX4_paceIn_X4 l D cy ad jf A u a nm sp li fd p1 ha hE (by omega) (by omega)) (va_cwO 1 hts gX3_strideIn_X4_paceIn_u34X4 rfl rfl rfl (List.mem_cons_of_mem _ (List.mem_append_left _ (List.mem_append_left _ (List.mem_append_left _ (List.mem_append_left _ (List.mem_append_left _ (List.mem_of_getElem? (i := 15) rfl))))))) (by decide +kernel) ⟨by decide, by decide⟩) (g_preD (C := RX4) hG hC hS (hk9.trans (by rw [hE])) rfl) rfl rfl hl.1 rfl (lv_room (Nat.le_of_ble_eq_true rfl)) dX3_strideIn_20 ⟨Nat.le_of_ble_eq_true rfl, Nat.le_of_ble_eq_true rfl⟩) hS (fun r7 u8 H locs p_9 hG hS => ?_)
    obtain ⟨rfl, he_⟩ := p_9
    rw [he_] at hG; clear he_
    obtain ⟨z10, hz10⟩ : ∃ z : Int, z = (if p1 < 8 then sp + 4 else spAt1 (sp - p1 / 4)) := ⟨_, rfl⟩
    rw [← hz10]
    have qz10 : 1 ≤ z10 ∧ z10 ≤ 24 := by rw [hz10]; (first | omega | (unfold spAt1; split <;> omega) | (unfold spAt1; split <;> split <;> omega) | (split <;> first | omega | (unfold spAt1; split <;> omega)) | (unfold spPace spPc spAt1; split <;> (first | omega | (split <;> first | omega | (split <;> omega)))))
    exact W.iret (v := zI z10) hx hb hr (fun t9 ht9_ hW => ⟨⟨zI z10, u, rfl, (by refine ⟨?_, rfl⟩; unfold spPace spPc; (repeat (first | rw [if_pos (by omega)] | rw [if_neg (by omega)])); all_goals (subst_vars; (repeat (first | rw [if_pos (by omega)] | rw [if_neg (by omega)])); all_goals first | rfl | (congr 1; omega))), gB.mk' hG hC hS ht9_ hW⟩, hS.F ht9_⟩) hS.2.2 dX3_strideIn_23
  · refine lv_aload_n hx hb dX3_strideIn_8 rfl (lv_at hl 0 rfl) ?_
    refine lv_iload_n hx hb dX3_strideIn_9 rfl (lv_at hl 1 rfl) ?_
    obtain ⟨k9, hk9⟩ := va_pl_get (X := gFx cy ad jf u) (f := u.2.2.2.2) ha
    refine g_calli (va_runU (As := [.int (zI p1)]) (rest := []) ⟨hx, hb, hml, hown, hts⟩ (kX4_paceIn_X4 l D cy ad jf A u a nm sp li fd p1 ha hE (by omega) (by omega)) (va_cwO 1 hts gX3_strideIn_X4_paceIn_u34X4 rfl rfl rfl (List.mem_cons_of_mem _ (List.mem_append_left _ (List.mem_append_left _ (List.mem_append_left _ (List.mem_append_left _ (List.mem_append_left _ (List.mem_of_getElem? (i := 15) rfl))))))) (by decide +kernel) ⟨by decide, by decide⟩) (g_preD (C := RX4) hG hC hS (hk9.trans (by rw [hE])) rfl) rfl rfl hl.1 rfl (lv_room (Nat.le_of_ble_eq_true rfl)) dX3_strideIn_10 ⟨Nat.le_of_ble_eq_true rfl, Nat.le_of_ble_eq_true rfl⟩) hS (fun r11 u12 H locs p_13 hG hS => ?_)
    obtain ⟨rfl, he_⟩ := p_13
    rw [he_] at hG; clear he_
    obtain ⟨z14, hz14⟩ : ∃ z : Int, z = (if p1 < 8 then sp + 4 else spAt1 (sp - p1 / 4)) := ⟨_, rfl⟩
    rw [← hz14]
    have qz14 : 1 ≤ z14 ∧ z14 ≤ 24 := by rw [hz14]; (first | omega | (unfold spAt1; split <;> omega) | (unfold spAt1; split <;> split <;> omega) | (split <;> first | omega | (unfold spAt1; split <;> omega)) | (unfold spPace spPc spAt1; split <;> (first | omega | (split <;> first | omega | (split <;> omega)))))
    refine z_iconst hx hb dX3_strideIn_13 ?_
    refine z_idiv hx hb dX3_strideIn_14 (by omega) (by omega) (by omega) (by omega) ?_
    refine lv_goto (tgt := 23) hx hb dX3_strideIn_15 (by decide) ?_
    exact W.iret (v := zI (z14 / 2)) hx hb hr (fun t9 ht9_ hW => ⟨⟨zI (z14 / 2), u, rfl, (by refine ⟨?_, rfl⟩; unfold spPace spPc; (repeat (first | rw [if_pos (by omega)] | rw [if_neg (by omega)])); all_goals (subst_vars; (repeat (first | rw [if_pos (by omega)] | rw [if_neg (by omega)])); all_goals first | rfl | (congr 1; omega))), gB.mk' hG hC hS ht9_ hW⟩, hS.F ht9_⟩) hS.2.2 dX3_strideIn_23
set_option maxHeartbeats 4000000 in
set_option maxRecDepth 100000 in
theorem kX3_strideIn_X6 (l : Launch) (D : va_G) (cy : Nat → ClassId) (ad : Nat → Nat) (jf : Nat → Int64) (A : Nat → Prop) (u : gS) (a : Nat) (nm sp li fd : Int) (p1 : Int) (ha : a ∈ u.2.2.2.1) (hE : u.2.2.2.2 a = .inr (5, [.int (zI nm), .int (zI sp), .int (zI li), .int (zI fd)])) (j_t : 0 ≤ p1 ∧ p1 ≤ 1000) (j_s : 0 ≤ sp ∧ sp ≤ 20) (j_f : 0 ≤ fd ∧ fd ≤ 40) : Met l yX3_strideIn wsX3_strideIn ({ frames := 2, cells := 0, slots := 0, locals := 51 }) (va_Pc [.ref a, .int (zI p1)] (gB D cy ad jf A u)) (va_Qi (fun (r : Int32) (v : gS) => r = zI (spPace 3 sp fd p1) ∧ v = u) (gB D cy ad jf A) A) 0 0 A := by
  refine Met.ofW (cc := cX3_strideIn) (maxL := 2) (ret := (some .int)) (by decide) rfl ?_
  intro p e s m args below meth c s₁ B hml hv
  obtain ⟨rfl, hG, hC⟩ := hv
  have hx := B.exec
  have hb := B.bytes
  have hr := B.returns
  have hts := atoms_spec (ws := wsX3_strideIn) B.pre
  have hown : s.vm.findClass RX3 = some m.cls := findClass_of_methodNamed B.named
  have hlocks := B.notSynchronized
  have hS : va_S A s.heap s.heap [] := va_S.rf
  have hl := lv_entry ([.ref a, .int (zI p1)]) (n := 2) (Nat.le_of_ble_eq_true rfl)
  rw [lg_entry_eq]
  generalize (lg_sl ([.ref a, .int (zI p1)]) ++ List.replicate (2 - (lg_sl ([.ref a, .int (zI p1)])).length) Slot.unset).toArray = ls at hl ⊢
  have hl : lv_has ls 2 [(0, .ref a), (1, .int (zI p1))] := hl
  refine lv_aload_n hx hb dX3_strideIn_0 rfl (lv_at hl 0 rfl) ?_
  refine lv_iload_n hx hb dX3_strideIn_1 rfl (lv_at hl 1 rfl) ?_
  obtain ⟨k9, hk9⟩ := va_pl_get (X := gFx cy ad jf u) (f := u.2.2.2.2) ha
  refine g_calli (va_runU (As := [.int (zI p1)]) (rest := []) ⟨hx, hb, hml, hown, hts⟩ (kX3_feedsIn_X6 l D cy ad jf A u a nm sp li fd p1 ha hE (by omega) (by omega)) (va_cwU 1 hts gX3_strideIn_X3_feedsIn_u30X6 rfl rfl rfl rfl (by decide +kernel) ⟨by decide, by decide⟩) (g_preD (C := RX6) hG hC hS (hk9.trans (by rw [hE])) rfl) rfl rfl hl.1 rfl (lv_room (Nat.le_of_ble_eq_true rfl)) dX3_strideIn_2 ⟨Nat.le_of_ble_eq_true rfl, Nat.le_of_ble_eq_true rfl⟩) hS (fun r1 u2 H locs p_3 hG hS => ?_)
  obtain ⟨⟨b4, rfl, q_5⟩, he_⟩ := p_3
  rw [he_] at hG; clear he_
  have hbb4 : 0 ≤ b4 ∧ b4 ≤ 1 := by rcases q_5 with ⟨h, _⟩ | ⟨h, _⟩ <;> omega
  refine z_if_eq (tgt := 18) hx hb dX3_strideIn_5 (by decide) (by omega) (by omega) (fun c_6 => ?_) (fun c_6 => ?_)
  · refine lv_aload_n hx hb dX3_strideIn_18 rfl (lv_at hl 0 rfl) ?_
    refine lv_iload_n hx hb dX3_strideIn_19 rfl (lv_at hl 1 rfl) ?_
    obtain ⟨k9, hk9⟩ := va_pl_get (X := gFx cy ad jf u) (f := u.2.2.2.2) ha
    refine g_calli (va_runU (As := [.int (zI p1)]) (rest := []) ⟨hx, hb, hml, hown, hts⟩ (kX3_paceIn_X6 l D cy ad jf A u a nm sp li fd p1 ha hE (by omega) (by omega)) (va_cwU 1 hts gX3_strideIn_X3_paceIn_u34X6 rfl rfl rfl rfl (by decide +kernel) ⟨by decide, by decide⟩) (g_preD (C := RX6) hG hC hS (hk9.trans (by rw [hE])) rfl) rfl rfl hl.1 rfl (lv_room (Nat.le_of_ble_eq_true rfl)) dX3_strideIn_20 ⟨Nat.le_of_ble_eq_true rfl, Nat.le_of_ble_eq_true rfl⟩) hS (fun r7 u8 H locs p_9 hG hS => ?_)
    obtain ⟨rfl, he_⟩ := p_9
    rw [he_] at hG; clear he_
    obtain ⟨z10, hz10⟩ : ∃ z : Int, z = spAt1 (sp - p1 / 6) := ⟨_, rfl⟩
    rw [← hz10]
    have qz10 : 1 ≤ z10 ∧ z10 ≤ 24 := by rw [hz10]; (first | omega | (unfold spAt1; split <;> omega) | (unfold spAt1; split <;> split <;> omega) | (split <;> first | omega | (unfold spAt1; split <;> omega)) | (unfold spPace spPc spAt1; split <;> (first | omega | (split <;> first | omega | (split <;> omega)))))
    exact W.iret (v := zI z10) hx hb hr (fun t9 ht9_ hW => ⟨⟨zI z10, u, rfl, (by refine ⟨?_, rfl⟩; unfold spPace spPc; (repeat (first | rw [if_pos (by omega)] | rw [if_neg (by omega)])); all_goals (subst_vars; (repeat (first | rw [if_pos (by omega)] | rw [if_neg (by omega)])); all_goals first | rfl | (congr 1; omega))), gB.mk' hG hC hS ht9_ hW⟩, hS.F ht9_⟩) hS.2.2 dX3_strideIn_23
  · refine lv_aload_n hx hb dX3_strideIn_8 rfl (lv_at hl 0 rfl) ?_
    refine lv_iload_n hx hb dX3_strideIn_9 rfl (lv_at hl 1 rfl) ?_
    obtain ⟨k9, hk9⟩ := va_pl_get (X := gFx cy ad jf u) (f := u.2.2.2.2) ha
    refine g_calli (va_runU (As := [.int (zI p1)]) (rest := []) ⟨hx, hb, hml, hown, hts⟩ (kX3_paceIn_X6 l D cy ad jf A u a nm sp li fd p1 ha hE (by omega) (by omega)) (va_cwU 1 hts gX3_strideIn_X3_paceIn_u34X6 rfl rfl rfl rfl (by decide +kernel) ⟨by decide, by decide⟩) (g_preD (C := RX6) hG hC hS (hk9.trans (by rw [hE])) rfl) rfl rfl hl.1 rfl (lv_room (Nat.le_of_ble_eq_true rfl)) dX3_strideIn_10 ⟨Nat.le_of_ble_eq_true rfl, Nat.le_of_ble_eq_true rfl⟩) hS (fun r11 u12 H locs p_13 hG hS => ?_)
    obtain ⟨rfl, he_⟩ := p_13
    rw [he_] at hG; clear he_
    obtain ⟨z14, hz14⟩ : ∃ z : Int, z = spAt1 (sp - p1 / 6) := ⟨_, rfl⟩
    rw [← hz14]
    have qz14 : 1 ≤ z14 ∧ z14 ≤ 24 := by rw [hz14]; (first | omega | (unfold spAt1; split <;> omega) | (unfold spAt1; split <;> split <;> omega) | (split <;> first | omega | (unfold spAt1; split <;> omega)) | (unfold spPace spPc spAt1; split <;> (first | omega | (split <;> first | omega | (split <;> omega)))))
    refine z_iconst hx hb dX3_strideIn_13 ?_
    refine z_idiv hx hb dX3_strideIn_14 (by omega) (by omega) (by omega) (by omega) ?_
    refine lv_goto (tgt := 23) hx hb dX3_strideIn_15 (by decide) ?_
    exact W.iret (v := zI (z14 / 2)) hx hb hr (fun t9 ht9_ hW => ⟨⟨zI (z14 / 2), u, rfl, (by refine ⟨?_, rfl⟩; unfold spPace spPc; (repeat (first | rw [if_pos (by omega)] | rw [if_neg (by omega)])); all_goals (subst_vars; (repeat (first | rw [if_pos (by omega)] | rw [if_neg (by omega)])); all_goals first | rfl | (congr 1; omega))), gB.mk' hG hC hS ht9_ hW⟩, hS.F ht9_⟩) hS.2.2 dX3_strideIn_23
set_option maxHeartbeats 4000000 in
set_option maxRecDepth 100000 in
theorem kX3_heft_X3 (l : Launch) (D : va_G) (cy : Nat → ClassId) (ad : Nat → Nat) (jf : Nat → Int64) (A : Nat → Prop) (u : gS) (a : Nat) (nm sp li fd : Int) (ha : a ∈ u.2.2.2.1) (hE : u.2.2.2.2 a = .inr (2, [.int (zI nm), .int (zI sp), .int (zI li), .int (zI fd)])) (j_s : 0 ≤ sp ∧ sp ≤ 20) (j_f : 0 ≤ fd ∧ fd ≤ 40) : Met l yX3_heft wsX3_heft ({ frames := 0, cells := 0, slots := 0, locals := 0 }) (va_Pc [.ref a] (gB D cy ad jf A u)) (va_Qi (fun (r : Int32) (v : gS) => r = zI (10 + sp + fd) ∧ v = u) (gB D cy ad jf A) A) 0 0 A := by
  refine Met.ofW (cc := cX3_heft) (maxL := 1) (ret := (some .int)) (by decide) rfl ?_
  intro p e s m args below meth c s₁ B hml hv
  obtain ⟨rfl, hG, hC⟩ := hv
  have hx := B.exec
  have hb := B.bytes
  have hr := B.returns
  have hts := atoms_spec (ws := wsX3_heft) B.pre
  have hown : s.vm.findClass RX3 = some m.cls := findClass_of_methodNamed B.named
  have hlocks := B.notSynchronized
  have hS : va_S A s.heap s.heap [] := va_S.rf
  have hl := lv_entry ([.ref a]) (n := 1) (Nat.le_of_ble_eq_true rfl)
  rw [lg_entry_eq]
  generalize (lg_sl ([.ref a]) ++ List.replicate (1 - (lg_sl ([.ref a])).length) Slot.unset).toArray = ls at hl ⊢
  have hl : lv_has ls 1 [(0, .ref a)] := hl
  refine z_bipush hx hb dX3_heft_0 (by decide) ?_
  refine lv_aload_n hx hb dX3_heft_2 rfl (lv_at hl 0 rfl) ?_
  obtain ⟨k9, hk9⟩ := va_pl_get (X := gFx cy ad jf u) (f := u.2.2.2.2) ha
  refine va_get (C := RX3) (T := TX3) (N := 4) (ci := 2) hx hb hts (fun _ h => (List.mem_cons_of_mem _ (List.mem_append_left _ (List.mem_append_left _ (List.mem_append_right _ h))))) hown hC.1 hG.1 k9 (hk9.trans (by rw [hE])) rfl 1 (by decide) (hts (.fieldLink RX3 18 "StraitSwim$Plain" "speed" "I") (List.mem_cons_of_mem _ (List.mem_append_left _ (List.mem_append_left _ (List.mem_append_left _ (List.mem_append_left _ (List.mem_of_getElem? (i := 0) rfl))))))) (fun _ h9 => h9) rfl dX3_heft_3 ?_
  refine z_iadd hx hb dX3_heft_6 ?_
  refine lv_aload_n hx hb dX3_heft_7 rfl (lv_at hl 0 rfl) ?_
  obtain ⟨k9, hk9⟩ := va_pl_get (X := gFx cy ad jf u) (f := u.2.2.2.2) ha
  refine va_get (C := RX3) (T := TX3) (N := 4) (ci := 2) hx hb hts (fun _ h => (List.mem_cons_of_mem _ (List.mem_append_left _ (List.mem_append_left _ (List.mem_append_right _ h))))) hown hC.1 hG.1 k9 (hk9.trans (by rw [hE])) rfl 3 (by decide) (hts (.fieldLink RX3 9 "StraitSwim$Plain" "feed" "I") (List.mem_cons_of_mem _ (List.mem_append_left _ (List.mem_append_left _ (List.mem_append_left _ (List.mem_append_left _ (List.mem_of_getElem? (i := 1) rfl))))))) (fun _ h9 => h9) rfl dX3_heft_8 ?_
  refine z_iadd hx hb dX3_heft_11 ?_
  exact W.iret (v := zI ((10 + sp) + fd)) hx hb hr (fun t9 ht9_ hW => ⟨⟨zI ((10 + sp) + fd), u, rfl, (by refine ⟨?_, rfl⟩; subst_vars; first | rfl | (congr 1; omega)), gB.mk' hG hC hS ht9_ hW⟩, hS.F ht9_⟩) hS.2.2 dX3_heft_12
set_option maxHeartbeats 4000000 in
set_option maxRecDepth 100000 in
theorem kX3_heft_X0 (l : Launch) (D : va_G) (cy : Nat → ClassId) (ad : Nat → Nat) (jf : Nat → Int64) (A : Nat → Prop) (u : gS) (a : Nat) (nm sp li fd : Int) (ha : a ∈ u.2.2.2.1) (hE : u.2.2.2.2 a = .inr (0, [.int (zI nm), .int (zI sp), .int (zI li), .int (zI fd)])) (j_s : 0 ≤ sp ∧ sp ≤ 20) (j_f : 0 ≤ fd ∧ fd ≤ 40) : Met l yX3_heft wsX3_heft ({ frames := 0, cells := 0, slots := 0, locals := 0 }) (va_Pc [.ref a] (gB D cy ad jf A u)) (va_Qi (fun (r : Int32) (v : gS) => r = zI (10 + sp + fd) ∧ v = u) (gB D cy ad jf A) A) 0 0 A := by
  refine Met.ofW (cc := cX3_heft) (maxL := 1) (ret := (some .int)) (by decide) rfl ?_
  intro p e s m args below meth c s₁ B hml hv
  obtain ⟨rfl, hG, hC⟩ := hv
  have hx := B.exec
  have hb := B.bytes
  have hr := B.returns
  have hts := atoms_spec (ws := wsX3_heft) B.pre
  have hown : s.vm.findClass RX3 = some m.cls := findClass_of_methodNamed B.named
  have hlocks := B.notSynchronized
  have hS : va_S A s.heap s.heap [] := va_S.rf
  have hl := lv_entry ([.ref a]) (n := 1) (Nat.le_of_ble_eq_true rfl)
  rw [lg_entry_eq]
  generalize (lg_sl ([.ref a]) ++ List.replicate (1 - (lg_sl ([.ref a])).length) Slot.unset).toArray = ls at hl ⊢
  have hl : lv_has ls 1 [(0, .ref a)] := hl
  refine z_bipush hx hb dX3_heft_0 (by decide) ?_
  refine lv_aload_n hx hb dX3_heft_2 rfl (lv_at hl 0 rfl) ?_
  obtain ⟨k9, hk9⟩ := va_pl_get (X := gFx cy ad jf u) (f := u.2.2.2.2) ha
  refine va_get (C := RX0) (T := TX0) (N := 4) (ci := 0) hx hb hts (fun _ h => (List.mem_cons_of_mem _ (List.mem_append_left _ (List.mem_append_left _ (List.mem_append_left _ (List.mem_append_right _ h)))))) hown hC.1 hG.1 k9 (hk9.trans (by rw [hE])) rfl 1 (by decide) (hts (.fieldLink RX3 18 "StraitSwim$Plain" "speed" "I") (List.mem_cons_of_mem _ (List.mem_append_left _ (List.mem_append_left _ (List.mem_append_left _ (List.mem_append_left _ (List.mem_of_getElem? (i := 0) rfl))))))) (fun _ h9 => h9) rfl dX3_heft_3 ?_
  refine z_iadd hx hb dX3_heft_6 ?_
  refine lv_aload_n hx hb dX3_heft_7 rfl (lv_at hl 0 rfl) ?_
  obtain ⟨k9, hk9⟩ := va_pl_get (X := gFx cy ad jf u) (f := u.2.2.2.2) ha
  refine va_get (C := RX0) (T := TX0) (N := 4) (ci := 0) hx hb hts (fun _ h => (List.mem_cons_of_mem _ (List.mem_append_left _ (List.mem_append_left _ (List.mem_append_left _ (List.mem_append_right _ h)))))) hown hC.1 hG.1 k9 (hk9.trans (by rw [hE])) rfl 3 (by decide) (hts (.fieldLink RX3 9 "StraitSwim$Plain" "feed" "I") (List.mem_cons_of_mem _ (List.mem_append_left _ (List.mem_append_left _ (List.mem_append_left _ (List.mem_append_left _ (List.mem_of_getElem? (i := 1) rfl))))))) (fun _ h9 => h9) rfl dX3_heft_8 ?_
  refine z_iadd hx hb dX3_heft_11 ?_
  exact W.iret (v := zI ((10 + sp) + fd)) hx hb hr (fun t9 ht9_ hW => ⟨⟨zI ((10 + sp) + fd), u, rfl, (by refine ⟨?_, rfl⟩; subst_vars; first | rfl | (congr 1; omega)), gB.mk' hG hC hS ht9_ hW⟩, hS.F ht9_⟩) hS.2.2 dX3_heft_12
set_option maxHeartbeats 4000000 in
set_option maxRecDepth 100000 in
theorem kX3_heft_X4 (l : Launch) (D : va_G) (cy : Nat → ClassId) (ad : Nat → Nat) (jf : Nat → Int64) (A : Nat → Prop) (u : gS) (a : Nat) (nm sp li fd : Int) (ha : a ∈ u.2.2.2.1) (hE : u.2.2.2.2 a = .inr (3, [.int (zI nm), .int (zI sp), .int (zI li), .int (zI fd)])) (j_s : 0 ≤ sp ∧ sp ≤ 20) (j_f : 0 ≤ fd ∧ fd ≤ 40) : Met l yX3_heft wsX3_heft ({ frames := 0, cells := 0, slots := 0, locals := 0 }) (va_Pc [.ref a] (gB D cy ad jf A u)) (va_Qi (fun (r : Int32) (v : gS) => r = zI (10 + sp + fd) ∧ v = u) (gB D cy ad jf A) A) 0 0 A := by
  refine Met.ofW (cc := cX3_heft) (maxL := 1) (ret := (some .int)) (by decide) rfl ?_
  intro p e s m args below meth c s₁ B hml hv
  obtain ⟨rfl, hG, hC⟩ := hv
  have hx := B.exec
  have hb := B.bytes
  have hr := B.returns
  have hts := atoms_spec (ws := wsX3_heft) B.pre
  have hown : s.vm.findClass RX3 = some m.cls := findClass_of_methodNamed B.named
  have hlocks := B.notSynchronized
  have hS : va_S A s.heap s.heap [] := va_S.rf
  have hl := lv_entry ([.ref a]) (n := 1) (Nat.le_of_ble_eq_true rfl)
  rw [lg_entry_eq]
  generalize (lg_sl ([.ref a]) ++ List.replicate (1 - (lg_sl ([.ref a])).length) Slot.unset).toArray = ls at hl ⊢
  have hl : lv_has ls 1 [(0, .ref a)] := hl
  refine z_bipush hx hb dX3_heft_0 (by decide) ?_
  refine lv_aload_n hx hb dX3_heft_2 rfl (lv_at hl 0 rfl) ?_
  obtain ⟨k9, hk9⟩ := va_pl_get (X := gFx cy ad jf u) (f := u.2.2.2.2) ha
  refine va_get (C := RX4) (T := TX4) (N := 4) (ci := 3) hx hb hts (fun _ h => (List.mem_cons_of_mem _ (List.mem_append_left _ (List.mem_append_right _ h)))) hown hC.1 hG.1 k9 (hk9.trans (by rw [hE])) rfl 1 (by decide) (hts (.fieldLink RX3 18 "StraitSwim$Plain" "speed" "I") (List.mem_cons_of_mem _ (List.mem_append_left _ (List.mem_append_left _ (List.mem_append_left _ (List.mem_append_left _ (List.mem_of_getElem? (i := 0) rfl))))))) (fun _ h9 => h9) rfl dX3_heft_3 ?_
  refine z_iadd hx hb dX3_heft_6 ?_
  refine lv_aload_n hx hb dX3_heft_7 rfl (lv_at hl 0 rfl) ?_
  obtain ⟨k9, hk9⟩ := va_pl_get (X := gFx cy ad jf u) (f := u.2.2.2.2) ha
  refine va_get (C := RX4) (T := TX4) (N := 4) (ci := 3) hx hb hts (fun _ h => (List.mem_cons_of_mem _ (List.mem_append_left _ (List.mem_append_right _ h)))) hown hC.1 hG.1 k9 (hk9.trans (by rw [hE])) rfl 3 (by decide) (hts (.fieldLink RX3 9 "StraitSwim$Plain" "feed" "I") (List.mem_cons_of_mem _ (List.mem_append_left _ (List.mem_append_left _ (List.mem_append_left _ (List.mem_append_left _ (List.mem_of_getElem? (i := 1) rfl))))))) (fun _ h9 => h9) rfl dX3_heft_8 ?_
  refine z_iadd hx hb dX3_heft_11 ?_
  exact W.iret (v := zI ((10 + sp) + fd)) hx hb hr (fun t9 ht9_ hW => ⟨⟨zI ((10 + sp) + fd), u, rfl, (by refine ⟨?_, rfl⟩; subst_vars; first | rfl | (congr 1; omega)), gB.mk' hG hC hS ht9_ hW⟩, hS.F ht9_⟩) hS.2.2 dX3_heft_12
set_option maxHeartbeats 4000000 in
set_option maxRecDepth 100000 in
theorem kX3_heft_X6 (l : Launch) (D : va_G) (cy : Nat → ClassId) (ad : Nat → Nat) (jf : Nat → Int64) (A : Nat → Prop) (u : gS) (a : Nat) (nm sp li fd : Int) (ha : a ∈ u.2.2.2.1) (hE : u.2.2.2.2 a = .inr (5, [.int (zI nm), .int (zI sp), .int (zI li), .int (zI fd)])) (j_s : 0 ≤ sp ∧ sp ≤ 20) (j_f : 0 ≤ fd ∧ fd ≤ 40) : Met l yX3_heft wsX3_heft ({ frames := 0, cells := 0, slots := 0, locals := 0 }) (va_Pc [.ref a] (gB D cy ad jf A u)) (va_Qi (fun (r : Int32) (v : gS) => r = zI (10 + sp + fd) ∧ v = u) (gB D cy ad jf A) A) 0 0 A := by
  refine Met.ofW (cc := cX3_heft) (maxL := 1) (ret := (some .int)) (by decide) rfl ?_
  intro p e s m args below meth c s₁ B hml hv
  obtain ⟨rfl, hG, hC⟩ := hv
  have hx := B.exec
  have hb := B.bytes
  have hr := B.returns
  have hts := atoms_spec (ws := wsX3_heft) B.pre
  have hown : s.vm.findClass RX3 = some m.cls := findClass_of_methodNamed B.named
  have hlocks := B.notSynchronized
  have hS : va_S A s.heap s.heap [] := va_S.rf
  have hl := lv_entry ([.ref a]) (n := 1) (Nat.le_of_ble_eq_true rfl)
  rw [lg_entry_eq]
  generalize (lg_sl ([.ref a]) ++ List.replicate (1 - (lg_sl ([.ref a])).length) Slot.unset).toArray = ls at hl ⊢
  have hl : lv_has ls 1 [(0, .ref a)] := hl
  refine z_bipush hx hb dX3_heft_0 (by decide) ?_
  refine lv_aload_n hx hb dX3_heft_2 rfl (lv_at hl 0 rfl) ?_
  obtain ⟨k9, hk9⟩ := va_pl_get (X := gFx cy ad jf u) (f := u.2.2.2.2) ha
  refine va_get (C := RX6) (T := TX6) (N := 4) (ci := 5) hx hb hts (fun _ h => (List.mem_cons_of_mem _ (List.mem_append_right _ h))) hown hC.1 hG.1 k9 (hk9.trans (by rw [hE])) rfl 1 (by decide) (hts (.fieldLink RX3 18 "StraitSwim$Plain" "speed" "I") (List.mem_cons_of_mem _ (List.mem_append_left _ (List.mem_append_left _ (List.mem_append_left _ (List.mem_append_left _ (List.mem_of_getElem? (i := 0) rfl))))))) (fun _ h9 => h9) rfl dX3_heft_3 ?_
  refine z_iadd hx hb dX3_heft_6 ?_
  refine lv_aload_n hx hb dX3_heft_7 rfl (lv_at hl 0 rfl) ?_
  obtain ⟨k9, hk9⟩ := va_pl_get (X := gFx cy ad jf u) (f := u.2.2.2.2) ha
  refine va_get (C := RX6) (T := TX6) (N := 4) (ci := 5) hx hb hts (fun _ h => (List.mem_cons_of_mem _ (List.mem_append_right _ h))) hown hC.1 hG.1 k9 (hk9.trans (by rw [hE])) rfl 3 (by decide) (hts (.fieldLink RX3 9 "StraitSwim$Plain" "feed" "I") (List.mem_cons_of_mem _ (List.mem_append_left _ (List.mem_append_left _ (List.mem_append_left _ (List.mem_append_left _ (List.mem_of_getElem? (i := 1) rfl))))))) (fun _ h9 => h9) rfl dX3_heft_8 ?_
  refine z_iadd hx hb dX3_heft_11 ?_
  exact W.iret (v := zI ((10 + sp) + fd)) hx hb hr (fun t9 ht9_ hW => ⟨⟨zI ((10 + sp) + fd), u, rfl, (by refine ⟨?_, rfl⟩; subst_vars; first | rfl | (congr 1; omega)), gB.mk' hG hC hS ht9_ hW⟩, hS.F ht9_⟩) hS.2.2 dX3_heft_12
set_option maxHeartbeats 4000000 in
set_option maxRecDepth 100000 in
theorem kX0_heft_X0 (l : Launch) (D : va_G) (cy : Nat → ClassId) (ad : Nat → Nat) (jf : Nat → Int64) (A : Nat → Prop) (u : gS) (a : Nat) (nm sp li fd : Int) (ha : a ∈ u.2.2.2.1) (hE : u.2.2.2.2 a = .inr (0, [.int (zI nm), .int (zI sp), .int (zI li), .int (zI fd)])) (j_s : 0 ≤ sp ∧ sp ≤ 20) (j_f : 0 ≤ fd ∧ fd ≤ 40) : Met l yX0_heft wsX0_heft ({ frames := 1, cells := 0, slots := 0, locals := 20 }) (va_Pc [.ref a] (gB D cy ad jf A u)) (va_Qi (fun (r : Int32) (v : gS) => r = zI (10 + sp + fd + 100) ∧ v = u) (gB D cy ad jf A) A) 0 0 A := by
  refine Met.ofW (cc := cX0_heft) (maxL := 1) (ret := (some .int)) (by decide) rfl ?_
  intro p e s m args below meth c s₁ B hml hv
  obtain ⟨rfl, hG, hC⟩ := hv
  have hx := B.exec
  have hb := B.bytes
  have hr := B.returns
  have hts := atoms_spec (ws := wsX0_heft) B.pre
  have hown : s.vm.findClass RX0 = some m.cls := findClass_of_methodNamed B.named
  have hlocks := B.notSynchronized
  have hS : va_S A s.heap s.heap [] := va_S.rf
  have hl := lv_entry ([.ref a]) (n := 1) (Nat.le_of_ble_eq_true rfl)
  rw [lg_entry_eq]
  generalize (lg_sl ([.ref a]) ++ List.replicate (1 - (lg_sl ([.ref a])).length) Slot.unset).toArray = ls at hl ⊢
  have hl : lv_has ls 1 [(0, .ref a)] := hl
  refine lv_aload_n hx hb dX0_heft_0 rfl (lv_at hl 0 rfl) ?_
  obtain ⟨k9, hk9⟩ := va_pl_get (X := gFx cy ad jf u) (f := u.2.2.2.2) ha
  refine g_calli (va_runSU (C := RX0) (hC.1.1 0 _ rfl).2 (As := []) (rest := []) ⟨hx, hb, hml, hown, hts⟩ (kX3_heft_X0 l D cy ad jf A u a nm sp li fd  ha hE (by omega) (by omega)) (va_cwSU 0 hts gX0_heft_X3_heft_s18 rfl rfl rfl (by decide +kernel) ⟨by decide, by decide⟩) (g_preD (C := RX0) hG hC hS (hk9.trans (by rw [hE])) rfl) rfl rfl hl.1 rfl (lv_room (Nat.le_of_ble_eq_true rfl)) dX0_heft_1 ⟨Nat.le_of_ble_eq_true rfl, Nat.le_of_ble_eq_true rfl⟩) hS (fun r1 u2 H locs p_3 hG hS => ?_)
  obtain ⟨rfl, he_⟩ := p_3
  rw [he_] at hG; clear he_
  obtain ⟨z4, hz4⟩ : ∃ z : Int, z = 10 + sp + fd := ⟨_, rfl⟩
  rw [← hz4]
  have qz4 : 0 ≤ z4 ∧ z4 ≤ 100 := by rw [hz4]; (first | omega | (unfold spAt1; split <;> omega) | (unfold spAt1; split <;> split <;> omega) | (split <;> first | omega | (unfold spAt1; split <;> omega)) | (unfold spPace spPc spAt1; split <;> (first | omega | (split <;> first | omega | (split <;> omega)))))
  refine z_bipush hx hb dX0_heft_4 (by decide) ?_
  refine z_iadd hx hb dX0_heft_6 ?_
  exact W.iret (v := zI (z4 + 100)) hx hb hr (fun t9 ht9_ hW => ⟨⟨zI (z4 + 100), u, rfl, (by refine ⟨?_, rfl⟩; subst_vars; first | rfl | (congr 1; omega)), gB.mk' hG hC hS ht9_ hW⟩, hS.F ht9_⟩) hS.2.2 dX0_heft_7
set_option maxHeartbeats 4000000 in
set_option maxRecDepth 100000 in
theorem kX0_heft_X6 (l : Launch) (D : va_G) (cy : Nat → ClassId) (ad : Nat → Nat) (jf : Nat → Int64) (A : Nat → Prop) (u : gS) (a : Nat) (nm sp li fd : Int) (ha : a ∈ u.2.2.2.1) (hE : u.2.2.2.2 a = .inr (5, [.int (zI nm), .int (zI sp), .int (zI li), .int (zI fd)])) (j_s : 0 ≤ sp ∧ sp ≤ 20) (j_f : 0 ≤ fd ∧ fd ≤ 40) : Met l yX0_heft wsX0_heft ({ frames := 2, cells := 0, slots := 0, locals := 40 }) (va_Pc [.ref a] (gB D cy ad jf A u)) (va_Qi (fun (r : Int32) (v : gS) => r = zI (10 + sp + fd + 100) ∧ v = u) (gB D cy ad jf A) A) 0 0 A := by
  refine Met.ofW (cc := cX0_heft) (maxL := 1) (ret := (some .int)) (by decide) rfl ?_
  intro p e s m args below meth c s₁ B hml hv
  obtain ⟨rfl, hG, hC⟩ := hv
  have hx := B.exec
  have hb := B.bytes
  have hr := B.returns
  have hts := atoms_spec (ws := wsX0_heft) B.pre
  have hown : s.vm.findClass RX0 = some m.cls := findClass_of_methodNamed B.named
  have hlocks := B.notSynchronized
  have hS : va_S A s.heap s.heap [] := va_S.rf
  have hl := lv_entry ([.ref a]) (n := 1) (Nat.le_of_ble_eq_true rfl)
  rw [lg_entry_eq]
  generalize (lg_sl ([.ref a]) ++ List.replicate (1 - (lg_sl ([.ref a])).length) Slot.unset).toArray = ls at hl ⊢
  have hl : lv_has ls 1 [(0, .ref a)] := hl
  refine lv_aload_n hx hb dX0_heft_0 rfl (lv_at hl 0 rfl) ?_
  obtain ⟨k9, hk9⟩ := va_pl_get (X := gFx cy ad jf u) (f := u.2.2.2.2) ha
  refine g_calli (va_runSU (C := RX6) (hC.1.1 5 _ rfl).2 (As := []) (rest := []) ⟨hx, hb, hml, hown, hts⟩ (kX3_heft_X6 l D cy ad jf A u a nm sp li fd  ha hE (by omega) (by omega)) (va_cwSU 0 hts gX0_heft_X3_heft_s18 rfl rfl rfl (by decide +kernel) ⟨by decide, by decide⟩) (g_preD (C := RX6) hG hC hS (hk9.trans (by rw [hE])) rfl) rfl rfl hl.1 rfl (lv_room (Nat.le_of_ble_eq_true rfl)) dX0_heft_1 ⟨Nat.le_of_ble_eq_true rfl, Nat.le_of_ble_eq_true rfl⟩) hS (fun r1 u2 H locs p_3 hG hS => ?_)
  obtain ⟨rfl, he_⟩ := p_3
  rw [he_] at hG; clear he_
  obtain ⟨z4, hz4⟩ : ∃ z : Int, z = 10 + sp + fd := ⟨_, rfl⟩
  rw [← hz4]
  have qz4 : 0 ≤ z4 ∧ z4 ≤ 100 := by rw [hz4]; (first | omega | (unfold spAt1; split <;> omega) | (unfold spAt1; split <;> split <;> omega) | (split <;> first | omega | (unfold spAt1; split <;> omega)) | (unfold spPace spPc spAt1; split <;> (first | omega | (split <;> first | omega | (split <;> omega)))))
  refine z_bipush hx hb dX0_heft_4 (by decide) ?_
  refine z_iadd hx hb dX0_heft_6 ?_
  exact W.iret (v := zI (z4 + 100)) hx hb hr (fun t9 ht9_ hW => ⟨⟨zI (z4 + 100), u, rfl, (by refine ⟨?_, rfl⟩; subst_vars; first | rfl | (congr 1; omega)), gB.mk' hG hC hS ht9_ hW⟩, hS.F ht9_⟩) hS.2.2 dX0_heft_7
set_option maxHeartbeats 4000000 in
set_option maxRecDepth 100000 in
theorem kX4_heft_X4 (l : Launch) (D : va_G) (cy : Nat → ClassId) (ad : Nat → Nat) (jf : Nat → Int64) (A : Nat → Prop) (u : gS) (a : Nat) (nm sp li fd : Int) (ha : a ∈ u.2.2.2.1) (hE : u.2.2.2.2 a = .inr (3, [.int (zI nm), .int (zI sp), .int (zI li), .int (zI fd)])) (j_s : 0 ≤ sp ∧ sp ≤ 20) (j_f : 0 ≤ fd ∧ fd ≤ 40) (j_l : 0 ≤ li ∧ li ≤ 400) : Met l yX4_heft wsX4_heft ({ frames := 3, cells := 0, slots := 0, locals := 60 }) (va_Pc [.ref a] (gB D cy ad jf A u)) (va_Qi (fun (r : Int32) (v : gS) => r = zI (10 + sp + fd + li) ∧ v = u) (gB D cy ad jf A) A) 0 0 A := by
  refine Met.ofW (cc := cX4_heft) (maxL := 1) (ret := (some .int)) (by decide) rfl ?_
  intro p e s m args below meth c s₁ B hml hv
  obtain ⟨rfl, hG, hC⟩ := hv
  have hx := B.exec
  have hb := B.bytes
  have hr := B.returns
  have hts := atoms_spec (ws := wsX4_heft) B.pre
  have hown : s.vm.findClass RX4 = some m.cls := findClass_of_methodNamed B.named
  have hlocks := B.notSynchronized
  have hS : va_S A s.heap s.heap [] := va_S.rf
  have hl := lv_entry ([.ref a]) (n := 1) (Nat.le_of_ble_eq_true rfl)
  rw [lg_entry_eq]
  generalize (lg_sl ([.ref a]) ++ List.replicate (1 - (lg_sl ([.ref a])).length) Slot.unset).toArray = ls at hl ⊢
  have hl : lv_has ls 1 [(0, .ref a)] := hl
  refine lv_aload_n hx hb dX4_heft_0 rfl (lv_at hl 0 rfl) ?_
  obtain ⟨k9, hk9⟩ := va_pl_get (X := gFx cy ad jf u) (f := u.2.2.2.2) ha
  refine g_calli (va_runSU (C := RX4) (hC.1.1 3 _ rfl).2 (As := []) (rest := []) ⟨hx, hb, hml, hown, hts⟩ (kX3_heft_X4 l D cy ad jf A u a nm sp li fd  ha hE (by omega) (by omega)) (va_cwSU 0 hts gX4_heft_X3_heft_s21 rfl rfl rfl (by decide +kernel) ⟨by decide, by decide⟩) (g_preD (C := RX4) hG hC hS (hk9.trans (by rw [hE])) rfl) rfl rfl hl.1 rfl (lv_room (Nat.le_of_ble_eq_true rfl)) dX4_heft_1 ⟨Nat.le_of_ble_eq_true rfl, Nat.le_of_ble_eq_true rfl⟩) hS (fun r1 u2 H locs p_3 hG hS => ?_)
  obtain ⟨rfl, he_⟩ := p_3
  rw [he_] at hG; clear he_
  obtain ⟨z4, hz4⟩ : ∃ z : Int, z = 10 + sp + fd := ⟨_, rfl⟩
  rw [← hz4]
  have qz4 : 0 ≤ z4 ∧ z4 ≤ 100 := by rw [hz4]; (first | omega | (unfold spAt1; split <;> omega) | (unfold spAt1; split <;> split <;> omega) | (split <;> first | omega | (unfold spAt1; split <;> omega)) | (unfold spPace spPc spAt1; split <;> (first | omega | (split <;> first | omega | (split <;> omega)))))
  refine lv_aload_n hx hb dX4_heft_4 rfl (lv_at hl 0 rfl) ?_
  obtain ⟨k9, hk9⟩ := va_pl_get (X := gFx cy ad jf u) (f := u.2.2.2.2) ha
  refine va_get (C := RX4) (T := TX4) (N := 4) (ci := 3) hx hb hts (fun _ h => (List.mem_cons_of_mem _ (List.mem_append_left _ (List.mem_append_right _ h)))) hown hC.1 hG.1 k9 (hk9.trans (by rw [hE])) rfl 2 (by decide) (hts (.fieldLink RX4 25 "StraitSwim$Quick" "limit" "I") (List.mem_cons_of_mem _ (List.mem_append_left _ (List.mem_append_left _ (List.mem_append_left _ (List.mem_append_left _ (List.mem_of_getElem? (i := 0) rfl))))))) (u_same (hts (.sameField "StraitSwim$Quick" "StraitSwim$Plain" "limit" "I") (List.mem_cons_of_mem _ (List.mem_append_left _ (List.mem_append_left _ (List.mem_append_left _ (List.mem_append_left _ (List.mem_of_getElem? (i := 1) rfl)))))))) rfl dX4_heft_5 ?_
  refine z_iadd hx hb dX4_heft_8 ?_
  exact W.iret (v := zI (z4 + li)) hx hb hr (fun t9 ht9_ hW => ⟨⟨zI (z4 + li), u, rfl, (by refine ⟨?_, rfl⟩; subst_vars; first | rfl | (congr 1; omega)), gB.mk' hG hC hS ht9_ hW⟩, hS.F ht9_⟩) hS.2.2 dX4_heft_9
set_option maxHeartbeats 4000000 in
set_option maxRecDepth 100000 in
theorem kX6_heft_X6 (l : Launch) (D : va_G) (cy : Nat → ClassId) (ad : Nat → Nat) (jf : Nat → Int64) (A : Nat → Prop) (u : gS) (a : Nat) (nm sp li fd : Int) (ha : a ∈ u.2.2.2.1) (hE : u.2.2.2.2 a = .inr (5, [.int (zI nm), .int (zI sp), .int (zI li), .int (zI fd)])) (j_s : 0 ≤ sp ∧ sp ≤ 20) (j_f : 0 ≤ fd ∧ fd ≤ 40) : Met l yX6_heft wsX6_heft ({ frames := 4, cells := 0, slots := 0, locals := 80 }) (va_Pc [.ref a] (gB D cy ad jf A u)) (va_Qi (fun (r : Int32) (v : gS) => r = zI (2 * (10 + sp + fd + 100)) ∧ v = u) (gB D cy ad jf A) A) 0 0 A := by
  refine Met.ofW (cc := cX6_heft) (maxL := 1) (ret := (some .int)) (by decide) rfl ?_
  intro p e s m args below meth c s₁ B hml hv
  obtain ⟨rfl, hG, hC⟩ := hv
  have hx := B.exec
  have hb := B.bytes
  have hr := B.returns
  have hts := atoms_spec (ws := wsX6_heft) B.pre
  have hown : s.vm.findClass RX6 = some m.cls := findClass_of_methodNamed B.named
  have hlocks := B.notSynchronized
  have hS : va_S A s.heap s.heap [] := va_S.rf
  have hl := lv_entry ([.ref a]) (n := 1) (Nat.le_of_ble_eq_true rfl)
  rw [lg_entry_eq]
  generalize (lg_sl ([.ref a]) ++ List.replicate (1 - (lg_sl ([.ref a])).length) Slot.unset).toArray = ls at hl ⊢
  have hl : lv_has ls 1 [(0, .ref a)] := hl
  refine z_iconst hx hb dX6_heft_0 ?_
  refine lv_aload_n hx hb dX6_heft_1 rfl (lv_at hl 0 rfl) ?_
  obtain ⟨k9, hk9⟩ := va_pl_get (X := gFx cy ad jf u) (f := u.2.2.2.2) ha
  refine g_calli (va_runSU (C := RX6) (hC.1.1 5 _ rfl).2 (As := []) (rest := [.int (zI 2)]) ⟨hx, hb, hml, hown, hts⟩ (kX0_heft_X6 l D cy ad jf A u a nm sp li fd  ha hE (by omega) (by omega)) (va_cwSU 0 hts gX6_heft_X0_heft_s18 rfl rfl rfl (by decide +kernel) ⟨by decide, by decide⟩) (g_preD (C := RX6) hG hC hS (hk9.trans (by rw [hE])) rfl) rfl rfl hl.1 rfl (lv_room (Nat.le_of_ble_eq_true rfl)) dX6_heft_2 ⟨Nat.le_of_ble_eq_true rfl, Nat.le_of_ble_eq_true rfl⟩) hS (fun r1 u2 H locs p_3 hG hS => ?_)
  obtain ⟨rfl, he_⟩ := p_3
  rw [he_] at hG; clear he_
  obtain ⟨z4, hz4⟩ : ∃ z : Int, z = 10 + sp + fd + 100 := ⟨_, rfl⟩
  rw [← hz4]
  have qz4 : 0 ≤ z4 ∧ z4 ≤ 1000 := by rw [hz4]; (first | omega | (unfold spAt1; split <;> omega) | (unfold spAt1; split <;> split <;> omega) | (split <;> first | omega | (unfold spAt1; split <;> omega)) | (unfold spPace spPc spAt1; split <;> (first | omega | (split <;> first | omega | (split <;> omega)))))
  refine z_imul hx hb dX6_heft_5 ?_
  exact W.iret (v := zI (2 * z4)) hx hb hr (fun t9 ht9_ hW => ⟨⟨zI (2 * z4), u, rfl, (by refine ⟨?_, rfl⟩; subst_vars; first | rfl | (congr 1; omega)), gB.mk' hG hC hS ht9_ hW⟩, hS.F ht9_⟩) hS.2.2 dX6_heft_6
