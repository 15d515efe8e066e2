set_option maxHeartbeats 4000000 in
set_option maxRecDepth 100000 in
theorem kX3_init_X3 (l : Launch) (D : va_G) (cy : Nat → ClassId) (ad : Nat → Nat) (jf : Nat → Int64) (A : Nat → Prop) (u : gS) (a : Nat) (nm sp li fd : Int) (p1 p2 p3 : Int) (ha : a ∈ u.2.2.2.1) (hE : u.2.2.2.2 a = .inr (2, [.int (zI nm), .int (zI sp), .int (zI li), .int (zI fd)])) : Met l yX3_init wsX3_init ({ frames := 1, cells := 0, slots := 0, locals := 30 }) (va_Pc [.ref a, .int (zI p1), .int (zI p2), .int (zI p3)] (gB D cy ad jf A u)) (va_Qv (fun (v : gS) => v = sP u u.2.2.2.1 (va_up u.2.2.2.2 a (.inr (2, [.int (zI p1), .int (zI p2), .int (zI p3), .int (zI 0)])))) (gB D cy ad jf A) A) 0 0 A := by
  refine Met.ofW (cc := cX3_init) (maxL := 4) (ret := none) (by decide) rfl ?_
  intro p e s m args below meth c s₁ B hml hv
  obtain ⟨rfl, hG, hC⟩ := hv
  have hx := B.exec
  have hb := B.bytes
  have hr := B.returns
  have hts := atoms_spec (ws := wsX3_init) B.pre
  have hown : s.vm.findClass RX3 = some m.cls := findClass_of_methodNamed B.named
  have hlocks := B.notSynchronized
  have hS : va_S A s.heap s.heap [] := va_S.rf
  have hl := lv_entry ([.ref a, .int (zI p1), .int (zI p2), .int (zI p3)]) (n := 4) (Nat.le_of_ble_eq_true rfl)
  rw [lg_entry_eq]
  generalize (lg_sl ([.ref a, .int (zI p1), .int (zI p2), .int (zI p3)]) ++ List.replicate (4 - (lg_sl ([.ref a, .int (zI p1), .int (zI p2), .int (zI p3)])).length) Slot.unset).toArray = ls at hl ⊢
  have hl : lv_has ls 4 [(0, .ref a), (1, .int (zI p1)), (2, .int (zI p2)), (3, .int (zI p3))] := hl
  have hin2 : meth.name = "<init>" := (name_of_methodNamed B.named B.method).1
  refine lv_aload_n hx hb dX3_init_0 rfl (lv_at hl 0 rfl) ?_
  refine W.objInit hx hb hown (hts (.methodLink RX3 3 objectInit) (List.mem_cons_of_mem _ (List.mem_append_left _ (List.mem_append_left _ (List.mem_append_left _ (List.mem_append_left _ (List.mem_of_getElem? (i := 0) rfl))))))) (hts (.instanceMethod objectInit) (List.mem_cons_of_mem _ (List.mem_append_left _ (List.mem_append_left _ (List.mem_append_left _ (List.mem_append_left _ (List.mem_of_getElem? (i := 1) rfl))))))) (hts (.code objectInit ⟨#[0xb1]⟩ 1 none) (List.mem_cons_of_mem _ (List.mem_append_left _ (List.mem_append_left _ (List.mem_append_left _ (List.mem_append_left _ (List.mem_of_getElem? (i := 2) rfl))))))) rfl (by rw [hml]; exact hl.1) rfl dX3_init_1 (Nat.le_of_ble_eq_true rfl) (Nat.le_of_ble_eq_true rfl) ?_
  refine W.eq (g2 := F0 m 4 ls []) rfl ?_
  refine lv_aload_n hx hb dX3_init_4 rfl (lv_at hl 0 rfl) ?_
  refine z_iconst hx hb dX3_init_5 ?_
  obtain ⟨k9, hk9⟩ := va_pl_get (X := gFx cy ad jf u) (f := u.2.2.2.2) ha
  refine va_put (C := RX3) (T := TX3) (N := 4) (ci := 2) (ty := .int) hx hb hts (fun _ h => (List.mem_cons_of_mem _ (List.mem_append_left _ (List.mem_append_left _ (List.mem_append_right _ h))))) tyX3 tyX3_ok nmX3 hown hC.1 hG.1 hG.2 hS k9 (hk9.trans (by rw [hE])) rfl 3 (by decide) (hts (.fieldLink RX3 9 "StraitSwim$Plain" "feed" "I") (List.mem_cons_of_mem _ (List.mem_append_left _ (List.mem_append_left _ (List.mem_append_left _ (List.mem_append_left _ (List.mem_of_getElem? (i := 3) rfl))))))) (fun _ h9 => h9) rfl (by decide +kernel) rfl rfl (Nat.le_of_ble_eq_true rfl) dX3_init_6 (fun H locs hP hD hS => ?_)
  obtain ⟨u1, hu1⟩ : ∃ v : gS, v = sP u u.2.2.2.1 (va_up u.2.2.2.2 a (.inr (2, [.int (zI nm), .int (zI sp), .int (zI li), .int (zI 0)]))) := ⟨_, rfl⟩
  have hG : gH D cy ad jf A u1 H := by rw [hu1, gH, ← gW_set hG.2 ha hk9]; exact ⟨hP, hD⟩
  have ha_u1 : a ∈ u1.2.2.2.1 := by rw [hu1]; exact ha
  have hE_u1 : u1.2.2.2.2 a = .inr (2, [.int (zI nm), .int (zI sp), .int (zI li), .int (zI 0)]) := by rw [hu1]; exact up_s _ _ _
  refine lv_aload_n hx hb dX3_init_9 rfl (lv_at hl 0 rfl) ?_
  refine lv_iload_n hx hb dX3_init_10 rfl (lv_at hl 1 rfl) ?_
  obtain ⟨k9, hk9⟩ := va_pl_get (X := gFx cy ad jf u1) (f := u1.2.2.2.2) ha_u1
  refine va_putF (C := RX3) (T := TX3) (N := 4) (ci := 2) (ty := .int) hx hb hts (fun _ h => (List.mem_cons_of_mem _ (List.mem_append_left _ (List.mem_append_left _ (List.mem_append_right _ h))))) tyX3 tyX3_ok nmX3 hown hC.1 hG.1 hG.2 hS k9 (hk9.trans (by rw [hE_u1])) rfl 0 (by decide) (hts (.fieldLink RX3 15 "StraitSwim$Plain" "number" "I") (List.mem_cons_of_mem _ (List.mem_append_left _ (List.mem_append_left _ (List.mem_append_left _ (List.mem_append_left _ (List.mem_of_getElem? (i := 4) rfl))))))) (fun _ h9 => h9) rfl hin2 rfl (by decide +kernel) rfl rfl (Nat.le_of_ble_eq_true rfl) dX3_init_11 (fun H locs hP hD hS => ?_)
  obtain ⟨u2, hu2⟩ : ∃ v : gS, v = sP u1 u1.2.2.2.1 (va_up u1.2.2.2.2 a (.inr (2, [.int (zI p1), .int (zI sp), .int (zI li), .int (zI 0)]))) := ⟨_, rfl⟩
  have hG : gH D cy ad jf A u2 H := by rw [hu2, gH, ← gW_set hG.2 ha_u1 hk9]; exact ⟨hP, hD⟩
  have ha_u2 : a ∈ u2.2.2.2.1 := by rw [hu2]; exact ha_u1
  have hE_u2 : u2.2.2.2.2 a = .inr (2, [.int (zI p1), .int (zI sp), .int (zI li), .int (zI 0)]) := by rw [hu2]; exact up_s _ _ _
  refine lv_aload_n hx hb dX3_init_14 rfl (lv_at hl 0 rfl) ?_
  refine lv_iload_n hx hb dX3_init_15 rfl (lv_at hl 2 rfl) ?_
  obtain ⟨k9, hk9⟩ := va_pl_get (X := gFx cy ad jf u2) (f := u2.2.2.2.2) ha_u2
  refine va_putF (C := RX3) (T := TX3) (N := 4) (ci := 2) (ty := .int) hx hb hts (fun _ h => (List.mem_cons_of_mem _ (List.mem_append_left _ (List.mem_append_left _ (List.mem_append_right _ h))))) tyX3 tyX3_ok nmX3 hown hC.1 hG.1 hG.2 hS k9 (hk9.trans (by rw [hE_u2])) rfl 1 (by decide) (hts (.fieldLink RX3 18 "StraitSwim$Plain" "speed" "I") (List.mem_cons_of_mem _ (List.mem_append_left _ (List.mem_append_left _ (List.mem_append_left _ (List.mem_append_left _ (List.mem_of_getElem? (i := 5) rfl))))))) (fun _ h9 => h9) rfl hin2 rfl (by decide +kernel) rfl rfl (Nat.le_of_ble_eq_true rfl) dX3_init_16 (fun H locs hP hD hS => ?_)
  obtain ⟨u3, hu3⟩ : ∃ v : gS, v = sP u2 u2.2.2.2.1 (va_up u2.2.2.2.2 a (.inr (2, [.int (zI p1), .int (zI p2), .int (zI li), .int (zI 0)]))) := ⟨_, rfl⟩
  have hG : gH D cy ad jf A u3 H := by rw [hu3, gH, ← gW_set hG.2 ha_u2 hk9]; exact ⟨hP, hD⟩
  have ha_u3 : a ∈ u3.2.2.2.1 := by rw [hu3]; exact ha_u2
  have hE_u3 : u3.2.2.2.2 a = .inr (2, [.int (zI p1), .int (zI p2), .int (zI li), .int (zI 0)]) := by rw [hu3]; exact up_s _ _ _
  refine lv_aload_n hx hb dX3_init_19 rfl (lv_at hl 0 rfl) ?_
  refine lv_iload_n hx hb dX3_init_20 rfl (lv_at hl 3 rfl) ?_
  obtain ⟨k9, hk9⟩ := va_pl_get (X := gFx cy ad jf u3) (f := u3.2.2.2.2) ha_u3
  refine va_putF (C := RX3) (T := TX3) (N := 4) (ci := 2) (ty := .int) hx hb hts (fun _ h => (List.mem_cons_of_mem _ (List.mem_append_left _ (List.mem_append_left _ (List.mem_append_right _ h))))) tyX3 tyX3_ok nmX3 hown hC.1 hG.1 hG.2 hS k9 (hk9.trans (by rw [hE_u3])) rfl 2 (by decide) (hts (.fieldLink RX3 21 "StraitSwim$Plain" "limit" "I") (List.mem_cons_of_mem _ (List.mem_append_left _ (List.mem_append_left _ (List.mem_append_left _ (List.mem_append_left _ (List.mem_of_getElem? (i := 6) rfl))))))) (fun _ h9 => h9) rfl hin2 rfl (by decide +kernel) rfl rfl (Nat.le_of_ble_eq_true rfl) dX3_init_21 (fun H locs hP hD hS => ?_)
  obtain ⟨u4, hu4⟩ : ∃ v : gS, v = sP u3 u3.2.2.2.1 (va_up u3.2.2.2.2 a (.inr (2, [.int (zI p1), .int (zI p2), .int (zI p3), .int (zI 0)]))) := ⟨_, rfl⟩
  have hG : gH D cy ad jf A u4 H := by rw [hu4, gH, ← gW_set hG.2 ha_u3 hk9]; exact ⟨hP, hD⟩
  have ha_u4 : a ∈ u4.2.2.2.1 := by rw [hu4]; exact ha_u3
  have hE_u4 : u4.2.2.2.2 a = .inr (2, [.int (zI p1), .int (zI p2), .int (zI p3), .int (zI 0)]) := by rw [hu4]; exact up_s _ _ _
  exact W.vret hx hb hr (fun t9 ht9_ hW => ⟨⟨u4, rfl, (by subst hu4; subst hu3; subst hu2; subst hu1; first | rfl | simp only [up_up]), gB.mk' hG hC hS ht9_ hW⟩, hS.F ht9_⟩) hS.2.2 dX3_init_24
set_option maxHeartbeats 4000000 in
set_option maxRecDepth 100000 in
theorem kX3_init_X0 (l : Launch) (D : va_G) (cy : Nat → ClassId) (ad : Nat → Nat) (jf : Nat → Int64) (A : Nat → Prop) (u : gS) (a : Nat) (nm sp li fd : Int) (p1 p2 p3 : Int) (ha : a ∈ u.2.2.2.1) (hE : u.2.2.2.2 a = .inr (0, [.int (zI nm), .int (zI sp), .int (zI li), .int (zI fd)])) : Met l yX3_init wsX3_init ({ frames := 1, cells := 0, slots := 0, locals := 30 }) (va_Pc [.ref a, .int (zI p1), .int (zI p2), .int (zI p3)] (gB D cy ad jf A u)) (va_Qv (fun (v : gS) => v = sP u u.2.2.2.1 (va_up u.2.2.2.2 a (.inr (0, [.int (zI p1), .int (zI p2), .int (zI p3), .int (zI 0)])))) (gB D cy ad jf A) A) 0 0 A := by
  refine Met.ofW (cc := cX3_init) (maxL := 4) (ret := none) (by decide) rfl ?_
  intro p e s m args below meth c s₁ B hml hv
  obtain ⟨rfl, hG, hC⟩ := hv
  have hx := B.exec
  have hb := B.bytes
  have hr := B.returns
  have hts := atoms_spec (ws := wsX3_init) B.pre
  have hown : s.vm.findClass RX3 = some m.cls := findClass_of_methodNamed B.named
  have hlocks := B.notSynchronized
  have hS : va_S A s.heap s.heap [] := va_S.rf
  have hl := lv_entry ([.ref a, .int (zI p1), .int (zI p2), .int (zI p3)]) (n := 4) (Nat.le_of_ble_eq_true rfl)
  rw [lg_entry_eq]
  generalize (lg_sl ([.ref a, .int (zI p1), .int (zI p2), .int (zI p3)]) ++ List.replicate (4 - (lg_sl ([.ref a, .int (zI p1), .int (zI p2), .int (zI p3)])).length) Slot.unset).toArray = ls at hl ⊢
  have hl : lv_has ls 4 [(0, .ref a), (1, .int (zI p1)), (2, .int (zI p2)), (3, .int (zI p3))] := hl
  have hin2 : meth.name = "<init>" := (name_of_methodNamed B.named B.method).1
  refine lv_aload_n hx hb dX3_init_0 rfl (lv_at hl 0 rfl) ?_
  refine W.objInit hx hb hown (hts (.methodLink RX3 3 objectInit) (List.mem_cons_of_mem _ (List.mem_append_left _ (List.mem_append_left _ (List.mem_append_left _ (List.mem_append_left _ (List.mem_of_getElem? (i := 0) rfl))))))) (hts (.instanceMethod objectInit) (List.mem_cons_of_mem _ (List.mem_append_left _ (List.mem_append_left _ (List.mem_append_left _ (List.mem_append_left _ (List.mem_of_getElem? (i := 1) rfl))))))) (hts (.code objectInit ⟨#[0xb1]⟩ 1 none) (List.mem_cons_of_mem _ (List.mem_append_left _ (List.mem_append_left _ (List.mem_append_left _ (List.mem_append_left _ (List.mem_of_getElem? (i := 2) rfl))))))) rfl (by rw [hml]; exact hl.1) rfl dX3_init_1 (Nat.le_of_ble_eq_true rfl) (Nat.le_of_ble_eq_true rfl) ?_
  refine W.eq (g2 := F0 m 4 ls []) rfl ?_
  refine lv_aload_n hx hb dX3_init_4 rfl (lv_at hl 0 rfl) ?_
  refine z_iconst hx hb dX3_init_5 ?_
  obtain ⟨k9, hk9⟩ := va_pl_get (X := gFx cy ad jf u) (f := u.2.2.2.2) ha
  refine va_put (C := RX0) (T := TX0) (N := 4) (ci := 0) (ty := .int) hx hb hts (fun _ h => (List.mem_cons_of_mem _ (List.mem_append_left _ (List.mem_append_left _ (List.mem_append_left _ (List.mem_append_right _ h)))))) tyX0 tyX0_ok nmX0 hown hC.1 hG.1 hG.2 hS k9 (hk9.trans (by rw [hE])) rfl 3 (by decide) (hts (.fieldLink RX3 9 "StraitSwim$Plain" "feed" "I") (List.mem_cons_of_mem _ (List.mem_append_left _ (List.mem_append_left _ (List.mem_append_left _ (List.mem_append_left _ (List.mem_of_getElem? (i := 3) rfl))))))) (fun _ h9 => h9) rfl (by decide +kernel) rfl rfl (Nat.le_of_ble_eq_true rfl) dX3_init_6 (fun H locs hP hD hS => ?_)
  obtain ⟨u1, hu1⟩ : ∃ v : gS, v = sP u u.2.2.2.1 (va_up u.2.2.2.2 a (.inr (0, [.int (zI nm), .int (zI sp), .int (zI li), .int (zI 0)]))) := ⟨_, rfl⟩
  have hG : gH D cy ad jf A u1 H := by rw [hu1, gH, ← gW_set hG.2 ha hk9]; exact ⟨hP, hD⟩
  have ha_u1 : a ∈ u1.2.2.2.1 := by rw [hu1]; exact ha
  have hE_u1 : u1.2.2.2.2 a = .inr (0, [.int (zI nm), .int (zI sp), .int (zI li), .int (zI 0)]) := by rw [hu1]; exact up_s _ _ _
  refine lv_aload_n hx hb dX3_init_9 rfl (lv_at hl 0 rfl) ?_
  refine lv_iload_n hx hb dX3_init_10 rfl (lv_at hl 1 rfl) ?_
  obtain ⟨k9, hk9⟩ := va_pl_get (X := gFx cy ad jf u1) (f := u1.2.2.2.2) ha_u1
  refine va_putF (C := RX0) (T := TX0) (N := 4) (ci := 0) (ty := .int) hx hb hts (fun _ h => (List.mem_cons_of_mem _ (List.mem_append_left _ (List.mem_append_left _ (List.mem_append_left _ (List.mem_append_right _ h)))))) tyX0 tyX0_ok nmX0 hown hC.1 hG.1 hG.2 hS k9 (hk9.trans (by rw [hE_u1])) rfl 0 (by decide) (hts (.fieldLink RX3 15 "StraitSwim$Plain" "number" "I") (List.mem_cons_of_mem _ (List.mem_append_left _ (List.mem_append_left _ (List.mem_append_left _ (List.mem_append_left _ (List.mem_of_getElem? (i := 4) rfl))))))) (fun _ h9 => h9) rfl hin2 rfl (by decide +kernel) rfl rfl (Nat.le_of_ble_eq_true rfl) dX3_init_11 (fun H locs hP hD hS => ?_)
  obtain ⟨u2, hu2⟩ : ∃ v : gS, v = sP u1 u1.2.2.2.1 (va_up u1.2.2.2.2 a (.inr (0, [.int (zI p1), .int (zI sp), .int (zI li), .int (zI 0)]))) := ⟨_, rfl⟩
  have hG : gH D cy ad jf A u2 H := by rw [hu2, gH, ← gW_set hG.2 ha_u1 hk9]; exact ⟨hP, hD⟩
  have ha_u2 : a ∈ u2.2.2.2.1 := by rw [hu2]; exact ha_u1
  have hE_u2 : u2.2.2.2.2 a = .inr (0, [.int (zI p1), .int (zI sp), .int (zI li), .int (zI 0)]) := by rw [hu2]; exact up_s _ _ _
  refine lv_aload_n hx hb dX3_init_14 rfl (lv_at hl 0 rfl) ?_
  refine lv_iload_n hx hb dX3_init_15 rfl (lv_at hl 2 rfl) ?_
  obtain ⟨k9, hk9⟩ := va_pl_get (X := gFx cy ad jf u2) (f := u2.2.2.2.2) ha_u2
  refine va_putF (C := RX0) (T := TX0) (N := 4) (ci := 0) (ty := .int) hx hb hts (fun _ h => (List.mem_cons_of_mem _ (List.mem_append_left _ (List.mem_append_left _ (List.mem_append_left _ (List.mem_append_right _ h)))))) tyX0 tyX0_ok nmX0 hown hC.1 hG.1 hG.2 hS k9 (hk9.trans (by rw [hE_u2])) rfl 1 (by decide) (hts (.fieldLink RX3 18 "StraitSwim$Plain" "speed" "I") (List.mem_cons_of_mem _ (List.mem_append_left _ (List.mem_append_left _ (List.mem_append_left _ (List.mem_append_left _ (List.mem_of_getElem? (i := 5) rfl))))))) (fun _ h9 => h9) rfl hin2 rfl (by decide +kernel) rfl rfl (Nat.le_of_ble_eq_true rfl) dX3_init_16 (fun H locs hP hD hS => ?_)
  obtain ⟨u3, hu3⟩ : ∃ v : gS, v = sP u2 u2.2.2.2.1 (va_up u2.2.2.2.2 a (.inr (0, [.int (zI p1), .int (zI p2), .int (zI li), .int (zI 0)]))) := ⟨_, rfl⟩
  have hG : gH D cy ad jf A u3 H := by rw [hu3, gH, ← gW_set hG.2 ha_u2 hk9]; exact ⟨hP, hD⟩
  have ha_u3 : a ∈ u3.2.2.2.1 := by rw [hu3]; exact ha_u2
  have hE_u3 : u3.2.2.2.2 a = .inr (0, [.int (zI p1), .int (zI p2), .int (zI li), .int (zI 0)]) := by rw [hu3]; exact up_s _ _ _
  refine lv_aload_n hx hb dX3_init_19 rfl (lv_at hl 0 rfl) ?_
  refine lv_iload_n hx hb dX3_init_20 rfl (lv_at hl 3 rfl) ?_
  obtain ⟨k9, hk9⟩ := va_pl_get (X := gFx cy ad jf u3) (f := u3.2.2.2.2) ha_u3
  refine va_putF (C := RX0) (T := TX0) (N := 4) (ci := 0) (ty := .int) hx hb hts (fun _ h => (List.mem_cons_of_mem _ (List.mem_append_left _ (List.mem_append_left _ (List.mem_append_left _ (List.mem_append_right _ h)))))) tyX0 tyX0_ok nmX0 hown hC.1 hG.1 hG.2 hS k9 (hk9.trans (by rw [hE_u3])) rfl 2 (by decide) (hts (.fieldLink RX3 21 "StraitSwim$Plain" "limit" "I") (List.mem_cons_of_mem _ (List.mem_append_left _ (List.mem_append_left _ (List.mem_append_left _ (List.mem_append_left _ (List.mem_of_getElem? (i := 6) rfl))))))) (fun _ h9 => h9) rfl hin2 rfl (by decide +kernel) rfl rfl (Nat.le_of_ble_eq_true rfl) dX3_init_21 (fun H locs hP hD hS => ?_)
  obtain ⟨u4, hu4⟩ : ∃ v : gS, v = sP u3 u3.2.2.2.1 (va_up u3.2.2.2.2 a (.inr (0, [.int (zI p1), .int (zI p2), .int (zI p3), .int (zI 0)]))) := ⟨_, rfl⟩
  have hG : gH D cy ad jf A u4 H := by rw [hu4, gH, ← gW_set hG.2 ha_u3 hk9]; exact ⟨hP, hD⟩
  have ha_u4 : a ∈ u4.2.2.2.1 := by rw [hu4]; exact ha_u3
  have hE_u4 : u4.2.2.2.2 a = .inr (0, [.int (zI p1), .int (zI p2), .int (zI p3), .int (zI 0)]) := by rw [hu4]; exact up_s _ _ _
  exact W.vret hx hb hr (fun t9 ht9_ hW => ⟨⟨u4, rfl, (by subst hu4; subst hu3; subst hu2; subst hu1; first | rfl | simp only [up_up]), gB.mk' hG hC hS ht9_ hW⟩, hS.F ht9_⟩) hS.2.2 dX3_init_24
set_option maxHeartbeats 4000000 in
set_option maxRecDepth 100000 in
theorem kX3_init_X4 (l : Launch) (D : va_G) (cy : Nat → ClassId) (ad : Nat → Nat) (jf : Nat → Int64) (A : Nat → Prop) (u : gS) (a : Nat) (nm sp li fd : Int) (p1 p2 p3 : Int) (ha : a ∈ u.2.2.2.1) (hE : u.2.2.2.2 a = .inr (3, [.int (zI nm), .int (zI sp), .int (zI li), .int (zI fd)])) : Met l yX3_init wsX3_init ({ frames := 1, cells := 0, slots := 0, locals := 30 }) (va_Pc [.ref a, .int (zI p1), .int (zI p2), .int (zI p3)] (gB D cy ad jf A u)) (va_Qv (fun (v : gS) => v = sP u u.2.2.2.1 (va_up u.2.2.2.2 a (.inr (3, [.int (zI p1), .int (zI p2), .int (zI p3), .int (zI 0)])))) (gB D cy ad jf A) A) 0 0 A := by
  refine Met.ofW (cc := cX3_init) (maxL := 4) (ret := none) (by decide) rfl ?_
  intro p e s m args below meth c s₁ B hml hv
  obtain ⟨rfl, hG, hC⟩ := hv
  have hx := B.exec
  have hb := B.bytes
  have hr := B.returns
  have hts := atoms_spec (ws := wsX3_init) B.pre
  have hown : s.vm.findClass RX3 = some m.cls := findClass_of_methodNamed B.named
  have hlocks := B.notSynchronized
  have hS : va_S A s.heap s.heap [] := va_S.rf
  have hl := lv_entry ([.ref a, .int (zI p1), .int (zI p2), .int (zI p3)]) (n := 4) (Nat.le_of_ble_eq_true rfl)
  rw [lg_entry_eq]
  generalize (lg_sl ([.ref a, .int (zI p1), .int (zI p2), .int (zI p3)]) ++ List.replicate (4 - (lg_sl ([.ref a, .int (zI p1), .int (zI p2), .int (zI p3)])).length) Slot.unset).toArray = ls at hl ⊢
  have hl : lv_has ls 4 [(0, .ref a), (1, .int (zI p1)), (2, .int (zI p2)), (3, .int (zI p3))] := hl
  have hin2 : meth.name = "<init>" := (name_of_methodNamed B.named B.method).1
  refine lv_aload_n hx hb dX3_init_0 rfl (lv_at hl 0 rfl) ?_
  refine W.objInit hx hb hown (hts (.methodLink RX3 3 objectInit) (List.mem_cons_of_mem _ (List.mem_append_left _ (List.mem_append_left _ (List.mem_append_left _ (List.mem_append_left _ (List.mem_of_getElem? (i := 0) rfl))))))) (hts (.instanceMethod objectInit) (List.mem_cons_of_mem _ (List.mem_append_left _ (List.mem_append_left _ (List.mem_append_left _ (List.mem_append_left _ (List.mem_of_getElem? (i := 1) rfl))))))) (hts (.code objectInit ⟨#[0xb1]⟩ 1 none) (List.mem_cons_of_mem _ (List.mem_append_left _ (List.mem_append_left _ (List.mem_append_left _ (List.mem_append_left _ (List.mem_of_getElem? (i := 2) rfl))))))) rfl (by rw [hml]; exact hl.1) rfl dX3_init_1 (Nat.le_of_ble_eq_true rfl) (Nat.le_of_ble_eq_true rfl) ?_
  refine W.eq (g2 := F0 m 4 ls []) rfl ?_
  refine lv_aload_n hx hb dX3_init_4 rfl (lv_at hl 0 rfl) ?_
  refine z_iconst hx hb dX3_init_5 ?_
  obtain ⟨k9, hk9⟩ := va_pl_get (X := gFx cy ad jf u) (f := u.2.2.2.2) ha
  refine va_put (C := RX4) (T := TX4) (N := 4) (ci := 3) (ty := .int) hx hb hts (fun _ h => (List.mem_cons_of_mem _ (List.mem_append_left _ (List.mem_append_right _ h)))) tyX4 tyX4_ok nmX4 hown hC.1 hG.1 hG.2 hS k9 (hk9.trans (by rw [hE])) rfl 3 (by decide) (hts (.fieldLink RX3 9 "StraitSwim$Plain" "feed" "I") (List.mem_cons_of_mem _ (List.mem_append_left _ (List.mem_append_left _ (List.mem_append_left _ (List.mem_append_left _ (List.mem_of_getElem? (i := 3) rfl))))))) (fun _ h9 => h9) rfl (by decide +kernel) rfl rfl (Nat.le_of_ble_eq_true rfl) dX3_init_6 (fun H locs hP hD hS => ?_)
  obtain ⟨u1, hu1⟩ : ∃ v : gS, v = sP u u.2.2.2.1 (va_up u.2.2.2.2 a (.inr (3, [.int (zI nm), .int (zI sp), .int (zI li), .int (zI 0)]))) := ⟨_, rfl⟩
  have hG : gH D cy ad jf A u1 H := by rw [hu1, gH, ← gW_set hG.2 ha hk9]; exact ⟨hP, hD⟩
  have ha_u1 : a ∈ u1.2.2.2.1 := by rw [hu1]; exact ha
  have hE_u1 : u1.2.2.2.2 a = .inr (3, [.int (zI nm), .int (zI sp), .int (zI li), .int (zI 0)]) := by rw [hu1]; exact up_s _ _ _
  refine lv_aload_n hx hb dX3_init_9 rfl (lv_at hl 0 rfl) ?_
  refine lv_iload_n hx hb dX3_init_10 rfl (lv_at hl 1 rfl) ?_
  obtain ⟨k9, hk9⟩ := va_pl_get (X := gFx cy ad jf u1) (f := u1.2.2.2.2) ha_u1
  refine va_putF (C := RX4) (T := TX4) (N := 4) (ci := 3) (ty := .int) hx hb hts (fun _ h => (List.mem_cons_of_mem _ (List.mem_append_left _ (List.mem_append_right _ h)))) tyX4 tyX4_ok nmX4 hown hC.1 hG.1 hG.2 hS k9 (hk9.trans (by rw [hE_u1])) rfl 0 (by decide) (hts (.fieldLink RX3 15 "StraitSwim$Plain" "number" "I") (List.mem_cons_of_mem _ (List.mem_append_left _ (List.mem_append_left _ (List.mem_append_left _ (List.mem_append_left _ (List.mem_of_getElem? (i := 4) rfl))))))) (fun _ h9 => h9) rfl hin2 rfl (by decide +kernel) rfl rfl (Nat.le_of_ble_eq_true rfl) dX3_init_11 (fun H locs hP hD hS => ?_)
  obtain ⟨u2, hu2⟩ : ∃ v : gS, v = sP u1 u1.2.2.2.1 (va_up u1.2.2.2.2 a (.inr (3, [.int (zI p1), .int (zI sp), .int (zI li), .int (zI 0)]))) := ⟨_, rfl⟩
  have hG : gH D cy ad jf A u2 H := by rw [hu2, gH, ← gW_set hG.2 ha_u1 hk9]; exact ⟨hP, hD⟩
  have ha_u2 : a ∈ u2.2.2.2.1 := by rw [hu2]; exact ha_u1
  have hE_u2 : u2.2.2.2.2 a = .inr (3, [.int (zI p1), .int (zI sp), .int (zI li), .int (zI 0)]) := by rw [hu2]; exact up_s _ _ _
  refine lv_aload_n hx hb dX3_init_14 rfl (lv_at hl 0 rfl) ?_
  refine lv_iload_n hx hb dX3_init_15 rfl (lv_at hl 2 rfl) ?_
  obtain ⟨k9, hk9⟩ := va_pl_get (X := gFx cy ad jf u2) (f := u2.2.2.2.2) ha_u2
  refine va_putF (C := RX4) (T := TX4) (N := 4) (ci := 3) (ty := .int) hx hb hts (fun _ h => (List.mem_cons_of_mem _ (List.mem_append_left _ (List.mem_append_right _ h)))) tyX4 tyX4_ok nmX4 hown hC.1 hG.1 hG.2 hS k9 (hk9.trans (by rw [hE_u2])) rfl 1 (by decide) (hts (.fieldLink RX3 18 "StraitSwim$Plain" "speed" "I") (List.mem_cons_of_mem _ (List.mem_append_left _ (List.mem_append_left _ (List.mem_append_left _ (List.mem_append_left _ (List.mem_of_getElem? (i := 5) rfl))))))) (fun _ h9 => h9) rfl hin2 rfl (by decide +kernel) rfl rfl (Nat.le_of_ble_eq_true rfl) dX3_init_16 (fun H locs hP hD hS => ?_)
  obtain ⟨u3, hu3⟩ : ∃ v : gS, v = sP u2 u2.2.2.2.1 (va_up u2.2.2.2.2 a (.inr (3, [.int (zI p1), .int (zI p2), .int (zI li), .int (zI 0)]))) := ⟨_, rfl⟩
  have hG : gH D cy ad jf A u3 H := by rw [hu3, gH, ← gW_set hG.2 ha_u2 hk9]; exact ⟨hP, hD⟩
  have ha_u3 : a ∈ u3.2.2.2.1 := by rw [hu3]; exact ha_u2
  have hE_u3 : u3.2.2.2.2 a = .inr (3, [.int (zI p1), .int (zI p2), .int (zI li), .int (zI 0)]) := by rw [hu3]; exact up_s _ _ _
  refine lv_aload_n hx hb dX3_init_19 rfl (lv_at hl 0 rfl) ?_
  refine lv_iload_n hx hb dX3_init_20 rfl (lv_at hl 3 rfl) ?_
  obtain ⟨k9, hk9⟩ := va_pl_get (X := gFx cy ad jf u3) (f := u3.2.2.2.2) ha_u3
  refine va_putF (C := RX4) (T := TX4) (N := 4) (ci := 3) (ty := .int) hx hb hts (fun _ h => (List.mem_cons_of_mem _ (List.mem_append_left _ (List.mem_append_right _ h)))) tyX4 tyX4_ok nmX4 hown hC.1 hG.1 hG.2 hS k9 (hk9.trans (by rw [hE_u3])) rfl 2 (by decide) (hts (.fieldLink RX3 21 "StraitSwim$Plain" "limit" "I") (List.mem_cons_of_mem _ (List.mem_append_left _ (List.mem_append_left _ (List.mem_append_left _ (List.mem_append_left _ (List.mem_of_getElem? (i := 6) rfl))))))) (fun _ h9 => h9) rfl hin2 rfl (by decide +kernel) rfl rfl (Nat.le_of_ble_eq_true rfl) dX3_init_21 (fun H locs hP hD hS => ?_)
  obtain ⟨u4, hu4⟩ : ∃ v : gS, v = sP u3 u3.2.2.2.1 (va_up u3.2.2.2.2 a (.inr (3, [.int (zI p1), .int (zI p2), .int (zI p3), .int (zI 0)]))) := ⟨_, rfl⟩
  have hG : gH D cy ad jf A u4 H := by rw [hu4, gH, ← gW_set hG.2 ha_u3 hk9]; exact ⟨hP, hD⟩
  have ha_u4 : a ∈ u4.2.2.2.1 := by rw [hu4]; exact ha_u3
  have hE_u4 : u4.2.2.2.2 a = .inr (3, [.int (zI p1), .int (zI p2), .int (zI p3), .int (zI 0)]) := by rw [hu4]; exact up_s _ _ _
  exact W.vret hx hb hr (fun t9 ht9_ hW => ⟨⟨u4, rfl, (by subst hu4; subst hu3; subst hu2; subst hu1; first | rfl | simp only [up_up]), gB.mk' hG hC hS ht9_ hW⟩, hS.F ht9_⟩) hS.2.2 dX3_init_24
set_option maxHeartbeats 4000000 in
set_option maxRecDepth 100000 in
theorem kX3_init_X6 (l : Launch) (D : va_G) (cy : Nat → ClassId) (ad : Nat → Nat) (jf : Nat → Int64) (A : Nat → Prop) (u : gS) (a : Nat) (nm sp li fd : Int) (p1 p2 p3 : Int) (ha : a ∈ u.2.2.2.1) (hE : u.2.2.2.2 a = .inr (5, [.int (zI nm), .int (zI sp), .int (zI li), .int (zI fd)])) : Met l yX3_init wsX3_init ({ frames := 1, cells := 0, slots := 0, locals := 30 }) (va_Pc [.ref a, .int (zI p1), .int (zI p2), .int (zI p3)] (gB D cy ad jf A u)) (va_Qv (fun (v : gS) => v = sP u u.2.2.2.1 (va_up u.2.2.2.2 a (.inr (5, [.int (zI p1), .int (zI p2), .int (zI p3), .int (zI 0)])))) (gB D cy ad jf A) A) 0 0 A := by
  refine Met.ofW (cc := cX3_init) (maxL := 4) (ret := none) (by decide) rfl ?_
  intro p e s m args below meth c s₁ B hml hv
  obtain ⟨rfl, hG, hC⟩ := hv
  have hx := B.exec
  have hb := B.bytes
  have hr := B.returns
  have hts := atoms_spec (ws := wsX3_init) B.pre
  have hown : s.vm.findClass RX3 = some m.cls := findClass_of_methodNamed B.named
  have hlocks := B.notSynchronized
  have hS : va_S A s.heap s.heap [] := va_S.rf
  have hl := lv_entry ([.ref a, .int (zI p1), .int (zI p2), .int (zI p3)]) (n := 4) (Nat.le_of_ble_eq_true rfl)
  rw [lg_entry_eq]
  generalize (lg_sl ([.ref a, .int (zI p1), .int (zI p2), .int (zI p3)]) ++ List.replicate (4 - (lg_sl ([.ref a, .int (zI p1), .int (zI p2), .int (zI p3)])).length) Slot.unset).toArray = ls at hl ⊢
  have hl : lv_has ls 4 [(0, .ref a), (1, .int (zI p1)), (2, .int (zI p2)), (3, .int (zI p3))] := hl
  have hin2 : meth.name = "<init>" := (name_of_methodNamed B.named B.method).1
  refine lv_aload_n hx hb dX3_init_0 rfl (lv_at hl 0 rfl) ?_
  refine W.objInit hx hb hown (hts (.methodLink RX3 3 objectInit) (List.mem_cons_of_mem _ (List.mem_append_left _ (List.mem_append_left _ (List.mem_append_left _ (List.mem_append_left _ (List.mem_of_getElem? (i := 0) rfl))))))) (hts (.instanceMethod objectInit) (List.mem_cons_of_mem _ (List.mem_append_left _ (List.mem_append_left _ (List.mem_append_left _ (List.mem_append_left _ (List.mem_of_getElem? (i := 1) rfl))))))) (hts (.code objectInit ⟨#[0xb1]⟩ 1 none) (List.mem_cons_of_mem _ (List.mem_append_left _ (List.mem_append_left _ (List.mem_append_left _ (List.mem_append_left _ (List.mem_of_getElem? (i := 2) rfl))))))) rfl (by rw [hml]; exact hl.1) rfl dX3_init_1 (Nat.le_of_ble_eq_true rfl) (Nat.le_of_ble_eq_true rfl) ?_
  refine W.eq (g2 := F0 m 4 ls []) rfl ?_
  refine lv_aload_n hx hb dX3_init_4 rfl (lv_at hl 0 rfl) ?_
  refine z_iconst hx hb dX3_init_5 ?_
  obtain ⟨k9, hk9⟩ := va_pl_get (X := gFx cy ad jf u) (f := u.2.2.2.2) ha
  refine va_put (C := RX6) (T := TX6) (N := 4) (ci := 5) (ty := .int) hx hb hts (fun _ h => (List.mem_cons_of_mem _ (List.mem_append_right _ h))) tyX6 tyX6_ok nmX6 hown hC.1 hG.1 hG.2 hS k9 (hk9.trans (by rw [hE])) rfl 3 (by decide) (hts (.fieldLink RX3 9 "StraitSwim$Plain" "feed" "I") (List.mem_cons_of_mem _ (List.mem_append_left _ (List.mem_append_left _ (List.mem_append_left _ (List.mem_append_left _ (List.mem_of_getElem? (i := 3) rfl))))))) (fun _ h9 => h9) rfl (by decide +kernel) rfl rfl (Nat.le_of_ble_eq_true rfl) dX3_init_6 (fun H locs hP hD hS => ?_)
  obtain ⟨u1, hu1⟩ : ∃ v : gS, v = sP u u.2.2.2.1 (va_up u.2.2.2.2 a (.inr (5, [.int (zI nm), .int (zI sp), .int (zI li), .int (zI 0)]))) := ⟨_, rfl⟩
  have hG : gH D cy ad jf A u1 H := by rw [hu1, gH, ← gW_set hG.2 ha hk9]; exact ⟨hP, hD⟩
  have ha_u1 : a ∈ u1.2.2.2.1 := by rw [hu1]; exact ha
  have hE_u1 : u1.2.2.2.2 a = .inr (5, [.int (zI nm), .int (zI sp), .int (zI li), .int (zI 0)]) := by rw [hu1]; exact up_s _ _ _
  refine lv_aload_n hx hb dX3_init_9 rfl (lv_at hl 0 rfl) ?_
  refine lv_iload_n hx hb dX3_init_10 rfl (lv_at hl 1 rfl) ?_
  obtain ⟨k9, hk9⟩ := va_pl_get (X := gFx cy ad jf u1) (f := u1.2.2.2.2) ha_u1
  refine va_putF (C := RX6) (T := TX6) (N := 4) (ci := 5) (ty := .int) hx hb hts (fun _ h => (List.mem_cons_of_mem _ (List.mem_append_right _ h))) tyX6 tyX6_ok nmX6 hown hC.1 hG.1 hG.2 hS k9 (hk9.trans (by rw [hE_u1])) rfl 0 (by decide) (hts (.fieldLink RX3 15 "StraitSwim$Plain" "number" "I") (List.mem_cons_of_mem _ (List.mem_append_left _ (List.mem_append_left _ (List.mem_append_left _ (List.mem_append_left _ (List.mem_of_getElem? (i := 4) rfl))))))) (fun _ h9 => h9) rfl hin2 rfl (by decide +kernel) rfl rfl (Nat.le_of_ble_eq_true rfl) dX3_init_11 (fun H locs hP hD hS => ?_)
  obtain ⟨u2, hu2⟩ : ∃ v : gS, v = sP u1 u1.2.2.2.1 (va_up u1.2.2.2.2 a (.inr (5, [.int (zI p1), .int (zI sp), .int (zI li), .int (zI 0)]))) := ⟨_, rfl⟩
  have hG : gH D cy ad jf A u2 H := by rw [hu2, gH, ← gW_set hG.2 ha_u1 hk9]; exact ⟨hP, hD⟩
  have ha_u2 : a ∈ u2.2.2.2.1 := by rw [hu2]; exact ha_u1
  have hE_u2 : u2.2.2.2.2 a = .inr (5, [.int (zI p1), .int (zI sp), .int (zI li), .int (zI 0)]) := by rw [hu2]; exact up_s _ _ _
  refine lv_aload_n hx hb dX3_init_14 rfl (lv_at hl 0 rfl) ?_
  refine lv_iload_n hx hb dX3_init_15 rfl (lv_at hl 2 rfl) ?_
  obtain ⟨k9, hk9⟩ := va_pl_get (X := gFx cy ad jf u2) (f := u2.2.2.2.2) ha_u2
  refine va_putF (C := RX6) (T := TX6) (N := 4) (ci := 5) (ty := .int) hx hb hts (fun _ h => (List.mem_cons_of_mem _ (List.mem_append_right _ h))) tyX6 tyX6_ok nmX6 hown hC.1 hG.1 hG.2 hS k9 (hk9.trans (by rw [hE_u2])) rfl 1 (by decide) (hts (.fieldLink RX3 18 "StraitSwim$Plain" "speed" "I") (List.mem_cons_of_mem _ (List.mem_append_left _ (List.mem_append_left _ (List.mem_append_left _ (List.mem_append_left _ (List.mem_of_getElem? (i := 5) rfl))))))) (fun _ h9 => h9) rfl hin2 rfl (by decide +kernel) rfl rfl (Nat.le_of_ble_eq_true rfl) dX3_init_16 (fun H locs hP hD hS => ?_)
  obtain ⟨u3, hu3⟩ : ∃ v : gS, v = sP u2 u2.2.2.2.1 (va_up u2.2.2.2.2 a (.inr (5, [.int (zI p1), .int (zI p2), .int (zI li), .int (zI 0)]))) := ⟨_, rfl⟩
  have hG : gH D cy ad jf A u3 H := by rw [hu3, gH, ← gW_set hG.2 ha_u2 hk9]; exact ⟨hP, hD⟩
  have ha_u3 : a ∈ u3.2.2.2.1 := by rw [hu3]; exact ha_u2
  have hE_u3 : u3.2.2.2.2 a = .inr (5, [.int (zI p1), .int (zI p2), .int (zI li), .int (zI 0)]) := by rw [hu3]; exact up_s _ _ _
  refine lv_aload_n hx hb dX3_init_19 rfl (lv_at hl 0 rfl) ?_
  refine lv_iload_n hx hb dX3_init_20 rfl (lv_at hl 3 rfl) ?_
  obtain ⟨k9, hk9⟩ := va_pl_get (X := gFx cy ad jf u3) (f := u3.2.2.2.2) ha_u3
  refine va_putF (C := RX6) (T := TX6) (N := 4) (ci := 5) (ty := .int) hx hb hts (fun _ h => (List.mem_cons_of_mem _ (List.mem_append_right _ h))) tyX6 tyX6_ok nmX6 hown hC.1 hG.1 hG.2 hS k9 (hk9.trans (by rw [hE_u3])) rfl 2 (by decide) (hts (.fieldLink RX3 21 "StraitSwim$Plain" "limit" "I") (List.mem_cons_of_mem _ (List.mem_append_left _ (List.mem_append_left _ (List.mem_append_left _ (List.mem_append_left _ (List.mem_of_getElem? (i := 6) rfl))))))) (fun _ h9 => h9) rfl hin2 rfl (by decide +kernel) rfl rfl (Nat.le_of_ble_eq_true rfl) dX3_init_21 (fun H locs hP hD hS => ?_)
  obtain ⟨u4, hu4⟩ : ∃ v : gS, v = sP u3 u3.2.2.2.1 (va_up u3.2.2.2.2 a (.inr (5, [.int (zI p1), .int (zI p2), .int (zI p3), .int (zI 0)]))) := ⟨_, rfl⟩
  have hG : gH D cy ad jf A u4 H := by rw [hu4, gH, ← gW_set hG.2 ha_u3 hk9]; exact ⟨hP, hD⟩
  have ha_u4 : a ∈ u4.2.2.2.1 := by rw [hu4]; exact ha_u3
  have hE_u4 : u4.2.2.2.2 a = .inr (5, [.int (zI p1), .int (zI p2), .int (zI p3), .int (zI 0)]) := by rw [hu4]; exact up_s _ _ _
  exact W.vret hx hb hr (fun t9 ht9_ hW => ⟨⟨u4, rfl, (by subst hu4; subst hu3; subst hu2; subst hu1; first | rfl | simp only [up_up]), gB.mk' hG hC hS ht9_ hW⟩, hS.F ht9_⟩) hS.2.2 dX3_init_24
set_option maxHeartbeats 4000000 in
set_option maxRecDepth 100000 in
theorem kX0_init_X0 (l : Launch) (D : va_G) (cy : Nat → ClassId) (ad : Nat → Nat) (jf : Nat → Int64) (A : Nat → Prop) (u : gS) (a : Nat) (nm sp li fd : Int) (p1 p2 p3 : Int) (ha : a ∈ u.2.2.2.1) (hE : u.2.2.2.2 a = .inr (0, [.int (zI nm), .int (zI sp), .int (zI li), .int (zI fd)])) : Met l yX0_init wsX0_init ({ frames := 2, cells := 0, slots := 0, locals := 54 }) (va_Pc [.ref a, .int (zI p1), .int (zI p2), .int (zI p3)] (gB D cy ad jf A u)) (va_Qv (fun (v : gS) => v = sP u u.2.2.2.1 (va_up u.2.2.2.2 a (.inr (0, [.int (zI p1), .int (zI p2), .int (zI p3), .int (zI 0)])))) (gB D cy ad jf A) A) 0 0 A := by
  refine Met.ofW (cc := cX0_init) (maxL := 4) (ret := none) (by decide) rfl ?_
  intro p e s m args below meth c s₁ B hml hv
  obtain ⟨rfl, hG, hC⟩ := hv
  have hx := B.exec
  have hb := B.bytes
  have hr := B.returns
  have hts := atoms_spec (ws := wsX0_init) B.pre
  have hown : s.vm.findClass RX0 = some m.cls := findClass_of_methodNamed B.named
  have hlocks := B.notSynchronized
  have hS : va_S A s.heap s.heap [] := va_S.rf
  have hl := lv_entry ([.ref a, .int (zI p1), .int (zI p2), .int (zI p3)]) (n := 4) (Nat.le_of_ble_eq_true rfl)
  rw [lg_entry_eq]
  generalize (lg_sl ([.ref a, .int (zI p1), .int (zI p2), .int (zI p3)]) ++ List.replicate (4 - (lg_sl ([.ref a, .int (zI p1), .int (zI p2), .int (zI p3)])).length) Slot.unset).toArray = ls at hl ⊢
  have hl : lv_has ls 4 [(0, .ref a), (1, .int (zI p1)), (2, .int (zI p2)), (3, .int (zI p3))] := hl
  have hin2 : meth.name = "<init>" := (name_of_methodNamed B.named B.method).1
  refine lv_aload_n hx hb dX0_init_0 rfl (lv_at hl 0 rfl) ?_
  refine lv_iload_n hx hb dX0_init_1 rfl (lv_at hl 1 rfl) ?_
  refine lv_iload_n hx hb dX0_init_2 rfl (lv_at hl 2 rfl) ?_
  refine lv_iload_n hx hb dX0_init_3 rfl (lv_at hl 3 rfl) ?_
  refine g_callv (va_runI (As := [.int (zI p1), .int (zI p2), .int (zI p3)]) (rest := []) ⟨hx, hb, hml, hown, hts⟩ (kX3_init_X0 l D cy ad jf A u a nm sp li fd p1 p2 p3 ha hE) (cwI 3 hts gX0_init_X3_init rfl rfl rfl (hts (.initialized RX3) (List.mem_cons_of_mem _ (List.mem_append_left _ (List.mem_append_left _ (List.mem_append_left _ (List.mem_append_left _ (List.mem_of_getElem? (i := 2) rfl))))))) (hts (.methodLink RX0 3 yX3_init) (List.mem_cons_of_mem _ (List.mem_append_left _ (List.mem_append_left _ (List.mem_append_left _ (List.mem_append_left _ (List.mem_of_getElem? (i := 0) rfl))))))) (hts (.instanceMethod yX3_init) (List.mem_cons_of_mem _ (List.mem_append_left _ (List.mem_append_left _ (List.mem_append_left _ (List.mem_append_left _ (List.mem_of_getElem? (i := 1) rfl))))))) rfl (by decide +kernel) ⟨by decide, by decide⟩) (g_preS hG hC hS) rfl rfl hl.1 rfl (lv_room (Nat.le_of_ble_eq_true rfl)) dX0_init_4 ⟨Nat.le_of_ble_eq_true rfl, Nat.le_of_ble_eq_true rfl⟩) hS (fun u1 H locs hu1 hG hS => ?_)
  have ha_o2 : a ∈ u1.2.2.2.1 := by rw [hu1]; exact ha
  have hE_o2 : u1.2.2.2.2 a = .inr (0, [.int (zI p1), .int (zI p2), .int (zI p3), .int (zI 0)]) := by rw [hu1]; exact up_s _ _ _
  exact W.vret hx hb hr (fun t9 ht9_ hW => ⟨⟨u1, rfl, (by subst hu1; first | rfl | simp only [up_up]), gB.mk' hG hC hS ht9_ hW⟩, hS.F ht9_⟩) hS.2.2 dX0_init_7
set_option maxHeartbeats 4000000 in
set_option maxRecDepth 100000 in
theorem kX0_init_X6 (l : Launch) (D : va_G) (cy : Nat → ClassId) (ad : Nat → Nat) (jf : Nat → Int64) (A : Nat → Prop) (u : gS) (a : Nat) (nm sp li fd : Int) (p1 p2 p3 : Int) (ha : a ∈ u.2.2.2.1) (hE : u.2.2.2.2 a = .inr (5, [.int (zI nm), .int (zI sp), .int (zI li), .int (zI fd)])) : Met l yX0_init wsX0_init ({ frames := 3, cells := 0, slots := 0, locals := 77 }) (va_Pc [.ref a, .int (zI p1), .int (zI p2), .int (zI p3)] (gB D cy ad jf A u)) (va_Qv (fun (v : gS) => v = sP u u.2.2.2.1 (va_up u.2.2.2.2 a (.inr (5, [.int (zI p1), .int (zI p2), .int (zI p3), .int (zI 0)])))) (gB D cy ad jf A) A) 0 0 A := by
  refine Met.ofW (cc := cX0_init) (maxL := 4) (ret := none) (by decide) rfl ?_
  intro p e s m args below meth c s₁ B hml hv
  obtain ⟨rfl, hG, hC⟩ := hv
  have hx := B.exec
  have hb := B.bytes
  have hr := B.returns
  have hts := atoms_spec (ws := wsX0_init) B.pre
  have hown : s.vm.findClass RX0 = some m.cls := findClass_of_methodNamed B.named
  have hlocks := B.notSynchronized
  have hS : va_S A s.heap s.heap [] := va_S.rf
  have hl := lv_entry ([.ref a, .int (zI p1), .int (zI p2), .int (zI p3)]) (n := 4) (Nat.le_of_ble_eq_true rfl)
  rw [lg_entry_eq]
  generalize (lg_sl ([.ref a, .int (zI p1), .int (zI p2), .int (zI p3)]) ++ List.replicate (4 - (lg_sl ([.ref a, .int (zI p1), .int (zI p2), .int (zI p3)])).length) Slot.unset).toArray = ls at hl ⊢
  have hl : lv_has ls 4 [(0, .ref a), (1, .int (zI p1)), (2, .int (zI p2)), (3, .int (zI p3))] := hl
  have hin2 : meth.name = "<init>" := (name_of_methodNamed B.named B.method).1
  refine lv_aload_n hx hb dX0_init_0 rfl (lv_at hl 0 rfl) ?_
  refine lv_iload_n hx hb dX0_init_1 rfl (lv_at hl 1 rfl) ?_
  refine lv_iload_n hx hb dX0_init_2 rfl (lv_at hl 2 rfl) ?_
  refine lv_iload_n hx hb dX0_init_3 rfl (lv_at hl 3 rfl) ?_
  refine g_callv (va_runI (As := [.int (zI p1), .int (zI p2), .int (zI p3)]) (rest := []) ⟨hx, hb, hml, hown, hts⟩ (kX3_init_X6 l D cy ad jf A u a nm sp li fd p1 p2 p3 ha hE) (cwI 3 hts gX0_init_X3_init rfl rfl rfl (hts (.initialized RX3) (List.mem_cons_of_mem _ (List.mem_append_left _ (List.mem_append_left _ (List.mem_append_left _ (List.mem_append_left _ (List.mem_of_getElem? (i := 2) rfl))))))) (hts (.methodLink RX0 3 yX3_init) (List.mem_cons_of_mem _ (List.mem_append_left _ (List.mem_append_left _ (List.mem_append_left _ (List.mem_append_left _ (List.mem_of_getElem? (i := 0) rfl))))))) (hts (.instanceMethod yX3_init) (List.mem_cons_of_mem _ (List.mem_append_left _ (List.mem_append_left _ (List.mem_append_left _ (List.mem_append_left _ (List.mem_of_getElem? (i := 1) rfl))))))) rfl (by decide +kernel) ⟨by decide, by decide⟩) (g_preS hG hC hS) rfl rfl hl.1 rfl (lv_room (Nat.le_of_ble_eq_true rfl)) dX0_init_4 ⟨Nat.le_of_ble_eq_true rfl, Nat.le_of_ble_eq_true rfl⟩) hS (fun u1 H locs hu1 hG hS => ?_)
  have ha_o2 : a ∈ u1.2.2.2.1 := by rw [hu1]; exact ha
  have hE_o2 : u1.2.2.2.2 a = .inr (5, [.int (zI p1), .int (zI p2), .int (zI p3), .int (zI 0)]) := by rw [hu1]; exact up_s _ _ _
  exact W.vret hx hb hr (fun t9 ht9_ hW => ⟨⟨u1, rfl, (by subst hu1; first | rfl | simp only [up_up]), gB.mk' hG hC hS ht9_ hW⟩, hS.F ht9_⟩) hS.2.2 dX0_init_7
set_option maxHeartbeats 4000000 in
set_option maxRecDepth 100000 in
theorem kX4_init_X4 (l : Launch) (D : va_G) (cy : Nat → ClassId) (ad : Nat → Nat) (jf : Nat → Int64) (A : Nat → Prop) (u : gS) (a : Nat) (nm sp li fd : Int) (p1 p2 p3 : Int) (ha : a ∈ u.2.2.2.1) (hE : u.2.2.2.2 a = .inr (3, [.int (zI nm), .int (zI sp), .int (zI li), .int (zI fd)])) : Met l yX4_init wsX4_init ({ frames := 4, cells := 0, slots := 0, locals := 100 }) (va_Pc [.ref a, .int (zI p1), .int (zI p2), .int (zI p3)] (gB D cy ad jf A u)) (va_Qv (fun (v : gS) => v = sP u u.2.2.2.1 (va_up u.2.2.2.2 a (.inr (3, [.int (zI p1), .int (zI p2), .int (zI p3), .int (zI 0)])))) (gB D cy ad jf A) A) 0 0 A := by
  refine Met.ofW (cc := cX4_init) (maxL := 4) (ret := none) (by decide) rfl ?_
  intro p e s m args below meth c s₁ B hml hv
  obtain ⟨rfl, hG, hC⟩ := hv
  have hx := B.exec
  have hb := B.bytes
  have hr := B.returns
  have hts := atoms_spec (ws := wsX4_init) B.pre
  have hown : s.vm.findClass RX4 = some m.cls := findClass_of_methodNamed B.named
  have hlocks := B.notSynchronized
  have hS : va_S A s.heap s.heap [] := va_S.rf
  have hl := lv_entry ([.ref a, .int (zI p1), .int (zI p2), .int (zI p3)]) (n := 4) (Nat.le_of_ble_eq_true rfl)
  rw [lg_entry_eq]
  generalize (lg_sl ([.ref a, .int (zI p1), .int (zI p2), .int (zI p3)]) ++ List.replicate (4 - (lg_sl ([.ref a, .int (zI p1), .int (zI p2), .int (zI p3)])).length) Slot.unset).toArray = ls at hl ⊢
  have hl : lv_has ls 4 [(0, .ref a), (1, .int (zI p1)), (2, .int (zI p2)), (3, .int (zI p3))] := hl
  have hin2 : meth.name = "<init>" := (name_of_methodNamed B.named B.method).1
  refine lv_aload_n hx hb dX4_init_0 rfl (lv_at hl 0 rfl) ?_
  refine lv_iload_n hx hb dX4_init_1 rfl (lv_at hl 1 rfl) ?_
  refine lv_iload_n hx hb dX4_init_2 rfl (lv_at hl 2 rfl) ?_
  refine lv_iload_n hx hb dX4_init_3 rfl (lv_at hl 3 rfl) ?_
  refine g_callv (va_runI (As := [.int (zI p1), .int (zI p2), .int (zI p3)]) (rest := []) ⟨hx, hb, hml, hown, hts⟩ (kX3_init_X4 l D cy ad jf A u a nm sp li fd p1 p2 p3 ha hE) (cwI 3 hts gX4_init_X3_init rfl rfl rfl (hts (.initialized RX3) (List.mem_cons_of_mem _ (List.mem_append_left _ (List.mem_append_left _ (List.mem_append_left _ (List.mem_append_left _ (List.mem_of_getElem? (i := 2) rfl))))))) (hts (.methodLink RX4 3 yX3_init) (List.mem_cons_of_mem _ (List.mem_append_left _ (List.mem_append_left _ (List.mem_append_left _ (List.mem_append_left _ (List.mem_of_getElem? (i := 0) rfl))))))) (hts (.instanceMethod yX3_init) (List.mem_cons_of_mem _ (List.mem_append_left _ (List.mem_append_left _ (List.mem_append_left _ (List.mem_append_left _ (List.mem_of_getElem? (i := 1) rfl))))))) rfl (by decide +kernel) ⟨by decide, by decide⟩) (g_preS hG hC hS) rfl rfl hl.1 rfl (lv_room (Nat.le_of_ble_eq_true rfl)) dX4_init_4 ⟨Nat.le_of_ble_eq_true rfl, Nat.le_of_ble_eq_true rfl⟩) hS (fun u1 H locs hu1 hG hS => ?_)
  have ha_o2 : a ∈ u1.2.2.2.1 := by rw [hu1]; exact ha
  have hE_o2 : u1.2.2.2.2 a = .inr (3, [.int (zI p1), .int (zI p2), .int (zI p3), .int (zI 0)]) := by rw [hu1]; exact up_s _ _ _
  exact W.vret hx hb hr (fun t9 ht9_ hW => ⟨⟨u1, rfl, (by subst hu1; first | rfl | simp only [up_up]), gB.mk' hG hC hS ht9_ hW⟩, hS.F ht9_⟩) hS.2.2 dX4_init_7
set_option maxHeartbeats 4000000 in
set_option maxRecDepth 100000 in
theorem kX6_init_X6 (l : Launch) (D : va_G) (cy : Nat → ClassId) (ad : Nat → Nat) (jf : Nat → Int64) (A : Nat → Prop) (u : gS) (a : Nat) (nm sp li fd : Int) (p1 p2 p3 : Int) (ha : a ∈ u.2.2.2.1) (hE : u.2.2.2.2 a = .inr (5, [.int (zI nm), .int (zI sp), .int (zI li), .int (zI fd)])) : Met l yX6_init wsX6_init ({ frames := 5, cells := 0, slots := 0, locals := 123 }) (va_Pc [.ref a, .int (zI p1), .int (zI p2), .int (zI p3)] (gB D cy ad jf A u)) (va_Qv (fun (v : gS) => v = sP u u.2.2.2.1 (va_up u.2.2.2.2 a (.inr (5, [.int (zI p1), .int (zI p2), .int (zI p3), .int (zI 0)])))) (gB D cy ad jf A) A) 0 0 A := by
  refine Met.ofW (cc := cX6_init) (maxL := 4) (ret := none) (by decide) rfl ?_
  intro p e s m args below meth c s₁ B hml hv
  obtain ⟨rfl, hG, hC⟩ := hv
  have hx := B.exec
  have hb := B.bytes
  have hr := B.returns
  have hts := atoms_spec (ws := wsX6_init) B.pre
  have hown : s.vm.findClass RX6 = some m.cls := findClass_of_methodNamed B.named
  have hlocks := B.notSynchronized
  have hS : va_S A s.heap s.heap [] := va_S.rf
  have hl := lv_entry ([.ref a, .int (zI p1), .int (zI p2), .int (zI p3)]) (n := 4) (Nat.le_of_ble_eq_true rfl)
  rw [lg_entry_eq]
  generalize (lg_sl ([.ref a, .int (zI p1), .int (zI p2), .int (zI p3)]) ++ List.replicate (4 - (lg_sl ([.ref a, .int (zI p1), .int (zI p2), .int (zI p3)])).length) Slot.unset).toArray = ls at hl ⊢
  have hl : lv_has ls 4 [(0, .ref a), (1, .int (zI p1)), (2, .int (zI p2)), (3, .int (zI p3))] := hl
  have hin2 : meth.name = "<init>" := (name_of_methodNamed B.named B.method).1
  refine lv_aload_n hx hb dX6_init_0 rfl (lv_at hl 0 rfl) ?_
  refine lv_iload_n hx hb dX6_init_1 rfl (lv_at hl 1 rfl) ?_
  refine lv_iload_n hx hb dX6_init_2 rfl (lv_at hl 2 rfl) ?_
  refine lv_iload_n hx hb dX6_init_3 rfl (lv_at hl 3 rfl) ?_
  refine g_callv (va_runI (As := [.int (zI p1), .int (zI p2), .int (zI p3)]) (rest := []) ⟨hx, hb, hml, hown, hts⟩ (kX0_init_X6 l D cy ad jf A u a nm sp li fd p1 p2 p3 ha hE) (cwI 3 hts gX6_init_X0_init rfl rfl rfl (hts (.initialized RX0) (List.mem_cons_of_mem _ (List.mem_append_left _ (List.mem_append_left _ (List.mem_append_left _ (List.mem_append_left _ (List.mem_of_getElem? (i := 2) rfl))))))) (hts (.methodLink RX6 3 yX0_init) (List.mem_cons_of_mem _ (List.mem_append_left _ (List.mem_append_left _ (List.mem_append_left _ (List.mem_append_left _ (List.mem_of_getElem? (i := 0) rfl))))))) (hts (.instanceMethod yX0_init) (List.mem_cons_of_mem _ (List.mem_append_left _ (List.mem_append_left _ (List.mem_append_left _ (List.mem_append_left _ (List.mem_of_getElem? (i := 1) rfl))))))) rfl (by decide +kernel) ⟨by decide, by decide⟩) (g_preS hG hC hS) rfl rfl hl.1 rfl (lv_room (Nat.le_of_ble_eq_true rfl)) dX6_init_4 ⟨Nat.le_of_ble_eq_true rfl, Nat.le_of_ble_eq_true rfl⟩) hS (fun u1 H locs hu1 hG hS => ?_)
  have ha_o2 : a ∈ u1.2.2.2.1 := by rw [hu1]; exact ha
  have hE_o2 : u1.2.2.2.2 a = .inr (5, [.int (zI p1), .int (zI p2), .int (zI p3), .int (zI 0)]) := by rw [hu1]; exact up_s _ _ _
  exact W.vret hx hb hr (fun t9 ht9_ hW => ⟨⟨u1, rfl, (by subst hu1; first | rfl | simp only [up_up]), gB.mk' hG hC hS ht9_ hW⟩, hS.F ht9_⟩) hS.2.2 dX6_init_7
set_option maxHeartbeats 4000000 in
set_option maxRecDepth 100000 in
theorem kX11_ofKind (l : Launch) (D : va_G) (cy : Nat → ClassId) (ad : Nat → Nat) (jf : Nat → Int64) (A : Nat → Prop) (u : gS) (p1 p2 p3 p4 : Int) (j_1 : 0 ≤ p1 ∧ p1 ≤ 3) : Met l yX11_ofKind wsX11_ofKind ({ frames := 6, cells := 1, slots := 4, locals := 146 }) (va_Pc [.int (zI p1), .int (zI p2), .int (zI p3), .int (zI p4)] (gB D cy ad jf A u)) (va_Qq (fun (r : Option Nat) (v : gS) => ∃ q, r = some q ∧ q ∉ u.2.2.2.1 ∧ v = cNewS u q p1 p2 p3 p4) (gB D cy ad jf A) A) 1 4 A := by
  refine Met.ofW (cc := cX11_ofKind) (maxL := 4) (ret := (some (.object "StraitSwim$Plain"))) (by decide) rfl ?_
  intro p e s m args below meth c s₁ B hml hv
  obtain ⟨rfl, hG, hC⟩ := hv
  have hx := B.exec
  have hb := B.bytes
  have hr := B.returns
  have hts := atoms_spec (ws := wsX11_ofKind) B.pre
  have hown : s.vm.findClass RX11 = some m.cls := findClass_of_methodNamed B.named
  have hlocks := B.notSynchronized
  have hS : va_S A s.heap s.heap [] := va_S.rf
  have hl := lv_entry ([.int (zI p1), .int (zI p2), .int (zI p3), .int (zI p4)]) (n := 4) (Nat.le_of_ble_eq_true rfl)
  rw [lg_entry_eq]
  generalize (lg_sl ([.int (zI p1), .int (zI p2), .int (zI p3), .int (zI p4)]) ++ List.replicate (4 - (lg_sl ([.int (zI p1), .int (zI p2), .int (zI p3), .int (zI p4)])).length) Slot.unset).toArray = ls at hl ⊢
  have hl : lv_has ls 4 [(0, .int (zI p1)), (1, .int (zI p2)), (2, .int (zI p3)), (3, .int (zI p4))] := hl
  refine lv_iload_n hx hb dX11_ofKind_0 rfl (lv_at hl 0 rfl) ?_
  rcases (show (p1 < 1 ∨ 3 < p1) ∨ p1 = 1 ∨ p1 = 2 ∨ p1 = 3 by omega) with c_1 | c_1 | c_1 | c_1
  · refine lv_tableOut (tgt := 61) hx hb dX11_ofKind_1 (by rw [zI_toInt (by omega) (by omega)]; omega) (by decide) ?_
    refine va_new (ci := 2) (fs := [.int (zI 0), .int (zI 0), .int (zI 0), .int (zI 0)]) (C := RX3) (T := TX3) (N := 4) hx hb hts (fun _ h => (List.mem_cons_of_mem _ (List.mem_append_right _ h))) tyX3 tyX3_ok hown (hts (.classLink RX11 16 RX3) (List.mem_cons_of_mem _ (List.mem_append_left _ (List.mem_append_left _ (List.mem_append_left _ (List.mem_append_left _ (List.mem_append_left _ (List.mem_of_getElem? (i := 9) rfl)))))))) (hts (.instantiable RX3 4) (List.mem_cons_of_mem _ (List.mem_append_left _ (List.mem_append_left _ (List.mem_append_left _ (List.mem_append_left _ (List.mem_append_left _ (List.mem_of_getElem? (i := 10) rfl)))))))) (hts (.initialized RX3) (List.mem_cons_of_mem _ (List.mem_append_left _ (List.mem_append_left _ (List.mem_append_left _ (List.mem_append_left _ (List.mem_append_left _ (List.mem_of_getElem? (i := 11) rfl)))))))) hC.1 hG.1 hG.2 hS hC.2.1 rfl (fun j hj => by rcases (show j = 0 ∨ j = 1 ∨ j = 2 ∨ j = 3 by omega) with rfl | rfl | rfl | rfl <;> rfl) (Nat.le_of_ble_eq_true rfl) (Nat.le_of_ble_eq_true rfl) dX11_ofKind_61 (fun n2 H hP hD hS => ?_)
    have hq_ := va_pl_fresh2 hD
    obtain ⟨u3, hu3⟩ : ∃ v : gS, v = sP u (u.2.2.2.1 ++ [n2]) (va_up u.2.2.2.2 n2 (.inr (2, [.int (zI 0), .int (zI 0), .int (zI 0), .int (zI 0)]))) := ⟨_, rfl⟩
    have hG : gH D cy ad jf A u3 H := by rw [hu3, gH, ← gW_push hq_]; exact ⟨hP, hD⟩
    have ha_n2 : n2 ∈ u3.2.2.2.1 := by rw [hu3]; exact List.mem_append_right _ List.mem_cons_self
    have hE_n2 : u3.2.2.2.2 n2 = .inr (2, [.int (zI 0), .int (zI 0), .int (zI 0), .int (zI 0)]) := by rw [hu3]; exact up_s _ _ _
    refine lv_dup hx hb dX11_ofKind_64 rfl ?_
    refine lv_iload_n hx hb dX11_ofKind_65 rfl (lv_at hl 1 rfl) ?_
    refine lv_iload_n hx hb dX11_ofKind_66 rfl (lv_at hl 2 rfl) ?_
    refine lv_iload_n hx hb dX11_ofKind_67 rfl (lv_at hl 3 rfl) ?_
    refine g_callv (va_runI (As := [.int (zI p2), .int (zI p3), .int (zI p4)]) (rest := [.ref n2]) ⟨hx, hb, hml, hown, hts⟩ (kX3_init_X3 l D cy ad jf A u3 n2 0 0 0 0 p2 p3 p4 ha_n2 hE_n2) (cwI 3 hts gX11_ofKind_X3_init rfl rfl rfl (hts (.initialized RX3) (List.mem_cons_of_mem _ (List.mem_append_left _ (List.mem_append_left _ (List.mem_append_left _ (List.mem_append_left _ (List.mem_append_left _ (List.mem_of_getElem? (i := 11) rfl)))))))) (hts (.methodLink RX11 272 yX3_init) (List.mem_cons_of_mem _ (List.mem_append_left _ (List.mem_append_left _ (List.mem_append_left _ (List.mem_append_left _ (List.mem_append_right _ (List.mem_of_getElem? (i := 9) rfl)))))))) (hts (.instanceMethod yX3_init) (List.mem_cons_of_mem _ (List.mem_append_left _ (List.mem_append_left _ (List.mem_append_left _ (List.mem_append_left _ (List.mem_append_left _ (List.mem_of_getElem? (i := 16) rfl)))))))) rfl (by decide +kernel) ⟨by decide, by decide⟩) (g_preS hG hC hS) rfl rfl hl.1 rfl (lv_room (Nat.le_of_ble_eq_true rfl)) dX11_ofKind_68 ⟨Nat.le_of_ble_eq_true rfl, Nat.le_of_ble_eq_true rfl⟩) hS (fun u4 H locs hu4 hG hS => ?_)
    have ha_o5 : n2 ∈ u4.2.2.2.1 := by rw [hu4]; exact ha_n2
    have hE_o5 : u4.2.2.2.2 n2 = .inr (2, [.int (zI p2), .int (zI p3), .int (zI p4), .int (zI 0)]) := by rw [hu4]; exact up_s _ _ _
    refine W.widen (k := 1) (n := 4) (Nat.le_of_ble_eq_true rfl) (Nat.le_of_ble_eq_true rfl) ?_
    exact W.aret (v := va_rf (some n2)) hx hb hr (Or.inl ⟨_, rfl⟩) (va_rf_or _) (fun t9 ht9_ hW => ⟨⟨some n2, u4, rfl, (by refine ⟨_, rfl, hq_, ?_⟩; unfold cNewS; rw [show p1 = 0 by omega]; subst hu4; subst hu3; simp only [up_up]; rfl), gB.mk' hG hC hS ht9_ hW⟩, hS.F ht9_⟩) hS.2.2 dX11_ofKind_71
  · refine lv_tableIn (off := 27) (tgt := 28) hx hb dX11_ofKind_1 (by rw [c_1]; decide) (by rw [c_1]; decide) (by rw [c_1]; decide) (by decide) ?_
    refine va_new (ci := 0) (fs := [.int (zI 0), .int (zI 0), .int (zI 0), .int (zI 0)]) (C := RX0) (T := TX0) (N := 4) hx hb hts (fun _ h => (List.mem_cons_of_mem _ (List.mem_append_left _ (List.mem_append_left _ (List.mem_append_left _ (List.mem_append_right _ h)))))) tyX0 tyX0_ok hown (hts (.classLink RX11 261 RX0) (List.mem_cons_of_mem _ (List.mem_append_left _ (List.mem_append_left _ (List.mem_append_left _ (List.mem_append_left _ (List.mem_append_left _ (List.mem_of_getElem? (i := 0) rfl)))))))) (hts (.instantiable RX0 4) (List.mem_cons_of_mem _ (List.mem_append_left _ (List.mem_append_left _ (List.mem_append_left _ (List.mem_append_left _ (List.mem_append_left _ (List.mem_of_getElem? (i := 1) rfl)))))))) (hts (.initialized RX0) (List.mem_cons_of_mem _ (List.mem_append_left _ (List.mem_append_left _ (List.mem_append_left _ (List.mem_append_left _ (List.mem_append_left _ (List.mem_of_getElem? (i := 2) rfl)))))))) hC.1 hG.1 hG.2 hS hC.2.1 rfl (fun j hj => by rcases (show j = 0 ∨ j = 1 ∨ j = 2 ∨ j = 3 by omega) with rfl | rfl | rfl | rfl <;> rfl) (Nat.le_of_ble_eq_true rfl) (Nat.le_of_ble_eq_true rfl) dX11_ofKind_28 (fun n6 H hP hD hS => ?_)
    have hq_ := va_pl_fresh2 hD
    obtain ⟨u7, hu7⟩ : ∃ v : gS, v = sP u (u.2.2.2.1 ++ [n6]) (va_up u.2.2.2.2 n6 (.inr (0, [.int (zI 0), .int (zI 0), .int (zI 0), .int (zI 0)]))) := ⟨_, rfl⟩
    have hG : gH D cy ad jf A u7 H := by rw [hu7, gH, ← gW_push hq_]; exact ⟨hP, hD⟩
    have ha_n6 : n6 ∈ u7.2.2.2.1 := by rw [hu7]; exact List.mem_append_right _ List.mem_cons_self
    have hE_n6 : u7.2.2.2.2 n6 = .inr (0, [.int (zI 0), .int (zI 0), .int (zI 0), .int (zI 0)]) := by rw [hu7]; exact up_s _ _ _
    refine lv_dup hx hb dX11_ofKind_31 rfl ?_
    refine lv_iload_n hx hb dX11_ofKind_32 rfl (lv_at hl 1 rfl) ?_
    refine lv_iload_n hx hb dX11_ofKind_33 rfl (lv_at hl 2 rfl) ?_
    refine lv_iload_n hx hb dX11_ofKind_34 rfl (lv_at hl 3 rfl) ?_
    refine g_callv (va_runI (As := [.int (zI p2), .int (zI p3), .int (zI p4)]) (rest := [.ref n6]) ⟨hx, hb, hml, hown, hts⟩ (kX0_init_X0 l D cy ad jf A u7 n6 0 0 0 0 p2 p3 p4 ha_n6 hE_n6) (cwI 3 hts gX11_ofKind_X0_init rfl rfl rfl (hts (.initialized RX0) (List.mem_cons_of_mem _ (List.mem_append_left _ (List.mem_append_left _ (List.mem_append_left _ (List.mem_append_left _ (List.mem_append_left _ (List.mem_of_getElem? (i := 2) rfl)))))))) (hts (.methodLink RX11 263 yX0_init) (List.mem_cons_of_mem _ (List.mem_append_left _ (List.mem_append_left _ (List.mem_append_left _ (List.mem_append_left _ (List.mem_append_left _ (List.mem_of_getElem? (i := 12) rfl)))))))) (hts (.instanceMethod yX0_init) (List.mem_cons_of_mem _ (List.mem_append_left _ (List.mem_append_left _ (List.mem_append_left _ (List.mem_append_left _ (List.mem_append_left _ (List.mem_of_getElem? (i := 13) rfl)))))))) rfl (by decide +kernel) ⟨by decide, by decide⟩) (g_preS hG hC hS) rfl rfl hl.1 rfl (lv_room (Nat.le_of_ble_eq_true rfl)) dX11_ofKind_35 ⟨Nat.le_of_ble_eq_true rfl, Nat.le_of_ble_eq_true rfl⟩) hS (fun u8 H locs hu8 hG hS => ?_)
    have ha_o9 : n6 ∈ u8.2.2.2.1 := by rw [hu8]; exact ha_n6
    have hE_o9 : u8.2.2.2.2 n6 = .inr (0, [.int (zI p2), .int (zI p3), .int (zI p4), .int (zI 0)]) := by rw [hu8]; exact up_s _ _ _
    refine W.widen (k := 1) (n := 4) (Nat.le_of_ble_eq_true rfl) (Nat.le_of_ble_eq_true rfl) ?_
    exact W.aret (v := va_rf (some n6)) hx hb hr (Or.inl ⟨_, rfl⟩) (va_rf_or _) (fun t9 ht9_ hW => ⟨⟨some n6, u8, rfl, (by refine ⟨_, rfl, hq_, ?_⟩; unfold cNewS; rw [show p1 = 1 by omega]; subst hu8; subst hu7; simp only [up_up]; rfl), gB.mk' hG hC hS ht9_ hW⟩, hS.F ht9_⟩) hS.2.2 dX11_ofKind_38
  · refine lv_tableIn (off := 38) (tgt := 39) hx hb dX11_ofKind_1 (by rw [c_1]; decide) (by rw [c_1]; decide) (by rw [c_1]; decide) (by decide) ?_
    refine va_new (ci := 3) (fs := [.int (zI 0), .int (zI 0), .int (zI 0), .int (zI 0)]) (C := RX4) (T := TX4) (N := 4) hx hb hts (fun _ h => (List.mem_cons_of_mem _ (List.mem_append_left _ (List.mem_append_left _ (List.mem_append_right _ h))))) tyX4 tyX4_ok hown (hts (.classLink RX11 266 RX4) (List.mem_cons_of_mem _ (List.mem_append_left _ (List.mem_append_left _ (List.mem_append_left _ (List.mem_append_left _ (List.mem_append_left _ (List.mem_of_getElem? (i := 3) rfl)))))))) (hts (.instantiable RX4 4) (List.mem_cons_of_mem _ (List.mem_append_left _ (List.mem_append_left _ (List.mem_append_left _ (List.mem_append_left _ (List.mem_append_left _ (List.mem_of_getElem? (i := 4) rfl)))))))) (hts (.initialized RX4) (List.mem_cons_of_mem _ (List.mem_append_left _ (List.mem_append_left _ (List.mem_append_left _ (List.mem_append_left _ (List.mem_append_left _ (List.mem_of_getElem? (i := 5) rfl)))))))) hC.1 hG.1 hG.2 hS hC.2.1 rfl (fun j hj => by rcases (show j = 0 ∨ j = 1 ∨ j = 2 ∨ j = 3 by omega) with rfl | rfl | rfl | rfl <;> rfl) (Nat.le_of_ble_eq_true rfl) (Nat.le_of_ble_eq_true rfl) dX11_ofKind_39 (fun n10 H hP hD hS => ?_)
    have hq_ := va_pl_fresh2 hD
    obtain ⟨u11, hu11⟩ : ∃ v : gS, v = sP u (u.2.2.2.1 ++ [n10]) (va_up u.2.2.2.2 n10 (.inr (3, [.int (zI 0), .int (zI 0), .int (zI 0), .int (zI 0)]))) := ⟨_, rfl⟩
    have hG : gH D cy ad jf A u11 H := by rw [hu11, gH, ← gW_push hq_]; exact ⟨hP, hD⟩
    have ha_n10 : n10 ∈ u11.2.2.2.1 := by rw [hu11]; exact List.mem_append_right _ List.mem_cons_self
    have hE_n10 : u11.2.2.2.2 n10 = .inr (3, [.int (zI 0), .int (zI 0), .int (zI 0), .int (zI 0)]) := by rw [hu11]; exact up_s _ _ _
    refine lv_dup hx hb dX11_ofKind_42 rfl ?_
    refine lv_iload_n hx hb dX11_ofKind_43 rfl (lv_at hl 1 rfl) ?_
    refine lv_iload_n hx hb dX11_ofKind_44 rfl (lv_at hl 2 rfl) ?_
    refine lv_iload_n hx hb dX11_ofKind_45 rfl (lv_at hl 3 rfl) ?_
    refine g_callv (va_runI (As := [.int (zI p2), .int (zI p3), .int (zI p4)]) (rest := [.ref n10]) ⟨hx, hb, hml, hown, hts⟩ (kX4_init_X4 l D cy ad jf A u11 n10 0 0 0 0 p2 p3 p4 ha_n10 hE_n10) (cwI 3 hts gX11_ofKind_X4_init rfl rfl rfl (hts (.initialized RX4) (List.mem_cons_of_mem _ (List.mem_append_left _ (List.mem_append_left _ (List.mem_append_left _ (List.mem_append_left _ (List.mem_append_left _ (List.mem_of_getElem? (i := 5) rfl)))))))) (hts (.methodLink RX11 268 yX4_init) (List.mem_cons_of_mem _ (List.mem_append_left _ (List.mem_append_left _ (List.mem_append_left _ (List.mem_append_left _ (List.mem_append_right _ (List.mem_of_getElem? (i := 1) rfl)))))))) (hts (.instanceMethod yX4_init) (List.mem_cons_of_mem _ (List.mem_append_left _ (List.mem_append_left _ (List.mem_append_left _ (List.mem_append_left _ (List.mem_append_right _ (List.mem_of_getElem? (i := 2) rfl)))))))) rfl (by decide +kernel) ⟨by decide, by decide⟩) (g_preS hG hC hS) rfl rfl hl.1 rfl (lv_room (Nat.le_of_ble_eq_true rfl)) dX11_ofKind_46 ⟨Nat.le_of_ble_eq_true rfl, Nat.le_of_ble_eq_true rfl⟩) hS (fun u12 H locs hu12 hG hS => ?_)
    have ha_o13 : n10 ∈ u12.2.2.2.1 := by rw [hu12]; exact ha_n10
    have hE_o13 : u12.2.2.2.2 n10 = .inr (3, [.int (zI p2), .int (zI p3), .int (zI p4), .int (zI 0)]) := by rw [hu12]; exact up_s _ _ _
    refine W.widen (k := 1) (n := 4) (Nat.le_of_ble_eq_true rfl) (Nat.le_of_ble_eq_true rfl) ?_
    exact W.aret (v := va_rf (some n10)) hx hb hr (Or.inl ⟨_, rfl⟩) (va_rf_or _) (fun t9 ht9_ hW => ⟨⟨some n10, u12, rfl, (by refine ⟨_, rfl, hq_, ?_⟩; unfold cNewS; rw [show p1 = 2 by omega]; subst hu12; subst hu11; simp only [up_up]; rfl), gB.mk' hG hC hS ht9_ hW⟩, hS.F ht9_⟩) hS.2.2 dX11_ofKind_49
  · refine lv_tableIn (off := 49) (tgt := 50) hx hb dX11_ofKind_1 (by rw [c_1]; decide) (by rw [c_1]; decide) (by rw [c_1]; decide) (by decide) ?_
    refine va_new (ci := 5) (fs := [.int (zI 0), .int (zI 0), .int (zI 0), .int (zI 0)]) (C := RX6) (T := TX6) (N := 4) hx hb hts (fun _ h => (List.mem_cons_of_mem _ (List.mem_append_left _ (List.mem_append_right _ h)))) tyX6 tyX6_ok hown (hts (.classLink RX11 269 RX6) (List.mem_cons_of_mem _ (List.mem_append_left _ (List.mem_append_left _ (List.mem_append_left _ (List.mem_append_left _ (List.mem_append_left _ (List.mem_of_getElem? (i := 6) rfl)))))))) (hts (.instantiable RX6 4) (List.mem_cons_of_mem _ (List.mem_append_left _ (List.mem_append_left _ (List.mem_append_left _ (List.mem_append_left _ (List.mem_append_left _ (List.mem_of_getElem? (i := 7) rfl)))))))) (hts (.initialized RX6) (List.mem_cons_of_mem _ (List.mem_append_left _ (List.mem_append_left _ (List.mem_append_left _ (List.mem_append_left _ (List.mem_append_left _ (List.mem_of_getElem? (i := 8) rfl)))))))) hC.1 hG.1 hG.2 hS hC.2.1 rfl (fun j hj => by rcases (show j = 0 ∨ j = 1 ∨ j = 2 ∨ j = 3 by omega) with rfl | rfl | rfl | rfl <;> rfl) (Nat.le_of_ble_eq_true rfl) (Nat.le_of_ble_eq_true rfl) dX11_ofKind_50 (fun n14 H hP hD hS => ?_)
    have hq_ := va_pl_fresh2 hD
    obtain ⟨u15, hu15⟩ : ∃ v : gS, v = sP u (u.2.2.2.1 ++ [n14]) (va_up u.2.2.2.2 n14 (.inr (5, [.int (zI 0), .int (zI 0), .int (zI 0), .int (zI 0)]))) := ⟨_, rfl⟩
    have hG : gH D cy ad jf A u15 H := by rw [hu15, gH, ← gW_push hq_]; exact ⟨hP, hD⟩
    have ha_n14 : n14 ∈ u15.2.2.2.1 := by rw [hu15]; exact List.mem_append_right _ List.mem_cons_self
    have hE_n14 : u15.2.2.2.2 n14 = .inr (5, [.int (zI 0), .int (zI 0), .int (zI 0), .int (zI 0)]) := by rw [hu15]; exact up_s _ _ _
    refine lv_dup hx hb dX11_ofKind_53 rfl ?_
    refine lv_iload_n hx hb dX11_ofKind_54 rfl (lv_at hl 1 rfl) ?_
    refine lv_iload_n hx hb dX11_ofKind_55 rfl (lv_at hl 2 rfl) ?_
    refine lv_iload_n hx hb dX11_ofKind_56 rfl (lv_at hl 3 rfl) ?_
    refine g_callv (va_runI (As := [.int (zI p2), .int (zI p3), .int (zI p4)]) (rest := [.ref n14]) ⟨hx, hb, hml, hown, hts⟩ (kX6_init_X6 l D cy ad jf A u15 n14 0 0 0 0 p2 p3 p4 ha_n14 hE_n14) (cwI 3 hts gX11_ofKind_X6_init rfl rfl rfl (hts (.initialized RX6) (List.mem_cons_of_mem _ (List.mem_append_left _ (List.mem_append_left _ (List.mem_append_left _ (List.mem_append_left _ (List.mem_append_left _ (List.mem_of_getElem? (i := 8) rfl)))))))) (hts (.methodLink RX11 271 yX6_init) (List.mem_cons_of_mem _ (List.mem_append_left _ (List.mem_append_left _ (List.mem_append_left _ (List.mem_append_left _ (List.mem_append_right _ (List.mem_of_getElem? (i := 5) rfl)))))))) (hts (.instanceMethod yX6_init) (List.mem_cons_of_mem _ (List.mem_append_left _ (List.mem_append_left _ (List.mem_append_left _ (List.mem_append_left _ (List.mem_append_right _ (List.mem_of_getElem? (i := 6) rfl)))))))) rfl (by decide +kernel) ⟨by decide, by decide⟩) (g_preS hG hC hS) rfl rfl hl.1 rfl (lv_room (Nat.le_of_ble_eq_true rfl)) dX11_ofKind_57 ⟨Nat.le_of_ble_eq_true rfl, Nat.le_of_ble_eq_true rfl⟩) hS (fun u16 H locs hu16 hG hS => ?_)
    have ha_o17 : n14 ∈ u16.2.2.2.1 := by rw [hu16]; exact ha_n14
    have hE_o17 : u16.2.2.2.2 n14 = .inr (5, [.int (zI p2), .int (zI p3), .int (zI p4), .int (zI 0)]) := by rw [hu16]; exact up_s _ _ _
    refine W.widen (k := 1) (n := 4) (Nat.le_of_ble_eq_true rfl) (Nat.le_of_ble_eq_true rfl) ?_
    exact W.aret (v := va_rf (some n14)) hx hb hr (Or.inl ⟨_, rfl⟩) (va_rf_or _) (fun t9 ht9_ hW => ⟨⟨some n14, u16, rfl, (by refine ⟨_, rfl, hq_, ?_⟩; unfold cNewS; rw [show p1 = 3 by omega]; subst hu16; subst hu15; simp only [up_up]; rfl), gB.mk' hG hC hS ht9_ hW⟩, hS.F ht9_⟩) hS.2.2 dX11_ofKind_60
set_option maxHeartbeats 4000000 in
set_option maxRecDepth 100000 in
theorem kX11_swimmer (l : Launch) (D : va_G) (cy : Nat → ClassId) (ad : Nat → Nat) (jf : Nat → Int64) (A : Nat → Prop) (u : gS) (p1 p2 p3 : Int) (j_p1 : -2147483648 ≤ p1 ∧ p1 < 2147483648) (j_p2 : -2147483648 ≤ p2 ∧ p2 < 2147483648) (j_p3 : -2147483648 ≤ p3 ∧ p3 < 2147483648) (i0 : 0 ≤ u.1 0 ∧ u.1 0 ≤ 10) : Met l yX11_swimmer wsX11_swimmer ({ frames := 7, cells := 1, slots := 4, locals := 169 }) (va_Pc [.ref (ad 0), .int (zI p1), .int (zI p2), .int (zI p3)] (gB D cy ad jf A u)) (va_Qi (fun (r : Int32) (v : gS) => (if (0 ≤ p1 ∧ p1 ≤ 3) ∧ (1 ≤ p2 ∧ p2 ≤ 20) ∧ (1 ≤ p3 ∧ p3 ≤ 400) then (if u.1 0 = 10 then r = zI (-2) ∧ v = u else r = zI (u.1 0) ∧ ∃ q, q ∉ u.2.2.2.1 ∧ v = cSwN u q p1 p2 p3) else r = zI (-1) ∧ v = u)) (gB D cy ad jf A) A) 1 4 A := by
  refine Met.ofW (cc := cX11_swimmer) (maxL := 4) (ret := (some .int)) (by decide) rfl ?_
  intro p e s m args below meth c s₁ B hml hv
  obtain ⟨rfl, hG, hC⟩ := hv
  have hx := B.exec
  have hb := B.bytes
  have hr := B.returns
  have hts := atoms_spec (ws := wsX11_swimmer) B.pre
  have hown : s.vm.findClass RX11 = some m.cls := findClass_of_methodNamed B.named
  have hlocks := B.notSynchronized
  have hS : va_S A s.heap s.heap [] := va_S.rf
  have hl := lv_entry ([.ref (ad 0), .int (zI p1), .int (zI p2), .int (zI p3)]) (n := 4) (Nat.le_of_ble_eq_true rfl)
  rw [lg_entry_eq]
  generalize (lg_sl ([.ref (ad 0), .int (zI p1), .int (zI p2), .int (zI p3)]) ++ List.replicate (4 - (lg_sl ([.ref (ad 0), .int (zI p1), .int (zI p2), .int (zI p3)])).length) Slot.unset).toArray = ls at hl ⊢
  have hl : lv_has ls 4 [(0, .ref (ad 0)), (1, .int (zI p1)), (2, .int (zI p2)), (3, .int (zI p3))] := hl
  refine lv_iload_n hx hb dX11_swimmer_0 rfl (lv_at hl 1 rfl) ?_
  refine z_iconst hx hb dX11_swimmer_1 ?_
  refine z_iconst hx hb dX11_swimmer_2 ?_
  refine g_calli (va_runS (As := [.int (zI p1), .int (zI 0), .int (zI 3)]) (rest := []) ⟨hx, hb, hml, hown, hts⟩ (kX11_isWithin l D cy ad jf A u p1 0 3 (by omega) (by omega) (by omega)) (va_cwS 3 hts gX11_swimmer_X11_isWithin rfl rfl rfl (by decide +kernel) ⟨by decide, by decide⟩) (g_preS hG hC hS) rfl rfl hl.1 rfl (lv_room (Nat.le_of_ble_eq_true rfl)) dX11_swimmer_3 ⟨Nat.le_of_ble_eq_true rfl, Nat.le_of_ble_eq_true rfl⟩) hS (fun r1 u2 H locs p_3 hG hS => ?_)
  obtain ⟨⟨b4, rfl, q_5⟩, he_⟩ := p_3
  rw [he_] at hG; clear he_
  have hbb4 : 0 ≤ b4 ∧ b4 ≤ 1 := by rcases q_5 with ⟨h, _⟩ | ⟨h, _⟩ <;> omega
  refine z_if_eq (tgt := 30) hx hb dX11_swimmer_6 (by decide) (by omega) (by omega) (fun c_6 => ?_) (fun c_6 => ?_)
  · refine z_iconst hx hb dX11_swimmer_30 ?_
    refine W.widen (k := 1) (n := 4) (Nat.le_of_ble_eq_true rfl) (Nat.le_of_ble_eq_true rfl) ?_
    exact W.iret (v := zI ((-1))) hx hb hr (fun t9 ht9_ hW => ⟨⟨zI ((-1)), u, rfl, (by dsimp only; (first | (rw [if_neg (by omega)]; exact ⟨rfl, rfl⟩) | (rw [if_pos (by omega), if_pos (by omega)]; exact ⟨rfl, rfl⟩))), gB.mk' hG hC hS ht9_ hW⟩, hS.F ht9_⟩) hS.2.2 dX11_swimmer_31
  · refine lv_iload_n hx hb dX11_swimmer_9 rfl (lv_at hl 2 rfl) ?_
    refine z_iconst hx hb dX11_swimmer_10 ?_
    refine z_bipush hx hb dX11_swimmer_11 (by decide) ?_
    refine g_calli (va_runS (As := [.int (zI p2), .int (zI 1), .int (zI 20)]) (rest := []) ⟨hx, hb, hml, hown, hts⟩ (kX11_isWithin l D cy ad jf A u p2 1 20 (by omega) (by omega) (by omega)) (va_cwS 3 hts gX11_swimmer_X11_isWithin rfl rfl rfl (by decide +kernel) ⟨by decide, by decide⟩) (g_preS hG hC hS) rfl rfl hl.1 rfl (lv_room (Nat.le_of_ble_eq_true rfl)) dX11_swimmer_13 ⟨Nat.le_of_ble_eq_true rfl, Nat.le_of_ble_eq_true rfl⟩) hS (fun r7 u8 H locs p_9 hG hS => ?_)
    obtain ⟨⟨b10, rfl, q_11⟩, he_⟩ := p_9
    rw [he_] at hG; clear he_
    have hbb10 : 0 ≤ b10 ∧ b10 ≤ 1 := by rcases q_11 with ⟨h, _⟩ | ⟨h, _⟩ <;> omega
    refine z_if_eq (tgt := 30) hx hb dX11_swimmer_16 (by decide) (by omega) (by omega) (fun c_12 => ?_) (fun c_12 => ?_)
    · refine z_iconst hx hb dX11_swimmer_30 ?_
      refine W.widen (k := 1) (n := 4) (Nat.le_of_ble_eq_true rfl) (Nat.le_of_ble_eq_true rfl) ?_
      exact W.iret (v := zI ((-1))) hx hb hr (fun t9 ht9_ hW => ⟨⟨zI ((-1)), u, rfl, (by dsimp only; (first | (rw [if_neg (by omega)]; exact ⟨rfl, rfl⟩) | (rw [if_pos (by omega), if_pos (by omega)]; exact ⟨rfl, rfl⟩))), gB.mk' hG hC hS ht9_ hW⟩, hS.F ht9_⟩) hS.2.2 dX11_swimmer_31
    · refine lv_iload_n hx hb dX11_swimmer_19 rfl (lv_at hl 3 rfl) ?_
      refine z_iconst hx hb dX11_swimmer_20 ?_
      refine z_sipush hx hb dX11_swimmer_21 (by decide) ?_
      refine g_calli (va_runS (As := [.int (zI p3), .int (zI 1), .int (zI 400)]) (rest := []) ⟨hx, hb, hml, hown, hts⟩ (kX11_isWithin l D cy ad jf A u p3 1 400 (by omega) (by omega) (by omega)) (va_cwS 3 hts gX11_swimmer_X11_isWithin rfl rfl rfl (by decide +kernel) ⟨by decide, by decide⟩) (g_preS hG hC hS) rfl rfl hl.1 rfl (lv_room (Nat.le_of_ble_eq_true rfl)) dX11_swimmer_24 ⟨Nat.le_of_ble_eq_true rfl, Nat.le_of_ble_eq_true rfl⟩) hS (fun r13 u14 H locs p_15 hG hS => ?_)
      obtain ⟨⟨b16, rfl, q_17⟩, he_⟩ := p_15
      rw [he_] at hG; clear he_
      have hbb16 : 0 ≤ b16 ∧ b16 ≤ 1 := by rcases q_17 with ⟨h, _⟩ | ⟨h, _⟩ <;> omega
      refine z_if_ne (tgt := 32) hx hb dX11_swimmer_27 (by decide) (by omega) (by omega) (fun c_18 => ?_) (fun c_18 => ?_)
      · refine lv_aload_n hx hb dX11_swimmer_32 rfl (lv_at hl 0 rfl) ?_
        refine g_get (C := RX11) (T := TX11) (N := 14) (ci := 10) hx hb hts (fun _ h => (List.mem_cons_of_mem _ (List.mem_append_left _ (List.mem_append_left _ (List.mem_append_left _ (List.mem_append_left _ (List.mem_append_right _ h))))))) hown hC.1 hG 0 (by decide) rfl rfl 2 (by decide) (hts (.fieldLink RX11 22 "StraitSwim" "swimmerCount" "I") (List.mem_cons_of_mem _ (List.mem_append_left _ (List.mem_append_left _ (List.mem_append_left _ (List.mem_append_left _ (List.mem_append_left _ (List.mem_append_left _ (List.mem_of_getElem? (i := 0) rfl))))))))) (fun _ h9 => h9) rfl dX11_swimmer_33 ?_
        refine z_bipush hx hb dX11_swimmer_36 (by decide) ?_
        refine z_icmp_lt (tgt := 44) hx hb dX11_swimmer_38 (by decide) (by omega) (by omega) (by omega) (by omega) (fun c_19 => ?_) (fun c_19 => ?_)
        · refine lv_aload_n hx hb dX11_swimmer_44 rfl (lv_at hl 0 rfl) ?_
          refine g_get (C := RX11) (T := TX11) (N := 14) (ci := 10) hx hb hts (fun _ h => (List.mem_cons_of_mem _ (List.mem_append_left _ (List.mem_append_left _ (List.mem_append_left _ (List.mem_append_left _ (List.mem_append_right _ h))))))) hown hC.1 hG 0 (by decide) rfl rfl 1 (by decide) (hts (.fieldLink RX11 18 "StraitSwim" "swimmers" "[LStraitSwim$Plain;") (List.mem_cons_of_mem _ (List.mem_append_left _ (List.mem_append_left _ (List.mem_append_left _ (List.mem_append_left _ (List.mem_append_left _ (List.mem_append_left _ (List.mem_of_getElem? (i := 1) rfl))))))))) (fun _ h9 => h9) rfl dX11_swimmer_45 ?_
          refine lv_aload_n hx hb dX11_swimmer_48 rfl (lv_at hl 0 rfl) ?_
          refine g_get (C := RX11) (T := TX11) (N := 14) (ci := 10) hx hb hts (fun _ h => (List.mem_cons_of_mem _ (List.mem_append_left _ (List.mem_append_left _ (List.mem_append_left _ (List.mem_append_left _ (List.mem_append_right _ h))))))) hown hC.1 hG 0 (by decide) rfl rfl 2 (by decide) (hts (.fieldLink RX11 22 "StraitSwim" "swimmerCount" "I") (List.mem_cons_of_mem _ (List.mem_append_left _ (List.mem_append_left _ (List.mem_append_left _ (List.mem_append_left _ (List.mem_append_left _ (List.mem_append_left _ (List.mem_of_getElem? (i := 0) rfl))))))))) (fun _ h9 => h9) rfl dX11_swimmer_49 ?_
          refine lv_iload_n hx hb dX11_swimmer_52 rfl (lv_at hl 1 rfl) ?_
          refine lv_aload_n hx hb dX11_swimmer_53 rfl (lv_at hl 0 rfl) ?_
          refine g_get (C := RX11) (T := TX11) (N := 14) (ci := 10) hx hb hts (fun _ h => (List.mem_cons_of_mem _ (List.mem_append_left _ (List.mem_append_left _ (List.mem_append_left _ (List.mem_append_left _ (List.mem_append_right _ h))))))) hown hC.1 hG 0 (by decide) rfl rfl 2 (by decide) (hts (.fieldLink RX11 22 "StraitSwim" "swimmerCount" "I") (List.mem_cons_of_mem _ (List.mem_append_left _ (List.mem_append_left _ (List.mem_append_left _ (List.mem_append_left _ (List.mem_append_left _ (List.mem_append_left _ (List.mem_of_getElem? (i := 0) rfl))))))))) (fun _ h9 => h9) rfl dX11_swimmer_54 ?_
          refine lv_iload_n hx hb dX11_swimmer_57 rfl (lv_at hl 2 rfl) ?_
          refine lv_iload_n hx hb dX11_swimmer_58 rfl (lv_at hl 3 rfl) ?_
          refine g_callq (va_runS (As := [.int (zI p1), .int (zI (u.1 0)), .int (zI p2), .int (zI p3)]) (rest := [.int (zI (u.1 0)), .ref (ad 12)]) ⟨hx, hb, hml, hown, hts⟩ (kX11_ofKind l D cy ad jf A u p1 (u.1 0) p2 p3 (by omega)) (va_cwS 4 hts gX11_swimmer_X11_ofKind rfl rfl rfl (by decide +kernel) ⟨by decide, by decide⟩) (g_preS hG hC hS) rfl rfl hl.1 rfl (lv_room (Nat.le_of_ble_eq_true rfl)) dX11_swimmer_59 ⟨Nat.le_of_ble_eq_true rfl, Nat.le_of_ble_eq_true rfl⟩) hS (fun r20 u21 H locs p_22 hG hS => ?_)
          obtain ⟨q, rfl, hq_, hu21⟩ := p_22
          simp only [va_rf]
          rcases (show p1 = 0 ∨ p1 = 1 ∨ p1 = 2 ∨ p1 = 3 by omega) with hk0 | hk0 | hk0 | hk0
          · have ha_q : q ∈ u21.2.2.2.1 := by rw [hu21]; exact List.mem_append_right _ List.mem_cons_self
            have hE_q : u21.2.2.2.2 q = .inr (2, [.int (zI (u.1 0)), .int (zI p2), .int (zI p3), .int (zI 0)]) := by rw [hu21, cNewS, hk0]; exact up_s _ _ _
            obtain ⟨k9, hk9⟩ := va_pl_get (X := gFx cy ad jf u21) (f := u21.2.2.2.2) ha_q
            refine g_aast (n := 10) (r := (RX3, TX3, 4)) hx hb hC.1 hG hS 12 4 (by decide) (by decide) rfl rfl rfl (hk9.trans (by rw [hE_q])) rfl (by omega) (by omega) (by decide) dX11_swimmer_62 (fun u23 H locs hu23 hG hS => ?_)
            refine lv_aload_n hx hb dX11_swimmer_63 rfl (lv_at hl 0 rfl) ?_
            refine lv_dup hx hb dX11_swimmer_64 rfl ?_
            refine g_get (C := RX11) (T := TX11) (N := 14) (ci := 10) hx hb hts (fun _ h => (List.mem_cons_of_mem _ (List.mem_append_left _ (List.mem_append_left _ (List.mem_append_left _ (List.mem_append_left _ (List.mem_append_right _ h))))))) hown hC.1 hG 0 (by decide) rfl rfl 2 (by decide) (hts (.fieldLink RX11 22 "StraitSwim" "swimmerCount" "I") (List.mem_cons_of_mem _ (List.mem_append_left _ (List.mem_append_left _ (List.mem_append_left _ (List.mem_append_left _ (List.mem_append_left _ (List.mem_append_left _ (List.mem_of_getElem? (i := 0) rfl))))))))) (fun _ h9 => h9) rfl dX11_swimmer_65 ?_
            have e_24 : u23.1 0 = u.1 0 := by subst hu23; subst hu21; rfl
            rw [e_24]
            refine z_iconst hx hb dX11_swimmer_68 ?_
            refine z_iadd hx hb dX11_swimmer_69 ?_
            refine g_put (C := RX11) (T := TX11) (N := 14) (ci := 10) (ty := .int) hx hb hts (fun _ h => (List.mem_cons_of_mem _ (List.mem_append_left _ (List.mem_append_left _ (List.mem_append_left _ (List.mem_append_left _ (List.mem_append_right _ h))))))) tyX11 tyX11_ok nmX11 hown hC.1 hG hS 0 (by decide) rfl rfl 2 0 (by decide) (hts (.fieldLink RX11 22 "StraitSwim" "swimmerCount" "I") (List.mem_cons_of_mem _ (List.mem_append_left _ (List.mem_append_left _ (List.mem_append_left _ (List.mem_append_left _ (List.mem_append_left _ (List.mem_append_left _ (List.mem_of_getElem? (i := 0) rfl))))))))) (fun _ h9 => h9) rfl (by decide +kernel) rfl rfl (Nat.le_of_ble_eq_true rfl) rfl (gO_0 ad _ _) dX11_swimmer_70 (fun u25 H locs hu25 hG hS => ?_)
            refine lv_aload_n hx hb dX11_swimmer_73 rfl (lv_at hl 0 rfl) ?_
            refine g_get (C := RX11) (T := TX11) (N := 14) (ci := 10) hx hb hts (fun _ h => (List.mem_cons_of_mem _ (List.mem_append_left _ (List.mem_append_left _ (List.mem_append_left _ (List.mem_append_left _ (List.mem_append_right _ h))))))) hown hC.1 hG 0 (by decide) rfl rfl 2 (by decide) (hts (.fieldLink RX11 22 "StraitSwim" "swimmerCount" "I") (List.mem_cons_of_mem _ (List.mem_append_left _ (List.mem_append_left _ (List.mem_append_left _ (List.mem_append_left _ (List.mem_append_left _ (List.mem_append_left _ (List.mem_of_getElem? (i := 0) rfl))))))))) (fun _ h9 => h9) rfl dX11_swimmer_74 ?_
            have e_26 : u25.1 0 = (u.1 0) + 1 := by subst hu25; subst hu23; subst hu21; rfl
            rw [e_26]
            refine z_iconst hx hb dX11_swimmer_77 ?_
            refine z_isub hx hb dX11_swimmer_78 ?_
            refine W.widen (k := 1) (n := 4) (Nat.le_of_ble_eq_true rfl) (Nat.le_of_ble_eq_true rfl) ?_
            exact W.iret (v := zI (((u.1 0) + 1) - 1)) hx hb hr (fun t9 ht9_ hW => ⟨⟨zI (((u.1 0) + 1) - 1), u25, rfl, (by dsimp only; rw [if_pos (by omega), if_neg (by omega)]; exact ⟨(by congr 1; omega), q, hq_, (by unfold cSwN; subst hu25; subst hu23; subst hu21; rfl)⟩), gB.mk' hG hC hS ht9_ hW⟩, hS.F ht9_⟩) hS.2.2 dX11_swimmer_79
          · have ha_q : q ∈ u21.2.2.2.1 := by rw [hu21]; exact List.mem_append_right _ List.mem_cons_self
            have hE_q : u21.2.2.2.2 q = .inr (0, [.int (zI (u.1 0)), .int (zI p2), .int (zI p3), .int (zI 0)]) := by rw [hu21, cNewS, hk0]; exact up_s _ _ _
            obtain ⟨k9, hk9⟩ := va_pl_get (X := gFx cy ad jf u21) (f := u21.2.2.2.2) ha_q
            refine g_aastO (n := 10) (E := RX3) (r := (RX0, TX0, 4)) hx hb hC.1 hG hS 12 4 (by decide) (by decide) rfl rfl rfl hC.2.2.2.2.2.1.1 (hk9.trans (by rw [hE_q])) rfl (by omega) (by omega) (by decide) dX11_swimmer_62 (fun u27 H locs hu27 hG hS => ?_)
            refine lv_aload_n hx hb dX11_swimmer_63 rfl (lv_at hl 0 rfl) ?_
            refine lv_dup hx hb dX11_swimmer_64 rfl ?_
            refine g_get (C := RX11) (T := TX11) (N := 14) (ci := 10) hx hb hts (fun _ h => (List.mem_cons_of_mem _ (List.mem_append_left _ (List.mem_append_left _ (List.mem_append_left _ (List.mem_append_left _ (List.mem_append_right _ h))))))) hown hC.1 hG 0 (by decide) rfl rfl 2 (by decide) (hts (.fieldLink RX11 22 "StraitSwim" "swimmerCount" "I") (List.mem_cons_of_mem _ (List.mem_append_left _ (List.mem_append_left _ (List.mem_append_left _ (List.mem_append_left _ (List.mem_append_left _ (List.mem_append_left _ (List.mem_of_getElem? (i := 0) rfl))))))))) (fun _ h9 => h9) rfl dX11_swimmer_65 ?_
            have e_28 : u27.1 0 = u.1 0 := by subst hu27; subst hu21; rfl
            rw [e_28]
            refine z_iconst hx hb dX11_swimmer_68 ?_
            refine z_iadd hx hb dX11_swimmer_69 ?_
            refine g_put (C := RX11) (T := TX11) (N := 14) (ci := 10) (ty := .int) hx hb hts (fun _ h => (List.mem_cons_of_mem _ (List.mem_append_left _ (List.mem_append_left _ (List.mem_append_left _ (List.mem_append_left _ (List.mem_append_right _ h))))))) tyX11 tyX11_ok nmX11 hown hC.1 hG hS 0 (by decide) rfl rfl 2 0 (by decide) (hts (.fieldLink RX11 22 "StraitSwim" "swimmerCount" "I") (List.mem_cons_of_mem _ (List.mem_append_left _ (List.mem_append_left _ (List.mem_append_left _ (List.mem_append_left _ (List.mem_append_left _ (List.mem_append_left _ (List.mem_of_getElem? (i := 0) rfl))))))))) (fun _ h9 => h9) rfl (by decide +kernel) rfl rfl (Nat.le_of_ble_eq_true rfl) rfl (gO_0 ad _ _) dX11_swimmer_70 (fun u29 H locs hu29 hG hS => ?_)
            refine lv_aload_n hx hb dX11_swimmer_73 rfl (lv_at hl 0 rfl) ?_
            refine g_get (C := RX11) (T := TX11) (N := 14) (ci := 10) hx hb hts (fun _ h => (List.mem_cons_of_mem _ (List.mem_append_left _ (List.mem_append_left _ (List.mem_append_left _ (List.mem_append_left _ (List.mem_append_right _ h))))))) hown hC.1 hG 0 (by decide) rfl rfl 2 (by decide) (hts (.fieldLink RX11 22 "StraitSwim" "swimmerCount" "I") (List.mem_cons_of_mem _ (List.mem_append_left _ (List.mem_append_left _ (List.mem_append_left _ (List.mem_append_left _ (List.mem_append_left _ (List.mem_append_left _ (List.mem_of_getElem? (i := 0) rfl))))))))) (fun _ h9 => h9) rfl dX11_swimmer_74 ?_
            have e_30 : u29.1 0 = (u.1 0) + 1 := by subst hu29; subst hu27; subst hu21; rfl
            rw [e_30]
            refine z_iconst hx hb dX11_swimmer_77 ?_
            refine z_isub hx hb dX11_swimmer_78 ?_
            refine W.widen (k := 1) (n := 4) (Nat.le_of_ble_eq_true rfl) (Nat.le_of_ble_eq_true rfl) ?_
            exact W.iret (v := zI (((u.1 0) + 1) - 1)) hx hb hr (fun t9 ht9_ hW => ⟨⟨zI (((u.1 0) + 1) - 1), u29, rfl, (by dsimp only; rw [if_pos (by omega), if_neg (by omega)]; exact ⟨(by congr 1; omega), q, hq_, (by unfold cSwN; subst hu29; subst hu27; subst hu21; rfl)⟩), gB.mk' hG hC hS ht9_ hW⟩, hS.F ht9_⟩) hS.2.2 dX11_swimmer_79
          · have ha_q : q ∈ u21.2.2.2.1 := by rw [hu21]; exact List.mem_append_right _ List.mem_cons_self
            have hE_q : u21.2.2.2.2 q = .inr (3, [.int (zI (u.1 0)), .int (zI p2), .int (zI p3), .int (zI 0)]) := by rw [hu21, cNewS, hk0]; exact up_s _ _ _
            obtain ⟨k9, hk9⟩ := va_pl_get (X := gFx cy ad jf u21) (f := u21.2.2.2.2) ha_q
            refine g_aastO (n := 10) (E := RX3) (r := (RX4, TX4, 4)) hx hb hC.1 hG hS 12 4 (by decide) (by decide) rfl rfl rfl hC.2.2.2.2.2.1.2.1 (hk9.trans (by rw [hE_q])) rfl (by omega) (by omega) (by decide) dX11_swimmer_62 (fun u31 H locs hu31 hG hS => ?_)
            refine lv_aload_n hx hb dX11_swimmer_63 rfl (lv_at hl 0 rfl) ?_
            refine lv_dup hx hb dX11_swimmer_64 rfl ?_
            refine g_get (C := RX11) (T := TX11) (N := 14) (ci := 10) hx hb hts (fun _ h => (List.mem_cons_of_mem _ (List.mem_append_left _ (List.mem_append_left _ (List.mem_append_left _ (List.mem_append_left _ (List.mem_append_right _ h))))))) hown hC.1 hG 0 (by decide) rfl rfl 2 (by decide) (hts (.fieldLink RX11 22 "StraitSwim" "swimmerCount" "I") (List.mem_cons_of_mem _ (List.mem_append_left _ (List.mem_append_left _ (List.mem_append_left _ (List.mem_append_left _ (List.mem_append_left _ (List.mem_append_left _ (List.mem_of_getElem? (i := 0) rfl))))))))) (fun _ h9 => h9) rfl dX11_swimmer_65 ?_
            have e_32 : u31.1 0 = u.1 0 := by subst hu31; subst hu21; rfl
            rw [e_32]
            refine z_iconst hx hb dX11_swimmer_68 ?_
            refine z_iadd hx hb dX11_swimmer_69 ?_
            refine g_put (C := RX11) (T := TX11) (N := 14) (ci := 10) (ty := .int) hx hb hts (fun _ h => (List.mem_cons_of_mem _ (List.mem_append_left _ (List.mem_append_left _ (List.mem_append_left _ (List.mem_append_left _ (List.mem_append_right _ h))))))) tyX11 tyX11_ok nmX11 hown hC.1 hG hS 0 (by decide) rfl rfl 2 0 (by decide) (hts (.fieldLink RX11 22 "StraitSwim" "swimmerCount" "I") (List.mem_cons_of_mem _ (List.mem_append_left _ (List.mem_append_left _ (List.mem_append_left _ (List.mem_append_left _ (List.mem_append_left _ (List.mem_append_left _ (List.mem_of_getElem? (i := 0) rfl))))))))) (fun _ h9 => h9) rfl (by decide +kernel) rfl rfl (Nat.le_of_ble_eq_true rfl) rfl (gO_0 ad _ _) dX11_swimmer_70 (fun u33 H locs hu33 hG hS => ?_)
            refine lv_aload_n hx hb dX11_swimmer_73 rfl (lv_at hl 0 rfl) ?_
            refine g_get (C := RX11) (T := TX11) (N := 14) (ci := 10) hx hb hts (fun _ h => (List.mem_cons_of_mem _ (List.mem_append_left _ (List.mem_append_left _ (List.mem_append_left _ (List.mem_append_left _ (List.mem_append_right _ h))))))) hown hC.1 hG 0 (by decide) rfl rfl 2 (by decide) (hts (.fieldLink RX11 22 "StraitSwim" "swimmerCount" "I") (List.mem_cons_of_mem _ (List.mem_append_left _ (List.mem_append_left _ (List.mem_append_left _ (List.mem_append_left _ (List.mem_append_left _ (List.mem_append_left _ (List.mem_of_getElem? (i := 0) rfl))))))))) (fun _ h9 => h9) rfl dX11_swimmer_74 ?_
            have e_34 : u33.1 0 = (u.1 0) + 1 := by subst hu33; subst hu31; subst hu21; rfl
            rw [e_34]
            refine z_iconst hx hb dX11_swimmer_77 ?_
            refine z_isub hx hb dX11_swimmer_78 ?_
            refine W.widen (k := 1) (n := 4) (Nat.le_of_ble_eq_true rfl) (Nat.le_of_ble_eq_true rfl) ?_
            exact W.iret (v := zI (((u.1 0) + 1) - 1)) hx hb hr (fun t9 ht9_ hW => ⟨⟨zI (((u.1 0) + 1) - 1), u33, rfl, (by dsimp only; rw [if_pos (by omega), if_neg (by omega)]; exact ⟨(by congr 1; omega), q, hq_, (by unfold cSwN; subst hu33; subst hu31; subst hu21; rfl)⟩), gB.mk' hG hC hS ht9_ hW⟩, hS.F ht9_⟩) hS.2.2 dX11_swimmer_79
          · have ha_q : q ∈ u21.2.2.2.1 := by rw [hu21]; exact List.mem_append_right _ List.mem_cons_self
            have hE_q : u21.2.2.2.2 q = .inr (5, [.int (zI (u.1 0)), .int (zI p2), .int (zI p3), .int (zI 0)]) := by rw [hu21, cNewS, hk0]; exact up_s _ _ _
            obtain ⟨k9, hk9⟩ := va_pl_get (X := gFx cy ad jf u21) (f := u21.2.2.2.2) ha_q
            refine g_aastO (n := 10) (E := RX3) (r := (RX6, TX6, 4)) hx hb hC.1 hG hS 12 4 (by decide) (by decide) rfl rfl rfl hC.2.2.2.2.2.1.2.2 (hk9.trans (by rw [hE_q])) rfl (by omega) (by omega) (by decide) dX11_swimmer_62 (fun u35 H locs hu35 hG hS => ?_)
            refine lv_aload_n hx hb dX11_swimmer_63 rfl (lv_at hl 0 rfl) ?_
            refine lv_dup hx hb dX11_swimmer_64 rfl ?_
            refine g_get (C := RX11) (T := TX11) (N := 14) (ci := 10) hx hb hts (fun _ h => (List.mem_cons_of_mem _ (List.mem_append_left _ (List.mem_append_left _ (List.mem_append_left _ (List.mem_append_left _ (List.mem_append_right _ h))))))) hown hC.1 hG 0 (by decide) rfl rfl 2 (by decide) (hts (.fieldLink RX11 22 "StraitSwim" "swimmerCount" "I") (List.mem_cons_of_mem _ (List.mem_append_left _ (List.mem_append_left _ (List.mem_append_left _ (List.mem_append_left _ (List.mem_append_left _ (List.mem_append_left _ (List.mem_of_getElem? (i := 0) rfl))))))))) (fun _ h9 => h9) rfl dX11_swimmer_65 ?_
            have e_36 : u35.1 0 = u.1 0 := by subst hu35; subst hu21; rfl
            rw [e_36]
            refine z_iconst hx hb dX11_swimmer_68 ?_
            refine z_iadd hx hb dX11_swimmer_69 ?_
            refine g_put (C := RX11) (T := TX11) (N := 14) (ci := 10) (ty := .int) hx hb hts (fun _ h => (List.mem_cons_of_mem _ (List.mem_append_left _ (List.mem_append_left _ (List.mem_append_left _ (List.mem_append_left _ (List.mem_append_right _ h))))))) tyX11 tyX11_ok nmX11 hown hC.1 hG hS 0 (by decide) rfl rfl 2 0 (by decide) (hts (.fieldLink RX11 22 "StraitSwim" "swimmerCount" "I") (List.mem_cons_of_mem _ (List.mem_append_left _ (List.mem_append_left _ (List.mem_append_left _ (List.mem_append_left _ (List.mem_append_left _ (List.mem_append_left _ (List.mem_of_getElem? (i := 0) rfl))))))))) (fun _ h9 => h9) rfl (by decide +kernel) rfl rfl (Nat.le_of_ble_eq_true rfl) rfl (gO_0 ad _ _) dX11_swimmer_70 (fun u37 H locs hu37 hG hS => ?_)
            refine lv_aload_n hx hb dX11_swimmer_73 rfl (lv_at hl 0 rfl) ?_
            refine g_get (C := RX11) (T := TX11) (N := 14) (ci := 10) hx hb hts (fun _ h => (List.mem_cons_of_mem _ (List.mem_append_left _ (List.mem_append_left _ (List.mem_append_left _ (List.mem_append_left _ (List.mem_append_right _ h))))))) hown hC.1 hG 0 (by decide) rfl rfl 2 (by decide) (hts (.fieldLink RX11 22 "StraitSwim" "swimmerCount" "I") (List.mem_cons_of_mem _ (List.mem_append_left _ (List.mem_append_left _ (List.mem_append_left _ (List.mem_append_left _ (List.mem_append_left _ (List.mem_append_left _ (List.mem_of_getElem? (i := 0) rfl))))))))) (fun _ h9 => h9) rfl dX11_swimmer_74 ?_
            have e_38 : u37.1 0 = (u.1 0) + 1 := by subst hu37; subst hu35; subst hu21; rfl
            rw [e_38]
            refine z_iconst hx hb dX11_swimmer_77 ?_
            refine z_isub hx hb dX11_swimmer_78 ?_
            refine W.widen (k := 1) (n := 4) (Nat.le_of_ble_eq_true rfl) (Nat.le_of_ble_eq_true rfl) ?_
            exact W.iret (v := zI (((u.1 0) + 1) - 1)) hx hb hr (fun t9 ht9_ hW => ⟨⟨zI (((u.1 0) + 1) - 1), u37, rfl, (by dsimp only; rw [if_pos (by omega), if_neg (by omega)]; exact ⟨(by congr 1; omega), q, hq_, (by unfold cSwN; subst hu37; subst hu35; subst hu21; rfl)⟩), gB.mk' hG hC hS ht9_ hW⟩, hS.F ht9_⟩) hS.2.2 dX11_swimmer_79
        · refine z_bipush hx hb dX11_swimmer_41 (by decide) ?_
          refine W.widen (k := 1) (n := 4) (Nat.le_of_ble_eq_true rfl) (Nat.le_of_ble_eq_true rfl) ?_
          exact W.iret (v := zI ((-2))) hx hb hr (fun t9 ht9_ hW => ⟨⟨zI ((-2)), u, rfl, (by dsimp only; (first | (rw [if_neg (by omega)]; exact ⟨rfl, rfl⟩) | (rw [if_pos (by omega), if_pos (by omega)]; exact ⟨rfl, rfl⟩))), gB.mk' hG hC hS ht9_ hW⟩, hS.F ht9_⟩) hS.2.2 dX11_swimmer_43
      · refine z_iconst hx hb dX11_swimmer_30 ?_
        refine W.widen (k := 1) (n := 4) (Nat.le_of_ble_eq_true rfl) (Nat.le_of_ble_eq_true rfl) ?_
        exact W.iret (v := zI ((-1))) hx hb hr (fun t9 ht9_ hW => ⟨⟨zI ((-1)), u, rfl, (by dsimp only; (first | (rw [if_neg (by omega)]; exact ⟨rfl, rfl⟩) | (rw [if_pos (by omega), if_pos (by omega)]; exact ⟨rfl, rfl⟩))), gB.mk' hG hC hS ht9_ hW⟩, hS.F ht9_⟩) hS.2.2 dX11_swimmer_31
