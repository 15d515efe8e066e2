set_option maxHeartbeats 4000000 in
set_option maxRecDepth 100000 in
theorem kX7_init_X7 (l : Launch) (D : va_G) (cy : Nat → ClassId) (ad : Nat → Nat) (jf : Nat → Int64) (A : Nat → Prop) (u : gS) (a : Nat) (nm sp li fd : Int) (p1 p2 p3 p4 : Int) (ha : a ∈ u.2.2.2.1) (hE : u.2.2.2.2 a = .inr (6, [.int (zI nm), .int (zI sp), .int (zI li), .int (zI fd)])) : Met l yX7_init wsX7_init ({ frames := 1, cells := 0, slots := 0, locals := 30 }) (va_Pc [.ref a, .int (zI p1), .int (zI p2), .int (zI p3), .int (zI p4)] (gB D cy ad jf A u)) (va_Qv (fun (v : gS) => v = sP u u.2.2.2.1 (va_up u.2.2.2.2 a (.inr (6, [.int (zI p1), .int (zI p2), .int (zI p3), .int (zI p4)])))) (gB D cy ad jf A) A) 0 0 A := by
  refine Met.ofW (cc := cX7_init) (maxL := 5) (ret := none) (by decide) rfl ?_
  intro p e s m args below meth c s₁ B hml hv
  obtain ⟨rfl, hG, hC⟩ := hv
  have hx := B.exec
  have hb := B.bytes
  have hr := B.returns
  have hts := atoms_spec (ws := wsX7_init) B.pre
  have hown : s.vm.findClass RX7 = some m.cls := findClass_of_methodNamed B.named
  have hlocks := B.notSynchronized
  have hS : va_S A s.heap s.heap [] := va_S.rf
  have hl := lv_entry ([.ref a, .int (zI p1), .int (zI p2), .int (zI p3), .int (zI p4)]) (n := 5) (Nat.le_of_ble_eq_true rfl)
  rw [lg_entry_eq]
  generalize (lg_sl ([.ref a, .int (zI p1), .int (zI p2), .int (zI p3), .int (zI p4)]) ++ List.replicate (5 - (lg_sl ([.ref a, .int (zI p1), .int (zI p2), .int (zI p3), .int (zI p4)])).length) Slot.unset).toArray = ls at hl ⊢
  have hl : lv_has ls 5 [(0, .ref a), (1, .int (zI p1)), (2, .int (zI p2)), (3, .int (zI p3)), (4, .int (zI p4))] := hl
  have hin2 : meth.name = "<init>" := (name_of_methodNamed B.named B.method).1
  refine lv_aload_n hx hb dX7_init_0 rfl (lv_at hl 0 rfl) ?_
  refine W.objInit hx hb hown (hts (.methodLink RX7 1 objectInit) (List.mem_cons_of_mem _ (List.mem_append_left _ (List.mem_of_getElem? (i := 0) rfl)))) (hts (.instanceMethod objectInit) (List.mem_cons_of_mem _ (List.mem_append_left _ (List.mem_of_getElem? (i := 1) rfl)))) (hts (.code objectInit ⟨#[0xb1]⟩ 1 none) (List.mem_cons_of_mem _ (List.mem_append_left _ (List.mem_of_getElem? (i := 2) rfl)))) rfl (by rw [hml]; exact hl.1) rfl dX7_init_1 (Nat.le_of_ble_eq_true rfl) (Nat.le_of_ble_eq_true rfl) ?_
  refine W.eq (g2 := F0 m 4 ls []) rfl ?_
  refine lv_aload_n hx hb dX7_init_4 rfl (lv_at hl 0 rfl) ?_
  refine lv_iload_n hx hb dX7_init_5 rfl (lv_at hl 1 rfl) ?_
  obtain ⟨k9, hk9⟩ := va_pl_get (X := gFx cy ad jf u) (f := u.2.2.2.2) ha
  refine va_putF (C := RX7) (T := TX7) (N := 4) (ci := 6) (ty := .int) hx hb hts (fun _ h => (List.mem_cons_of_mem _ (List.mem_append_right _ h))) tyX7 tyX7_ok nmX7 hown hC.1 hG.1 hG.2 hS k9 (hk9.trans (by rw [hE])) rfl 0 (by decide) (hts (.fieldLink RX7 7 "StraitSwim$Ship" "x" "I") (List.mem_cons_of_mem _ (List.mem_append_left _ (List.mem_of_getElem? (i := 3) rfl)))) (fun _ h9 => h9) rfl hin2 rfl (by decide +kernel) rfl rfl (Nat.le_of_ble_eq_true rfl) dX7_init_6 (fun H locs hP hD hS => ?_)
  obtain ⟨u1, hu1⟩ : ∃ v : gS, v = sP u u.2.2.2.1 (va_up u.2.2.2.2 a (.inr (6, [.int (zI p1), .int (zI sp), .int (zI li), .int (zI fd)]))) := ⟨_, rfl⟩
  have hG : gH D cy ad jf A u1 H := by rw [hu1, gH, ← gW_set hG.2 ha hk9]; exact ⟨hP, hD⟩
  have ha_u1 : a ∈ u1.2.2.2.1 := by rw [hu1]; exact ha
  have hE_u1 : u1.2.2.2.2 a = .inr (6, [.int (zI p1), .int (zI sp), .int (zI li), .int (zI fd)]) := by rw [hu1]; exact up_s _ _ _
  refine lv_aload_n hx hb dX7_init_9 rfl (lv_at hl 0 rfl) ?_
  refine lv_iload_n hx hb dX7_init_10 rfl (lv_at hl 2 rfl) ?_
  obtain ⟨k9, hk9⟩ := va_pl_get (X := gFx cy ad jf u1) (f := u1.2.2.2.2) ha_u1
  refine va_putF (C := RX7) (T := TX7) (N := 4) (ci := 6) (ty := .int) hx hb hts (fun _ h => (List.mem_cons_of_mem _ (List.mem_append_right _ h))) tyX7 tyX7_ok nmX7 hown hC.1 hG.1 hG.2 hS k9 (hk9.trans (by rw [hE_u1])) rfl 1 (by decide) (hts (.fieldLink RX7 13 "StraitSwim$Ship" "y" "I") (List.mem_cons_of_mem _ (List.mem_append_left _ (List.mem_of_getElem? (i := 4) rfl)))) (fun _ h9 => h9) rfl hin2 rfl (by decide +kernel) rfl rfl (Nat.le_of_ble_eq_true rfl) dX7_init_11 (fun H locs hP hD hS => ?_)
  obtain ⟨u2, hu2⟩ : ∃ v : gS, v = sP u1 u1.2.2.2.1 (va_up u1.2.2.2.2 a (.inr (6, [.int (zI p1), .int (zI p2), .int (zI li), .int (zI fd)]))) := ⟨_, rfl⟩
  have hG : gH D cy ad jf A u2 H := by rw [hu2, gH, ← gW_set hG.2 ha_u1 hk9]; exact ⟨hP, hD⟩
  have ha_u2 : a ∈ u2.2.2.2.1 := by rw [hu2]; exact ha_u1
  have hE_u2 : u2.2.2.2.2 a = .inr (6, [.int (zI p1), .int (zI p2), .int (zI li), .int (zI fd)]) := by rw [hu2]; exact up_s _ _ _
  refine lv_aload_n hx hb dX7_init_14 rfl (lv_at hl 0 rfl) ?_
  refine lv_iload_n hx hb dX7_init_15 rfl (lv_at hl 3 rfl) ?_
  obtain ⟨k9, hk9⟩ := va_pl_get (X := gFx cy ad jf u2) (f := u2.2.2.2.2) ha_u2
  refine va_putF (C := RX7) (T := TX7) (N := 4) (ci := 6) (ty := .int) hx hb hts (fun _ h => (List.mem_cons_of_mem _ (List.mem_append_right _ h))) tyX7 tyX7_ok nmX7 hown hC.1 hG.1 hG.2 hS k9 (hk9.trans (by rw [hE_u2])) rfl 2 (by decide) (hts (.fieldLink RX7 16 "StraitSwim$Ship" "east" "I") (List.mem_cons_of_mem _ (List.mem_append_left _ (List.mem_of_getElem? (i := 5) rfl)))) (fun _ h9 => h9) rfl hin2 rfl (by decide +kernel) rfl rfl (Nat.le_of_ble_eq_true rfl) dX7_init_16 (fun H locs hP hD hS => ?_)
  obtain ⟨u3, hu3⟩ : ∃ v : gS, v = sP u2 u2.2.2.2.1 (va_up u2.2.2.2.2 a (.inr (6, [.int (zI p1), .int (zI p2), .int (zI p3), .int (zI fd)]))) := ⟨_, rfl⟩
  have hG : gH D cy ad jf A u3 H := by rw [hu3, gH, ← gW_set hG.2 ha_u2 hk9]; exact ⟨hP, hD⟩
  have ha_u3 : a ∈ u3.2.2.2.1 := by rw [hu3]; exact ha_u2
  have hE_u3 : u3.2.2.2.2 a = .inr (6, [.int (zI p1), .int (zI p2), .int (zI p3), .int (zI fd)]) := by rw [hu3]; exact up_s _ _ _
  refine lv_aload_n hx hb dX7_init_19 rfl (lv_at hl 0 rfl) ?_
  refine lv_iload hx hb dX7_init_20 (lv_at hl 4 rfl) ?_
  obtain ⟨k9, hk9⟩ := va_pl_get (X := gFx cy ad jf u3) (f := u3.2.2.2.2) ha_u3
  refine va_putF (C := RX7) (T := TX7) (N := 4) (ci := 6) (ty := .int) hx hb hts (fun _ h => (List.mem_cons_of_mem _ (List.mem_append_right _ h))) tyX7 tyX7_ok nmX7 hown hC.1 hG.1 hG.2 hS k9 (hk9.trans (by rw [hE_u3])) rfl 3 (by decide) (hts (.fieldLink RX7 19 "StraitSwim$Ship" "north" "I") (List.mem_cons_of_mem _ (List.mem_append_left _ (List.mem_of_getElem? (i := 6) rfl)))) (fun _ h9 => h9) rfl hin2 rfl (by decide +kernel) rfl rfl (Nat.le_of_ble_eq_true rfl) dX7_init_22 (fun H locs hP hD hS => ?_)
  obtain ⟨u4, hu4⟩ : ∃ v : gS, v = sP u3 u3.2.2.2.1 (va_up u3.2.2.2.2 a (.inr (6, [.int (zI p1), .int (zI p2), .int (zI p3), .int (zI p4)]))) := ⟨_, rfl⟩
  have hG : gH D cy ad jf A u4 H := by rw [hu4, gH, ← gW_set hG.2 ha_u3 hk9]; exact ⟨hP, hD⟩
  have ha_u4 : a ∈ u4.2.2.2.1 := by rw [hu4]; exact ha_u3
  have hE_u4 : u4.2.2.2.2 a = .inr (6, [.int (zI p1), .int (zI p2), .int (zI p3), .int (zI p4)]) := by rw [hu4]; exact up_s _ _ _
  exact W.vret hx hb hr (fun t9 ht9_ hW => ⟨⟨u4, rfl, (by subst hu4; subst hu3; subst hu2; subst hu1; simp only [up_up]), gB.mk' hG hC hS ht9_ hW⟩, hS.F ht9_⟩) hS.2.2 dX7_init_25
set_option maxHeartbeats 4000000 in
set_option maxRecDepth 100000 in
theorem kX11_ship (l : Launch) (D : va_G) (cy : Nat → ClassId) (ad : Nat → Nat) (jf : Nat → Int64) (A : Nat → Prop) (u : gS) (p1 p2 p3 p4 : Int) (j_p1 : -2147483648 ≤ p1 ∧ p1 < 2147483648) (j_p2 : -2147483648 ≤ p2 ∧ p2 < 2147483648) (j_p3 : -2147483648 ≤ p3 ∧ p3 < 2147483648) (j_p4 : -2147483648 ≤ p4 ∧ p4 < 2147483648) (i3 : 0 ≤ u.1 3 ∧ u.1 3 ≤ 8) : Met l yX11_ship wsX11_ship ({ frames := 2, cells := 1, slots := 4, locals := 54 }) (va_Pc [.ref (ad 0), .int (zI p1), .int (zI p2), .int (zI p3), .int (zI p4)] (gB D cy ad jf A u)) (va_Qi (fun (r : Int32) (v : gS) => (if ((0 ≤ p1 ∧ p1 ≤ 239) ∧ (0 ≤ p2 ∧ p2 ≤ 119)) ∧ (-20 ≤ p3 ∧ p3 ≤ 20) ∧ (-20 ≤ p4 ∧ p4 ≤ 20) then (if u.1 3 = 8 then r = zI (-2) ∧ v = u else r = zI (u.1 3) ∧ ∃ q, q ∉ u.2.2.2.1 ∧ v = cShipN u q p1 p2 p3 p4) else r = zI (-1) ∧ v = u)) (gB D cy ad jf A) A) 1 4 A := by
  refine Met.ofW (cc := cX11_ship) (maxL := 5) (ret := (some .int)) (by decide) rfl ?_
  intro p e s m args below meth c s₁ B hml hv
  obtain ⟨rfl, hG, hC⟩ := hv
  have hx := B.exec
  have hb := B.bytes
  have hr := B.returns
  have hts := atoms_spec (ws := wsX11_ship) B.pre
  have hown : s.vm.findClass RX11 = some m.cls := findClass_of_methodNamed B.named
  have hlocks := B.notSynchronized
  have hS : va_S A s.heap s.heap [] := va_S.rf
  have hl := lv_entry ([.ref (ad 0), .int (zI p1), .int (zI p2), .int (zI p3), .int (zI p4)]) (n := 5) (Nat.le_of_ble_eq_true rfl)
  rw [lg_entry_eq]
  generalize (lg_sl ([.ref (ad 0), .int (zI p1), .int (zI p2), .int (zI p3), .int (zI p4)]) ++ List.replicate (5 - (lg_sl ([.ref (ad 0), .int (zI p1), .int (zI p2), .int (zI p3), .int (zI p4)])).length) Slot.unset).toArray = ls at hl ⊢
  have hl : lv_has ls 5 [(0, .ref (ad 0)), (1, .int (zI p1)), (2, .int (zI p2)), (3, .int (zI p3)), (4, .int (zI p4))] := hl
  refine lv_iload_n hx hb dX11_ship_0 rfl (lv_at hl 1 rfl) ?_
  refine lv_iload_n hx hb dX11_ship_1 rfl (lv_at hl 2 rfl) ?_
  refine g_calli (va_runS (As := [.int (zI p1), .int (zI p2)]) (rest := []) ⟨hx, hb, hml, hown, hts⟩ (kX11_isPlace l D cy ad jf A u p1 p2 (by omega) (by omega)) (va_cwS 2 hts gX11_ship_X11_isPlace rfl rfl rfl (by decide +kernel) ⟨by decide, by decide⟩) (g_preS hG hC hS) rfl rfl hl.1 rfl (lv_room (Nat.le_of_ble_eq_true rfl)) dX11_ship_2 ⟨Nat.le_of_ble_eq_true rfl, Nat.le_of_ble_eq_true rfl⟩) hS (fun r1 u2 H locs p_3 hG hS => ?_)
  obtain ⟨⟨b4, rfl, q_5⟩, he_⟩ := p_3
  rw [he_] at hG; clear he_
  have hbb4 : 0 ≤ b4 ∧ b4 ≤ 1 := by rcases q_5 with ⟨h, _⟩ | ⟨h, _⟩ <;> omega
  refine z_if_eq (tgt := 31) hx hb dX11_ship_5 (by decide) (by omega) (by omega) (fun c_6 => ?_) (fun c_6 => ?_)
  · refine z_iconst hx hb dX11_ship_31 ?_
    refine W.widen (k := 1) (n := 4) (Nat.le_of_ble_eq_true rfl) (Nat.le_of_ble_eq_true rfl) ?_
    exact W.iret (v := zI ((-1))) hx hb hr (fun t9 ht9_ hW => ⟨⟨zI ((-1)), u, rfl, (by dsimp only; (first | (rw [if_neg (by omega)]; exact ⟨rfl, rfl⟩) | (rw [if_pos (by omega), if_pos (by omega)]; exact ⟨rfl, rfl⟩))), gB.mk' hG hC hS ht9_ hW⟩, hS.F ht9_⟩) hS.2.2 dX11_ship_32
  · refine lv_iload_n hx hb dX11_ship_8 rfl (lv_at hl 3 rfl) ?_
    refine z_bipush hx hb dX11_ship_9 (by decide) ?_
    refine z_bipush hx hb dX11_ship_11 (by decide) ?_
    refine g_calli (va_runS (As := [.int (zI p3), .int (zI ((-20))), .int (zI 20)]) (rest := []) ⟨hx, hb, hml, hown, hts⟩ (kX11_isWithin l D cy ad jf A u p3 ((-20)) 20 (by omega) (by omega) (by omega)) (va_cwS 3 hts gX11_ship_X11_isWithin rfl rfl rfl (by decide +kernel) ⟨by decide, by decide⟩) (g_preS hG hC hS) rfl rfl hl.1 rfl (lv_room (Nat.le_of_ble_eq_true rfl)) dX11_ship_13 ⟨Nat.le_of_ble_eq_true rfl, Nat.le_of_ble_eq_true rfl⟩) hS (fun r7 u8 H locs p_9 hG hS => ?_)
    obtain ⟨⟨b10, rfl, q_11⟩, he_⟩ := p_9
    rw [he_] at hG; clear he_
    have hbb10 : 0 ≤ b10 ∧ b10 ≤ 1 := by rcases q_11 with ⟨h, _⟩ | ⟨h, _⟩ <;> omega
    refine z_if_eq (tgt := 31) hx hb dX11_ship_16 (by decide) (by omega) (by omega) (fun c_12 => ?_) (fun c_12 => ?_)
    · refine z_iconst hx hb dX11_ship_31 ?_
      refine W.widen (k := 1) (n := 4) (Nat.le_of_ble_eq_true rfl) (Nat.le_of_ble_eq_true rfl) ?_
      exact W.iret (v := zI ((-1))) hx hb hr (fun t9 ht9_ hW => ⟨⟨zI ((-1)), u, rfl, (by dsimp only; (first | (rw [if_neg (by omega)]; exact ⟨rfl, rfl⟩) | (rw [if_pos (by omega), if_pos (by omega)]; exact ⟨rfl, rfl⟩))), gB.mk' hG hC hS ht9_ hW⟩, hS.F ht9_⟩) hS.2.2 dX11_ship_32
    · refine lv_iload hx hb dX11_ship_19 (lv_at hl 4 rfl) ?_
      refine z_bipush hx hb dX11_ship_21 (by decide) ?_
      refine z_bipush hx hb dX11_ship_23 (by decide) ?_
      refine g_calli (va_runS (As := [.int (zI p4), .int (zI ((-20))), .int (zI 20)]) (rest := []) ⟨hx, hb, hml, hown, hts⟩ (kX11_isWithin l D cy ad jf A u p4 ((-20)) 20 (by omega) (by omega) (by omega)) (va_cwS 3 hts gX11_ship_X11_isWithin rfl rfl rfl (by decide +kernel) ⟨by decide, by decide⟩) (g_preS hG hC hS) rfl rfl hl.1 rfl (lv_room (Nat.le_of_ble_eq_true rfl)) dX11_ship_25 ⟨Nat.le_of_ble_eq_true rfl, Nat.le_of_ble_eq_true rfl⟩) hS (fun r13 u14 H locs p_15 hG hS => ?_)
      obtain ⟨⟨b16, rfl, q_17⟩, he_⟩ := p_15
      rw [he_] at hG; clear he_
      have hbb16 : 0 ≤ b16 ∧ b16 ≤ 1 := by rcases q_17 with ⟨h, _⟩ | ⟨h, _⟩ <;> omega
      refine z_if_ne (tgt := 33) hx hb dX11_ship_28 (by decide) (by omega) (by omega) (fun c_18 => ?_) (fun c_18 => ?_)
      · refine lv_aload_n hx hb dX11_ship_33 rfl (lv_at hl 0 rfl) ?_
        refine g_get (C := RX11) (T := TX11) (N := 14) (ci := 10) hx hb hts (fun _ h => (List.mem_cons_of_mem _ (List.mem_append_left _ (List.mem_append_right _ h)))) hown hC.1 hG 0 (by decide) rfl rfl 8 (by decide) (hts (.fieldLink RX11 48 "StraitSwim" "shipCount" "I") (List.mem_cons_of_mem _ (List.mem_append_left _ (List.mem_append_left _ (List.mem_of_getElem? (i := 0) rfl))))) (fun _ h9 => h9) rfl dX11_ship_34 ?_
        refine z_bipush hx hb dX11_ship_37 (by decide) ?_
        refine z_icmp_lt (tgt := 45) hx hb dX11_ship_39 (by decide) (by omega) (by omega) (by omega) (by omega) (fun c_19 => ?_) (fun c_19 => ?_)
        · refine lv_aload_n hx hb dX11_ship_45 rfl (lv_at hl 0 rfl) ?_
          refine g_get (C := RX11) (T := TX11) (N := 14) (ci := 10) hx hb hts (fun _ h => (List.mem_cons_of_mem _ (List.mem_append_left _ (List.mem_append_right _ h)))) hown hC.1 hG 0 (by decide) rfl rfl 7 (by decide) (hts (.fieldLink RX11 44 "StraitSwim" "ships" "[LStraitSwim$Ship;") (List.mem_cons_of_mem _ (List.mem_append_left _ (List.mem_append_left _ (List.mem_of_getElem? (i := 1) rfl))))) (fun _ h9 => h9) rfl dX11_ship_46 ?_
          refine lv_aload_n hx hb dX11_ship_49 rfl (lv_at hl 0 rfl) ?_
          refine g_get (C := RX11) (T := TX11) (N := 14) (ci := 10) hx hb hts (fun _ h => (List.mem_cons_of_mem _ (List.mem_append_left _ (List.mem_append_right _ h)))) hown hC.1 hG 0 (by decide) rfl rfl 8 (by decide) (hts (.fieldLink RX11 48 "StraitSwim" "shipCount" "I") (List.mem_cons_of_mem _ (List.mem_append_left _ (List.mem_append_left _ (List.mem_of_getElem? (i := 0) rfl))))) (fun _ h9 => h9) rfl dX11_ship_50 ?_
          refine va_new (ci := 6) (fs := [.int (zI 0), .int (zI 0), .int (zI 0), .int (zI 0)]) (C := RX7) (T := TX7) (N := 4) hx hb hts (fun _ h => (List.mem_cons_of_mem _ (List.mem_append_right _ h))) tyX7 tyX7_ok hown (hts (.classLink RX11 42 RX7) (List.mem_cons_of_mem _ (List.mem_append_left _ (List.mem_append_left _ (List.mem_of_getElem? (i := 2) rfl))))) (hts (.instantiable RX7 4) (List.mem_cons_of_mem _ (List.mem_append_left _ (List.mem_append_left _ (List.mem_of_getElem? (i := 3) rfl))))) (hts (.initialized RX7) (List.mem_cons_of_mem _ (List.mem_append_left _ (List.mem_append_left _ (List.mem_of_getElem? (i := 4) rfl))))) hC.1 hG.1 hG.2 hS hC.2.1 rfl (fun j hj => by rcases (show j = 0 ∨ j = 1 ∨ j = 2 ∨ j = 3 by omega) with rfl | rfl | rfl | rfl <;> rfl) (Nat.le_of_ble_eq_true rfl) (Nat.le_of_ble_eq_true rfl) dX11_ship_53 (fun n20 H hP hD hS => ?_)
          have hq_ := va_pl_fresh2 hD
          obtain ⟨u21, hu21⟩ : ∃ v : gS, v = sP u (u.2.2.2.1 ++ [n20]) (va_up u.2.2.2.2 n20 (.inr (6, [.int (zI 0), .int (zI 0), .int (zI 0), .int (zI 0)]))) := ⟨_, rfl⟩
          have hG : gH D cy ad jf A u21 H := by rw [hu21, gH, ← gW_push hq_]; exact ⟨hP, hD⟩
          have ha_n20 : n20 ∈ u21.2.2.2.1 := by rw [hu21]; exact List.mem_append_right _ List.mem_cons_self
          have hE_n20 : u21.2.2.2.2 n20 = .inr (6, [.int (zI 0), .int (zI 0), .int (zI 0), .int (zI 0)]) := by rw [hu21]; exact up_s _ _ _
          refine lv_dup hx hb dX11_ship_56 rfl ?_
          refine lv_iload_n hx hb dX11_ship_57 rfl (lv_at hl 1 rfl) ?_
          refine lv_iload_n hx hb dX11_ship_58 rfl (lv_at hl 2 rfl) ?_
          refine lv_iload_n hx hb dX11_ship_59 rfl (lv_at hl 3 rfl) ?_
          refine lv_iload hx hb dX11_ship_60 (lv_at hl 4 rfl) ?_
          refine g_callv (va_runI (As := [.int (zI p1), .int (zI p2), .int (zI p3), .int (zI p4)]) (rest := [.ref n20, .int (zI (u.1 3)), .ref (ad 21)]) ⟨hx, hb, hml, hown, hts⟩ (kX7_init_X7 l D cy ad jf A u21 n20 0 0 0 0 p1 p2 p3 p4 ha_n20 hE_n20) (cwI 4 hts gX11_ship_X7_init rfl rfl rfl (hts (.initialized RX7) (List.mem_cons_of_mem _ (List.mem_append_left _ (List.mem_append_left _ (List.mem_of_getElem? (i := 4) rfl))))) (hts (.methodLink RX11 160 yX7_init) (List.mem_cons_of_mem _ (List.mem_append_left _ (List.mem_append_left _ (List.mem_of_getElem? (i := 12) rfl))))) (hts (.instanceMethod yX7_init) (List.mem_cons_of_mem _ (List.mem_append_left _ (List.mem_append_left _ (List.mem_of_getElem? (i := 13) rfl))))) rfl (by decide +kernel) ⟨by decide, by decide⟩) (g_preS hG hC hS) rfl rfl hl.1 rfl (lv_room (Nat.le_of_ble_eq_true rfl)) dX11_ship_62 ⟨Nat.le_of_ble_eq_true rfl, Nat.le_of_ble_eq_true rfl⟩) hS (fun u22 H locs hu22 hG hS => ?_)
          have ha_o23 : n20 ∈ u22.2.2.2.1 := by rw [hu22]; exact ha_n20
          have hE_o23 : u22.2.2.2.2 n20 = .inr (6, [.int (zI p1), .int (zI p2), .int (zI p3), .int (zI p4)]) := by rw [hu22]; exact up_s _ _ _
          obtain ⟨k9, hk9⟩ := va_pl_get (X := gFx cy ad jf u22) (f := u22.2.2.2.2) ha_o23
          refine g_aast (n := 8) (r := (RX7, TX7, 4)) hx hb hC.1 hG hS 21 5 (by decide) (by decide) rfl rfl rfl (hk9.trans (by rw [hE_o23])) rfl (by omega) (by omega) (by decide) dX11_ship_65 (fun u24 H locs hu24 hG hS => ?_)
          refine lv_aload_n hx hb dX11_ship_66 rfl (lv_at hl 0 rfl) ?_
          refine lv_dup hx hb dX11_ship_67 rfl ?_
          refine g_get (C := RX11) (T := TX11) (N := 14) (ci := 10) hx hb hts (fun _ h => (List.mem_cons_of_mem _ (List.mem_append_left _ (List.mem_append_right _ h)))) hown hC.1 hG 0 (by decide) rfl rfl 8 (by decide) (hts (.fieldLink RX11 48 "StraitSwim" "shipCount" "I") (List.mem_cons_of_mem _ (List.mem_append_left _ (List.mem_append_left _ (List.mem_of_getElem? (i := 0) rfl))))) (fun _ h9 => h9) rfl dX11_ship_68 ?_
          have e_25 : u24.1 3 = u.1 3 := by subst hu24; subst hu22; subst hu21; rfl
          rw [e_25]
          refine z_iconst hx hb dX11_ship_71 ?_
          refine z_iadd hx hb dX11_ship_72 ?_
          refine g_put (C := RX11) (T := TX11) (N := 14) (ci := 10) (ty := .int) hx hb hts (fun _ h => (List.mem_cons_of_mem _ (List.mem_append_left _ (List.mem_append_right _ h)))) tyX11 tyX11_ok nmX11 hown hC.1 hG hS 0 (by decide) rfl rfl 8 3 (by decide) (hts (.fieldLink RX11 48 "StraitSwim" "shipCount" "I") (List.mem_cons_of_mem _ (List.mem_append_left _ (List.mem_append_left _ (List.mem_of_getElem? (i := 0) rfl))))) (fun _ h9 => h9) rfl (by decide +kernel) rfl rfl (Nat.le_of_ble_eq_true rfl) rfl (gO_3 ad _ _) dX11_ship_73 (fun u26 H locs hu26 hG hS => ?_)
          refine lv_aload_n hx hb dX11_ship_76 rfl (lv_at hl 0 rfl) ?_
          refine g_get (C := RX11) (T := TX11) (N := 14) (ci := 10) hx hb hts (fun _ h => (List.mem_cons_of_mem _ (List.mem_append_left _ (List.mem_append_right _ h)))) hown hC.1 hG 0 (by decide) rfl rfl 8 (by decide) (hts (.fieldLink RX11 48 "StraitSwim" "shipCount" "I") (List.mem_cons_of_mem _ (List.mem_append_left _ (List.mem_append_left _ (List.mem_of_getElem? (i := 0) rfl))))) (fun _ h9 => h9) rfl dX11_ship_77 ?_
          have e_27 : u26.1 3 = (u.1 3) + 1 := by subst hu26; subst hu24; subst hu22; subst hu21; rfl
          rw [e_27]
          refine z_iconst hx hb dX11_ship_80 ?_
          refine z_isub hx hb dX11_ship_81 ?_
          refine W.widen (k := 1) (n := 4) (Nat.le_of_ble_eq_true rfl) (Nat.le_of_ble_eq_true rfl) ?_
          exact W.iret (v := zI (((u.1 3) + 1) - 1)) hx hb hr (fun t9 ht9_ hW => ⟨⟨zI (((u.1 3) + 1) - 1), u26, rfl, (by dsimp only; rw [if_pos (by omega), if_neg (by omega)]; exact ⟨(by congr 1; omega), n20, hq_, (by unfold cShipN; subst hu26; subst hu24; subst hu22; subst hu21; simp only [up_up])⟩), gB.mk' hG hC hS ht9_ hW⟩, hS.F ht9_⟩) hS.2.2 dX11_ship_82
        · refine z_bipush hx hb dX11_ship_42 (by decide) ?_
          refine W.widen (k := 1) (n := 4) (Nat.le_of_ble_eq_true rfl) (Nat.le_of_ble_eq_true rfl) ?_
          exact W.iret (v := zI ((-2))) hx hb hr (fun t9 ht9_ hW => ⟨⟨zI ((-2)), u, rfl, (by dsimp only; (first | (rw [if_neg (by omega)]; exact ⟨rfl, rfl⟩) | (rw [if_pos (by omega), if_pos (by omega)]; exact ⟨rfl, rfl⟩))), gB.mk' hG hC hS ht9_ hW⟩, hS.F ht9_⟩) hS.2.2 dX11_ship_44
      · refine z_iconst hx hb dX11_ship_31 ?_
        refine W.widen (k := 1) (n := 4) (Nat.le_of_ble_eq_true rfl) (Nat.le_of_ble_eq_true rfl) ?_
        exact W.iret (v := zI ((-1))) hx hb hr (fun t9 ht9_ hW => ⟨⟨zI ((-1)), u, rfl, (by dsimp only; (first | (rw [if_neg (by omega)]; exact ⟨rfl, rfl⟩) | (rw [if_pos (by omega), if_pos (by omega)]; exact ⟨rfl, rfl⟩))), gB.mk' hG hC hS ht9_ hW⟩, hS.F ht9_⟩) hS.2.2 dX11_ship_32
