set_option maxHeartbeats 4000000 in
set_option maxRecDepth 100000 in
theorem kX11_twinOf_X3 (l : Launch) (D : va_G) (cy : Nat → ClassId) (ad : Nat → Nat) (jf : Nat → Int64) (A : Nat → Prop) (u : gS) (a : Nat) (nm sp li fd : Int) (ha : a ∈ u.2.2.2.1) (hE : u.2.2.2.2 a = .inr (2, [.int (zI nm), .int (zI sp), .int (zI li), .int (zI fd)])) : Met l yX11_twinOf wsX11_twinOf ({ frames := 7, cells := 1, slots := 4, locals := 169 }) (va_Pc [.ref a] (gB D cy ad jf A u)) (va_Qq (fun (r : Option Nat) (v : gS) => ∃ q, r = some q ∧ q ∉ u.2.2.2.1 ∧ v = sP u (u.2.2.2.1 ++ [q]) (va_up u.2.2.2.2 q (.inr (2, [.int (zI nm), .int (zI sp), .int (zI li), .int (zI fd)])))) (gB D cy ad jf A) A) 1 4 A := by
  refine Met.ofW (cc := cX11_twinOf) (maxL := 2) (ret := (some (.object "StraitSwim$Plain"))) (by decide) rfl ?_
  intro p e s m args below meth c s₁ B hml hv
  obtain ⟨rfl, hG, hC⟩ := hv
  have hx := B.exec
  have hb := B.bytes
  have hr := B.returns
  have hts := atoms_spec (ws := wsX11_twinOf) B.pre
  have hown : s.vm.findClass RX11 = some m.cls := findClass_of_methodNamed B.named
  have hlocks := B.notSynchronized
  have hS : va_S A s.heap s.heap [] := va_S.rf
  have hl := lv_entry ([.ref a]) (n := 2) (Nat.le_of_ble_eq_true rfl)
  rw [lg_entry_eq]
  generalize (lg_sl ([.ref a]) ++ List.replicate (2 - (lg_sl ([.ref a])).length) Slot.unset).toArray = ls at hl ⊢
  have hl : lv_has ls 2 [(0, .ref a)] := hl
  refine lv_aload_n hx hb dX11_twinOf_0 rfl (lv_at hl 0 rfl) ?_
  obtain ⟨k9, hk9⟩ := va_pl_get (X := gFx cy ad jf u) (f := u.2.2.2.2) ha
  refine g_calli (va_runV (As := []) (rest := []) ⟨hx, hb, hml, hown, hts⟩ (kX3_kind_X3 l D cy ad jf A u a nm sp li fd  ha hE ) (cwV 0 hts gX11_twinOf_X3_kind rfl rfl rfl (by decide +kernel) ⟨by decide, by decide⟩) (g_preD (C := RX3) hG hC hS (hk9.trans (by rw [hE])) rfl) rfl rfl hl.1 rfl (lv_room (Nat.le_of_ble_eq_true rfl)) dX11_twinOf_1 ⟨Nat.le_of_ble_eq_true rfl, Nat.le_of_ble_eq_true rfl⟩) hS (fun r1 u2 H locs p_3 hG hS => ?_)
  obtain ⟨rfl, he_⟩ := p_3
  rw [he_] at hG; clear he_
  refine lv_aload_n hx hb dX11_twinOf_4 rfl (lv_at hl 0 rfl) ?_
  obtain ⟨k9, hk9⟩ := va_pl_get (X := gFx cy ad jf u) (f := u.2.2.2.2) ha
  refine va_get (C := RX3) (T := TX3) (N := 4) (ci := 2) hx hb hts (fun _ h => (List.mem_cons_of_mem _ (List.mem_append_left _ (List.mem_append_left _ (List.mem_append_right _ h))))) hown hC.1 hG.1 k9 (hk9.trans (by rw [hE])) rfl 0 (by decide) (hts (.fieldLink RX11 275 "StraitSwim$Plain" "number" "I") (List.mem_cons_of_mem _ (List.mem_append_left _ (List.mem_append_left _ (List.mem_append_left _ (List.mem_append_left _ (List.mem_append_left _ (List.mem_of_getElem? (i := 0) rfl)))))))) (fun _ h9 => h9) rfl dX11_twinOf_5 ?_
  refine lv_aload_n hx hb dX11_twinOf_8 rfl (lv_at hl 0 rfl) ?_
  obtain ⟨k9, hk9⟩ := va_pl_get (X := gFx cy ad jf u) (f := u.2.2.2.2) ha
  refine va_get (C := RX3) (T := TX3) (N := 4) (ci := 2) hx hb hts (fun _ h => (List.mem_cons_of_mem _ (List.mem_append_left _ (List.mem_append_left _ (List.mem_append_right _ h))))) hown hC.1 hG.1 k9 (hk9.trans (by rw [hE])) rfl 1 (by decide) (hts (.fieldLink RX11 276 "StraitSwim$Plain" "speed" "I") (List.mem_cons_of_mem _ (List.mem_append_left _ (List.mem_append_left _ (List.mem_append_left _ (List.mem_append_left _ (List.mem_append_left _ (List.mem_of_getElem? (i := 1) rfl)))))))) (fun _ h9 => h9) rfl dX11_twinOf_9 ?_
  refine lv_aload_n hx hb dX11_twinOf_12 rfl (lv_at hl 0 rfl) ?_
  obtain ⟨k9, hk9⟩ := va_pl_get (X := gFx cy ad jf u) (f := u.2.2.2.2) ha
  refine va_get (C := RX3) (T := TX3) (N := 4) (ci := 2) hx hb hts (fun _ h => (List.mem_cons_of_mem _ (List.mem_append_left _ (List.mem_append_left _ (List.mem_append_right _ h))))) hown hC.1 hG.1 k9 (hk9.trans (by rw [hE])) rfl 2 (by decide) (hts (.fieldLink RX11 279 "StraitSwim$Plain" "limit" "I") (List.mem_cons_of_mem _ (List.mem_append_left _ (List.mem_append_left _ (List.mem_append_left _ (List.mem_append_left _ (List.mem_append_left _ (List.mem_of_getElem? (i := 2) rfl)))))))) (fun _ h9 => h9) rfl dX11_twinOf_13 ?_
  refine g_callq (va_runS (As := [.int (zI 0), .int (zI nm), .int (zI sp), .int (zI li)]) (rest := []) ⟨hx, hb, hml, hown, hts⟩ (kX11_ofKind l D cy ad jf A u 0 nm sp li (by omega)) (va_cwS 4 hts gX11_twinOf_X11_ofKind rfl rfl rfl (by decide +kernel) ⟨by decide, by decide⟩) (g_preS hG hC hS) rfl rfl hl.1 rfl (lv_room (Nat.le_of_ble_eq_true rfl)) dX11_twinOf_16 ⟨Nat.le_of_ble_eq_true rfl, Nat.le_of_ble_eq_true rfl⟩) hS (fun r4 u5 H locs p_6 hG hS => ?_)
  obtain ⟨q, rfl, hq_, hu5⟩ := p_6
  simp only [va_rf]
  have ha_q : q ∈ u5.2.2.2.1 := by rw [hu5]; exact List.mem_append_right _ List.mem_cons_self
  have hE_q : u5.2.2.2.2 q = .inr (2, [.int (zI nm), .int (zI sp), .int (zI li), .int (zI 0)]) := by rw [hu5, cNewS]; exact up_s _ _ _
  refine lv_astore_n (lv' := [(1, .ref q), (0, .ref a)]) hx hb dX11_twinOf_19 rfl hl (by decide) rfl (fun ls hl => ?_)
  refine lv_aload_n hx hb dX11_twinOf_20 rfl (lv_at hl 0 rfl) ?_
  refine lv_aload_n hx hb dX11_twinOf_21 rfl (lv_at hl 1 rfl) ?_
  have ha_o7 : a ∈ u5.2.2.2.1 := by subst hu5; first | exact ha | exact List.mem_append_left _ ha
  have hE_o7 : u5.2.2.2.2 a = .inr (2, [.int (zI nm), .int (zI sp), .int (zI li), .int (zI fd)]) := by subst hu5; first | exact hE | exact (up_n _ _ (show a ≠ q from fun h => hq_ (h ▸ ha))).trans hE
  obtain ⟨k9, hk9⟩ := va_pl_get (X := gFx cy ad jf u5) (f := u5.2.2.2.2) ha_o7
  refine va_get (C := RX3) (T := TX3) (N := 4) (ci := 2) hx hb hts (fun _ h => (List.mem_cons_of_mem _ (List.mem_append_left _ (List.mem_append_left _ (List.mem_append_right _ h))))) hown hC.1 hG.1 k9 (hk9.trans (by rw [hE_o7])) rfl 3 (by decide) (hts (.fieldLink RX11 123 "StraitSwim$Plain" "feed" "I") (List.mem_cons_of_mem _ (List.mem_append_left _ (List.mem_append_left _ (List.mem_append_left _ (List.mem_append_left _ (List.mem_append_left _ (List.mem_of_getElem? (i := 3) rfl)))))))) (fun _ h9 => h9) rfl dX11_twinOf_22 ?_
  obtain ⟨k9, hk9⟩ := va_pl_get (X := gFx cy ad jf u5) (f := u5.2.2.2.2) ha_q
  refine va_put (C := RX3) (T := TX3) (N := 4) (ci := 2) (ty := .int) hx hb hts (fun _ h => (List.mem_cons_of_mem _ (List.mem_append_left _ (List.mem_append_left _ (List.mem_append_right _ h))))) tyX3 tyX3_ok nmX3 hown hC.1 hG.1 hG.2 hS k9 (hk9.trans (by rw [hE_q])) rfl 3 (by decide) (hts (.fieldLink RX11 123 "StraitSwim$Plain" "feed" "I") (List.mem_cons_of_mem _ (List.mem_append_left _ (List.mem_append_left _ (List.mem_append_left _ (List.mem_append_left _ (List.mem_append_left _ (List.mem_of_getElem? (i := 3) rfl)))))))) (fun _ h9 => h9) rfl (by decide +kernel) rfl rfl (Nat.le_of_ble_eq_true rfl) dX11_twinOf_25 (fun H locs hP hD hS => ?_)
  obtain ⟨u8, hu8⟩ : ∃ v : gS, v = sP u5 u5.2.2.2.1 (va_up u5.2.2.2.2 q (.inr (2, [.int (zI nm), .int (zI sp), .int (zI li), .int (zI fd)]))) := ⟨_, rfl⟩
  have hG : gH D cy ad jf A u8 H := by rw [hu8, gH, ← gW_set hG.2 ha_q hk9]; exact ⟨hP, hD⟩
  have ha_u8 : q ∈ u8.2.2.2.1 := by rw [hu8]; exact ha_q
  have hE_u8 : u8.2.2.2.2 q = .inr (2, [.int (zI nm), .int (zI sp), .int (zI li), .int (zI fd)]) := by rw [hu8]; exact up_s _ _ _
  refine lv_aload_n hx hb dX11_twinOf_28 rfl (lv_at hl 0 rfl) ?_
  refine W.widen (k := 1) (n := 4) (Nat.le_of_ble_eq_true rfl) (Nat.le_of_ble_eq_true rfl) ?_
  exact W.aret (v := va_rf (some q)) hx hb hr (Or.inl ⟨_, rfl⟩) (va_rf_or _) (fun t9 ht9_ hW => ⟨⟨some q, u8, rfl, (by refine ⟨_, rfl, hq_, ?_⟩; subst hu8; subst hu5; simp only [cNewS, up_up]), gB.mk' hG hC hS ht9_ hW⟩, hS.F ht9_⟩) hS.2.2 dX11_twinOf_29
set_option maxHeartbeats 4000000 in
set_option maxRecDepth 100000 in
theorem kX11_twinOf_X0 (l : Launch) (D : va_G) (cy : Nat → ClassId) (ad : Nat → Nat) (jf : Nat → Int64) (A : Nat → Prop) (u : gS) (a : Nat) (nm sp li fd : Int) (ha : a ∈ u.2.2.2.1) (hE : u.2.2.2.2 a = .inr (0, [.int (zI nm), .int (zI sp), .int (zI li), .int (zI fd)])) : Met l yX11_twinOf wsX11_twinOf ({ frames := 7, cells := 1, slots := 4, locals := 169 }) (va_Pc [.ref a] (gB D cy ad jf A u)) (va_Qq (fun (r : Option Nat) (v : gS) => ∃ q, r = some q ∧ q ∉ u.2.2.2.1 ∧ v = sP u (u.2.2.2.1 ++ [q]) (va_up u.2.2.2.2 q (.inr (0, [.int (zI nm), .int (zI sp), .int (zI li), .int (zI fd)])))) (gB D cy ad jf A) A) 1 4 A := by
  refine Met.ofW (cc := cX11_twinOf) (maxL := 2) (ret := (some (.object "StraitSwim$Plain"))) (by decide) rfl ?_
  intro p e s m args below meth c s₁ B hml hv
  obtain ⟨rfl, hG, hC⟩ := hv
  have hx := B.exec
  have hb := B.bytes
  have hr := B.returns
  have hts := atoms_spec (ws := wsX11_twinOf) B.pre
  have hown : s.vm.findClass RX11 = some m.cls := findClass_of_methodNamed B.named
  have hlocks := B.notSynchronized
  have hS : va_S A s.heap s.heap [] := va_S.rf
  have hl := lv_entry ([.ref a]) (n := 2) (Nat.le_of_ble_eq_true rfl)
  rw [lg_entry_eq]
  generalize (lg_sl ([.ref a]) ++ List.replicate (2 - (lg_sl ([.ref a])).length) Slot.unset).toArray = ls at hl ⊢
  have hl : lv_has ls 2 [(0, .ref a)] := hl
  refine lv_aload_n hx hb dX11_twinOf_0 rfl (lv_at hl 0 rfl) ?_
  obtain ⟨k9, hk9⟩ := va_pl_get (X := gFx cy ad jf u) (f := u.2.2.2.2) ha
  refine g_calli (va_runU (As := []) (rest := []) ⟨hx, hb, hml, hown, hts⟩ (kX0_kind_X0 l D cy ad jf A u a nm sp li fd  ha hE ) (va_cwO 0 hts gX11_twinOf_X0_kind_u273X0 rfl rfl rfl (List.mem_cons_of_mem _ (List.mem_append_left _ (List.mem_append_left _ (List.mem_append_left _ (List.mem_append_left _ (List.mem_append_left _ (List.mem_of_getElem? (i := 11) rfl))))))) (by decide +kernel) ⟨by decide, by decide⟩) (g_preD (C := RX0) hG hC hS (hk9.trans (by rw [hE])) rfl) rfl rfl hl.1 rfl (lv_room (Nat.le_of_ble_eq_true rfl)) dX11_twinOf_1 ⟨Nat.le_of_ble_eq_true rfl, Nat.le_of_ble_eq_true rfl⟩) hS (fun r1 u2 H locs p_3 hG hS => ?_)
  obtain ⟨rfl, he_⟩ := p_3
  rw [he_] at hG; clear he_
  refine lv_aload_n hx hb dX11_twinOf_4 rfl (lv_at hl 0 rfl) ?_
  obtain ⟨k9, hk9⟩ := va_pl_get (X := gFx cy ad jf u) (f := u.2.2.2.2) ha
  refine va_get (C := RX0) (T := TX0) (N := 4) (ci := 0) hx hb hts (fun _ h => (List.mem_cons_of_mem _ (List.mem_append_left _ (List.mem_append_left _ (List.mem_append_left _ (List.mem_append_right _ h)))))) hown hC.1 hG.1 k9 (hk9.trans (by rw [hE])) rfl 0 (by decide) (hts (.fieldLink RX11 275 "StraitSwim$Plain" "number" "I") (List.mem_cons_of_mem _ (List.mem_append_left _ (List.mem_append_left _ (List.mem_append_left _ (List.mem_append_left _ (List.mem_append_left _ (List.mem_of_getElem? (i := 0) rfl)))))))) (fun _ h9 => h9) rfl dX11_twinOf_5 ?_
  refine lv_aload_n hx hb dX11_twinOf_8 rfl (lv_at hl 0 rfl) ?_
  obtain ⟨k9, hk9⟩ := va_pl_get (X := gFx cy ad jf u) (f := u.2.2.2.2) ha
  refine va_get (C := RX0) (T := TX0) (N := 4) (ci := 0) hx hb hts (fun _ h => (List.mem_cons_of_mem _ (List.mem_append_left _ (List.mem_append_left _ (List.mem_append_left _ (List.mem_append_right _ h)))))) hown hC.1 hG.1 k9 (hk9.trans (by rw [hE])) rfl 1 (by decide) (hts (.fieldLink RX11 276 "StraitSwim$Plain" "speed" "I") (List.mem_cons_of_mem _ (List.mem_append_left _ (List.mem_append_left _ (List.mem_append_left _ (List.mem_append_left _ (List.mem_append_left _ (List.mem_of_getElem? (i := 1) rfl)))))))) (fun _ h9 => h9) rfl dX11_twinOf_9 ?_
  refine lv_aload_n hx hb dX11_twinOf_12 rfl (lv_at hl 0 rfl) ?_
  obtain ⟨k9, hk9⟩ := va_pl_get (X := gFx cy ad jf u) (f := u.2.2.2.2) ha
  refine va_get (C := RX0) (T := TX0) (N := 4) (ci := 0) hx hb hts (fun _ h => (List.mem_cons_of_mem _ (List.mem_append_left _ (List.mem_append_left _ (List.mem_append_left _ (List.mem_append_right _ h)))))) hown hC.1 hG.1 k9 (hk9.trans (by rw [hE])) rfl 2 (by decide) (hts (.fieldLink RX11 279 "StraitSwim$Plain" "limit" "I") (List.mem_cons_of_mem _ (List.mem_append_left _ (List.mem_append_left _ (List.mem_append_left _ (List.mem_append_left _ (List.mem_append_left _ (List.mem_of_getElem? (i := 2) rfl)))))))) (fun _ h9 => h9) rfl dX11_twinOf_13 ?_
  refine g_callq (va_runS (As := [.int (zI 1), .int (zI nm), .int (zI sp), .int (zI li)]) (rest := []) ⟨hx, hb, hml, hown, hts⟩ (kX11_ofKind l D cy ad jf A u 1 nm sp li (by omega)) (va_cwS 4 hts gX11_twinOf_X11_ofKind rfl rfl rfl (by decide +kernel) ⟨by decide, by decide⟩) (g_preS hG hC hS) rfl rfl hl.1 rfl (lv_room (Nat.le_of_ble_eq_true rfl)) dX11_twinOf_16 ⟨Nat.le_of_ble_eq_true rfl, Nat.le_of_ble_eq_true rfl⟩) hS (fun r4 u5 H locs p_6 hG hS => ?_)
  obtain ⟨q, rfl, hq_, hu5⟩ := p_6
  simp only [va_rf]
  have ha_q : q ∈ u5.2.2.2.1 := by rw [hu5]; exact List.mem_append_right _ List.mem_cons_self
  have hE_q : u5.2.2.2.2 q = .inr (0, [.int (zI nm), .int (zI sp), .int (zI li), .int (zI 0)]) := by rw [hu5, cNewS]; exact up_s _ _ _
  refine lv_astore_n (lv' := [(1, .ref q), (0, .ref a)]) hx hb dX11_twinOf_19 rfl hl (by decide) rfl (fun ls hl => ?_)
  refine lv_aload_n hx hb dX11_twinOf_20 rfl (lv_at hl 0 rfl) ?_
  refine lv_aload_n hx hb dX11_twinOf_21 rfl (lv_at hl 1 rfl) ?_
  have ha_o7 : a ∈ u5.2.2.2.1 := by subst hu5; first | exact ha | exact List.mem_append_left _ ha
  have hE_o7 : u5.2.2.2.2 a = .inr (0, [.int (zI nm), .int (zI sp), .int (zI li), .int (zI fd)]) := by subst hu5; first | exact hE | exact (up_n _ _ (show a ≠ q from fun h => hq_ (h ▸ ha))).trans hE
  obtain ⟨k9, hk9⟩ := va_pl_get (X := gFx cy ad jf u5) (f := u5.2.2.2.2) ha_o7
  refine va_get (C := RX0) (T := TX0) (N := 4) (ci := 0) hx hb hts (fun _ h => (List.mem_cons_of_mem _ (List.mem_append_left _ (List.mem_append_left _ (List.mem_append_left _ (List.mem_append_right _ h)))))) hown hC.1 hG.1 k9 (hk9.trans (by rw [hE_o7])) rfl 3 (by decide) (hts (.fieldLink RX11 123 "StraitSwim$Plain" "feed" "I") (List.mem_cons_of_mem _ (List.mem_append_left _ (List.mem_append_left _ (List.mem_append_left _ (List.mem_append_left _ (List.mem_append_left _ (List.mem_of_getElem? (i := 3) rfl)))))))) (fun _ h9 => h9) rfl dX11_twinOf_22 ?_
  obtain ⟨k9, hk9⟩ := va_pl_get (X := gFx cy ad jf u5) (f := u5.2.2.2.2) ha_q
  refine va_put (C := RX0) (T := TX0) (N := 4) (ci := 0) (ty := .int) hx hb hts (fun _ h => (List.mem_cons_of_mem _ (List.mem_append_left _ (List.mem_append_left _ (List.mem_append_left _ (List.mem_append_right _ h)))))) tyX0 tyX0_ok nmX0 hown hC.1 hG.1 hG.2 hS k9 (hk9.trans (by rw [hE_q])) rfl 3 (by decide) (hts (.fieldLink RX11 123 "StraitSwim$Plain" "feed" "I") (List.mem_cons_of_mem _ (List.mem_append_left _ (List.mem_append_left _ (List.mem_append_left _ (List.mem_append_left _ (List.mem_append_left _ (List.mem_of_getElem? (i := 3) rfl)))))))) (fun _ h9 => h9) rfl (by decide +kernel) rfl rfl (Nat.le_of_ble_eq_true rfl) dX11_twinOf_25 (fun H locs hP hD hS => ?_)
  obtain ⟨u8, hu8⟩ : ∃ v : gS, v = sP u5 u5.2.2.2.1 (va_up u5.2.2.2.2 q (.inr (0, [.int (zI nm), .int (zI sp), .int (zI li), .int (zI fd)]))) := ⟨_, rfl⟩
  have hG : gH D cy ad jf A u8 H := by rw [hu8, gH, ← gW_set hG.2 ha_q hk9]; exact ⟨hP, hD⟩
  have ha_u8 : q ∈ u8.2.2.2.1 := by rw [hu8]; exact ha_q
  have hE_u8 : u8.2.2.2.2 q = .inr (0, [.int (zI nm), .int (zI sp), .int (zI li), .int (zI fd)]) := by rw [hu8]; exact up_s _ _ _
  refine lv_aload_n hx hb dX11_twinOf_28 rfl (lv_at hl 0 rfl) ?_
  refine W.widen (k := 1) (n := 4) (Nat.le_of_ble_eq_true rfl) (Nat.le_of_ble_eq_true rfl) ?_
  exact W.aret (v := va_rf (some q)) hx hb hr (Or.inl ⟨_, rfl⟩) (va_rf_or _) (fun t9 ht9_ hW => ⟨⟨some q, u8, rfl, (by refine ⟨_, rfl, hq_, ?_⟩; subst hu8; subst hu5; simp only [cNewS, up_up]), gB.mk' hG hC hS ht9_ hW⟩, hS.F ht9_⟩) hS.2.2 dX11_twinOf_29
set_option maxHeartbeats 4000000 in
set_option maxRecDepth 100000 in
theorem kX11_twinOf_X4 (l : Launch) (D : va_G) (cy : Nat → ClassId) (ad : Nat → Nat) (jf : Nat → Int64) (A : Nat → Prop) (u : gS) (a : Nat) (nm sp li fd : Int) (ha : a ∈ u.2.2.2.1) (hE : u.2.2.2.2 a = .inr (3, [.int (zI nm), .int (zI sp), .int (zI li), .int (zI fd)])) : Met l yX11_twinOf wsX11_twinOf ({ frames := 7, cells := 1, slots := 4, locals := 169 }) (va_Pc [.ref a] (gB D cy ad jf A u)) (va_Qq (fun (r : Option Nat) (v : gS) => ∃ q, r = some q ∧ q ∉ u.2.2.2.1 ∧ v = sP u (u.2.2.2.1 ++ [q]) (va_up u.2.2.2.2 q (.inr (3, [.int (zI nm), .int (zI sp), .int (zI li), .int (zI fd)])))) (gB D cy ad jf A) A) 1 4 A := by
  refine Met.ofW (cc := cX11_twinOf) (maxL := 2) (ret := (some (.object "StraitSwim$Plain"))) (by decide) rfl ?_
  intro p e s m args below meth c s₁ B hml hv
  obtain ⟨rfl, hG, hC⟩ := hv
  have hx := B.exec
  have hb := B.bytes
  have hr := B.returns
  have hts := atoms_spec (ws := wsX11_twinOf) B.pre
  have hown : s.vm.findClass RX11 = some m.cls := findClass_of_methodNamed B.named
  have hlocks := B.notSynchronized
  have hS : va_S A s.heap s.heap [] := va_S.rf
  have hl := lv_entry ([.ref a]) (n := 2) (Nat.le_of_ble_eq_true rfl)
  rw [lg_entry_eq]
  generalize (lg_sl ([.ref a]) ++ List.replicate (2 - (lg_sl ([.ref a])).length) Slot.unset).toArray = ls at hl ⊢
  have hl : lv_has ls 2 [(0, .ref a)] := hl
  refine lv_aload_n hx hb dX11_twinOf_0 rfl (lv_at hl 0 rfl) ?_
  obtain ⟨k9, hk9⟩ := va_pl_get (X := gFx cy ad jf u) (f := u.2.2.2.2) ha
  refine g_calli (va_runU (As := []) (rest := []) ⟨hx, hb, hml, hown, hts⟩ (kX4_kind_X4 l D cy ad jf A u a nm sp li fd  ha hE ) (va_cwO 0 hts gX11_twinOf_X4_kind_u273X4 rfl rfl rfl (List.mem_cons_of_mem _ (List.mem_append_left _ (List.mem_append_left _ (List.mem_append_left _ (List.mem_append_left _ (List.mem_append_left _ (List.mem_of_getElem? (i := 11) rfl))))))) (by decide +kernel) ⟨by decide, by decide⟩) (g_preD (C := RX4) hG hC hS (hk9.trans (by rw [hE])) rfl) rfl rfl hl.1 rfl (lv_room (Nat.le_of_ble_eq_true rfl)) dX11_twinOf_1 ⟨Nat.le_of_ble_eq_true rfl, Nat.le_of_ble_eq_true rfl⟩) hS (fun r1 u2 H locs p_3 hG hS => ?_)
  obtain ⟨rfl, he_⟩ := p_3
  rw [he_] at hG; clear he_
  refine lv_aload_n hx hb dX11_twinOf_4 rfl (lv_at hl 0 rfl) ?_
  obtain ⟨k9, hk9⟩ := va_pl_get (X := gFx cy ad jf u) (f := u.2.2.2.2) ha
  refine va_get (C := RX4) (T := TX4) (N := 4) (ci := 3) hx hb hts (fun _ h => (List.mem_cons_of_mem _ (List.mem_append_left _ (List.mem_append_right _ h)))) hown hC.1 hG.1 k9 (hk9.trans (by rw [hE])) rfl 0 (by decide) (hts (.fieldLink RX11 275 "StraitSwim$Plain" "number" "I") (List.mem_cons_of_mem _ (List.mem_append_left _ (List.mem_append_left _ (List.mem_append_left _ (List.mem_append_left _ (List.mem_append_left _ (List.mem_of_getElem? (i := 0) rfl)))))))) (fun _ h9 => h9) rfl dX11_twinOf_5 ?_
  refine lv_aload_n hx hb dX11_twinOf_8 rfl (lv_at hl 0 rfl) ?_
  obtain ⟨k9, hk9⟩ := va_pl_get (X := gFx cy ad jf u) (f := u.2.2.2.2) ha
  refine va_get (C := RX4) (T := TX4) (N := 4) (ci := 3) hx hb hts (fun _ h => (List.mem_cons_of_mem _ (List.mem_append_left _ (List.mem_append_right _ h)))) hown hC.1 hG.1 k9 (hk9.trans (by rw [hE])) rfl 1 (by decide) (hts (.fieldLink RX11 276 "StraitSwim$Plain" "speed" "I") (List.mem_cons_of_mem _ (List.mem_append_left _ (List.mem_append_left _ (List.mem_append_left _ (List.mem_append_left _ (List.mem_append_left _ (List.mem_of_getElem? (i := 1) rfl)))))))) (fun _ h9 => h9) rfl dX11_twinOf_9 ?_
  refine lv_aload_n hx hb dX11_twinOf_12 rfl (lv_at hl 0 rfl) ?_
  obtain ⟨k9, hk9⟩ := va_pl_get (X := gFx cy ad jf u) (f := u.2.2.2.2) ha
  refine va_get (C := RX4) (T := TX4) (N := 4) (ci := 3) hx hb hts (fun _ h => (List.mem_cons_of_mem _ (List.mem_append_left _ (List.mem_append_right _ h)))) hown hC.1 hG.1 k9 (hk9.trans (by rw [hE])) rfl 2 (by decide) (hts (.fieldLink RX11 279 "StraitSwim$Plain" "limit" "I") (List.mem_cons_of_mem _ (List.mem_append_left _ (List.mem_append_left _ (List.mem_append_left _ (List.mem_append_left _ (List.mem_append_left _ (List.mem_of_getElem? (i := 2) rfl)))))))) (fun _ h9 => h9) rfl dX11_twinOf_13 ?_
  refine g_callq (va_runS (As := [.int (zI 2), .int (zI nm), .int (zI sp), .int (zI li)]) (rest := []) ⟨hx, hb, hml, hown, hts⟩ (kX11_ofKind l D cy ad jf A u 2 nm sp li (by omega)) (va_cwS 4 hts gX11_twinOf_X11_ofKind rfl rfl rfl (by decide +kernel) ⟨by decide, by decide⟩) (g_preS hG hC hS) rfl rfl hl.1 rfl (lv_room (Nat.le_of_ble_eq_true rfl)) dX11_twinOf_16 ⟨Nat.le_of_ble_eq_true rfl, Nat.le_of_ble_eq_true rfl⟩) hS (fun r4 u5 H locs p_6 hG hS => ?_)
  obtain ⟨q, rfl, hq_, hu5⟩ := p_6
  simp only [va_rf]
  have ha_q : q ∈ u5.2.2.2.1 := by rw [hu5]; exact List.mem_append_right _ List.mem_cons_self
  have hE_q : u5.2.2.2.2 q = .inr (3, [.int (zI nm), .int (zI sp), .int (zI li), .int (zI 0)]) := by rw [hu5, cNewS]; exact up_s _ _ _
  refine lv_astore_n (lv' := [(1, .ref q), (0, .ref a)]) hx hb dX11_twinOf_19 rfl hl (by decide) rfl (fun ls hl => ?_)
  refine lv_aload_n hx hb dX11_twinOf_20 rfl (lv_at hl 0 rfl) ?_
  refine lv_aload_n hx hb dX11_twinOf_21 rfl (lv_at hl 1 rfl) ?_
  have ha_o7 : a ∈ u5.2.2.2.1 := by subst hu5; first | exact ha | exact List.mem_append_left _ ha
  have hE_o7 : u5.2.2.2.2 a = .inr (3, [.int (zI nm), .int (zI sp), .int (zI li), .int (zI fd)]) := by subst hu5; first | exact hE | exact (up_n _ _ (show a ≠ q from fun h => hq_ (h ▸ ha))).trans hE
  obtain ⟨k9, hk9⟩ := va_pl_get (X := gFx cy ad jf u5) (f := u5.2.2.2.2) ha_o7
  refine va_get (C := RX4) (T := TX4) (N := 4) (ci := 3) hx hb hts (fun _ h => (List.mem_cons_of_mem _ (List.mem_append_left _ (List.mem_append_right _ h)))) hown hC.1 hG.1 k9 (hk9.trans (by rw [hE_o7])) rfl 3 (by decide) (hts (.fieldLink RX11 123 "StraitSwim$Plain" "feed" "I") (List.mem_cons_of_mem _ (List.mem_append_left _ (List.mem_append_left _ (List.mem_append_left _ (List.mem_append_left _ (List.mem_append_left _ (List.mem_of_getElem? (i := 3) rfl)))))))) (fun _ h9 => h9) rfl dX11_twinOf_22 ?_
  obtain ⟨k9, hk9⟩ := va_pl_get (X := gFx cy ad jf u5) (f := u5.2.2.2.2) ha_q
  refine va_put (C := RX4) (T := TX4) (N := 4) (ci := 3) (ty := .int) hx hb hts (fun _ h => (List.mem_cons_of_mem _ (List.mem_append_left _ (List.mem_append_right _ h)))) tyX4 tyX4_ok nmX4 hown hC.1 hG.1 hG.2 hS k9 (hk9.trans (by rw [hE_q])) rfl 3 (by decide) (hts (.fieldLink RX11 123 "StraitSwim$Plain" "feed" "I") (List.mem_cons_of_mem _ (List.mem_append_left _ (List.mem_append_left _ (List.mem_append_left _ (List.mem_append_left _ (List.mem_append_left _ (List.mem_of_getElem? (i := 3) rfl)))))))) (fun _ h9 => h9) rfl (by decide +kernel) rfl rfl (Nat.le_of_ble_eq_true rfl) dX11_twinOf_25 (fun H locs hP hD hS => ?_)
  obtain ⟨u8, hu8⟩ : ∃ v : gS, v = sP u5 u5.2.2.2.1 (va_up u5.2.2.2.2 q (.inr (3, [.int (zI nm), .int (zI sp), .int (zI li), .int (zI fd)]))) := ⟨_, rfl⟩
  have hG : gH D cy ad jf A u8 H := by rw [hu8, gH, ← gW_set hG.2 ha_q hk9]; exact ⟨hP, hD⟩
  have ha_u8 : q ∈ u8.2.2.2.1 := by rw [hu8]; exact ha_q
  have hE_u8 : u8.2.2.2.2 q = .inr (3, [.int (zI nm), .int (zI sp), .int (zI li), .int (zI fd)]) := by rw [hu8]; exact up_s _ _ _
  refine lv_aload_n hx hb dX11_twinOf_28 rfl (lv_at hl 0 rfl) ?_
  refine W.widen (k := 1) (n := 4) (Nat.le_of_ble_eq_true rfl) (Nat.le_of_ble_eq_true rfl) ?_
  exact W.aret (v := va_rf (some q)) hx hb hr (Or.inl ⟨_, rfl⟩) (va_rf_or _) (fun t9 ht9_ hW => ⟨⟨some q, u8, rfl, (by refine ⟨_, rfl, hq_, ?_⟩; subst hu8; subst hu5; simp only [cNewS, up_up]), gB.mk' hG hC hS ht9_ hW⟩, hS.F ht9_⟩) hS.2.2 dX11_twinOf_29
set_option maxHeartbeats 4000000 in
set_option maxRecDepth 100000 in
theorem kX11_twinOf_X6 (l : Launch) (D : va_G) (cy : Nat → ClassId) (ad : Nat → Nat) (jf : Nat → Int64) (A : Nat → Prop) (u : gS) (a : Nat) (nm sp li fd : Int) (ha : a ∈ u.2.2.2.1) (hE : u.2.2.2.2 a = .inr (5, [.int (zI nm), .int (zI sp), .int (zI li), .int (zI fd)])) : Met l yX11_twinOf wsX11_twinOf ({ frames := 7, cells := 1, slots := 4, locals := 169 }) (va_Pc [.ref a] (gB D cy ad jf A u)) (va_Qq (fun (r : Option Nat) (v : gS) => ∃ q, r = some q ∧ q ∉ u.2.2.2.1 ∧ v = sP u (u.2.2.2.1 ++ [q]) (va_up u.2.2.2.2 q (.inr (5, [.int (zI nm), .int (zI sp), .int (zI li), .int (zI fd)])))) (gB D cy ad jf A) A) 1 4 A := by
  refine Met.ofW (cc := cX11_twinOf) (maxL := 2) (ret := (some (.object "StraitSwim$Plain"))) (by decide) rfl ?_
  intro p e s m args below meth c s₁ B hml hv
  obtain ⟨rfl, hG, hC⟩ := hv
  have hx := B.exec
  have hb := B.bytes
  have hr := B.returns
  have hts := atoms_spec (ws := wsX11_twinOf) B.pre
  have hown : s.vm.findClass RX11 = some m.cls := findClass_of_methodNamed B.named
  have hlocks := B.notSynchronized
  have hS : va_S A s.heap s.heap [] := va_S.rf
  have hl := lv_entry ([.ref a]) (n := 2) (Nat.le_of_ble_eq_true rfl)
  rw [lg_entry_eq]
  generalize (lg_sl ([.ref a]) ++ List.replicate (2 - (lg_sl ([.ref a])).length) Slot.unset).toArray = ls at hl ⊢
  have hl : lv_has ls 2 [(0, .ref a)] := hl
  refine lv_aload_n hx hb dX11_twinOf_0 rfl (lv_at hl 0 rfl) ?_
  obtain ⟨k9, hk9⟩ := va_pl_get (X := gFx cy ad jf u) (f := u.2.2.2.2) ha
  refine g_calli (va_runU (As := []) (rest := []) ⟨hx, hb, hml, hown, hts⟩ (kX6_kind_X6 l D cy ad jf A u a nm sp li fd  ha hE ) (va_cwO 0 hts gX11_twinOf_X6_kind_u273X6 rfl rfl rfl (List.mem_cons_of_mem _ (List.mem_append_left _ (List.mem_append_left _ (List.mem_append_left _ (List.mem_append_left _ (List.mem_append_left _ (List.mem_of_getElem? (i := 11) rfl))))))) (by decide +kernel) ⟨by decide, by decide⟩) (g_preD (C := RX6) hG hC hS (hk9.trans (by rw [hE])) rfl) rfl rfl hl.1 rfl (lv_room (Nat.le_of_ble_eq_true rfl)) dX11_twinOf_1 ⟨Nat.le_of_ble_eq_true rfl, Nat.le_of_ble_eq_true rfl⟩) hS (fun r1 u2 H locs p_3 hG hS => ?_)
  obtain ⟨rfl, he_⟩ := p_3
  rw [he_] at hG; clear he_
  refine lv_aload_n hx hb dX11_twinOf_4 rfl (lv_at hl 0 rfl) ?_
  obtain ⟨k9, hk9⟩ := va_pl_get (X := gFx cy ad jf u) (f := u.2.2.2.2) ha
  refine va_get (C := RX6) (T := TX6) (N := 4) (ci := 5) hx hb hts (fun _ h => (List.mem_cons_of_mem _ (List.mem_append_right _ h))) hown hC.1 hG.1 k9 (hk9.trans (by rw [hE])) rfl 0 (by decide) (hts (.fieldLink RX11 275 "StraitSwim$Plain" "number" "I") (List.mem_cons_of_mem _ (List.mem_append_left _ (List.mem_append_left _ (List.mem_append_left _ (List.mem_append_left _ (List.mem_append_left _ (List.mem_of_getElem? (i := 0) rfl)))))))) (fun _ h9 => h9) rfl dX11_twinOf_5 ?_
  refine lv_aload_n hx hb dX11_twinOf_8 rfl (lv_at hl 0 rfl) ?_
  obtain ⟨k9, hk9⟩ := va_pl_get (X := gFx cy ad jf u) (f := u.2.2.2.2) ha
  refine va_get (C := RX6) (T := TX6) (N := 4) (ci := 5) hx hb hts (fun _ h => (List.mem_cons_of_mem _ (List.mem_append_right _ h))) hown hC.1 hG.1 k9 (hk9.trans (by rw [hE])) rfl 1 (by decide) (hts (.fieldLink RX11 276 "StraitSwim$Plain" "speed" "I") (List.mem_cons_of_mem _ (List.mem_append_left _ (List.mem_append_left _ (List.mem_append_left _ (List.mem_append_left _ (List.mem_append_left _ (List.mem_of_getElem? (i := 1) rfl)))))))) (fun _ h9 => h9) rfl dX11_twinOf_9 ?_
  refine lv_aload_n hx hb dX11_twinOf_12 rfl (lv_at hl 0 rfl) ?_
  obtain ⟨k9, hk9⟩ := va_pl_get (X := gFx cy ad jf u) (f := u.2.2.2.2) ha
  refine va_get (C := RX6) (T := TX6) (N := 4) (ci := 5) hx hb hts (fun _ h => (List.mem_cons_of_mem _ (List.mem_append_right _ h))) hown hC.1 hG.1 k9 (hk9.trans (by rw [hE])) rfl 2 (by decide) (hts (.fieldLink RX11 279 "StraitSwim$Plain" "limit" "I") (List.mem_cons_of_mem _ (List.mem_append_left _ (List.mem_append_left _ (List.mem_append_left _ (List.mem_append_left _ (List.mem_append_left _ (List.mem_of_getElem? (i := 2) rfl)))))))) (fun _ h9 => h9) rfl dX11_twinOf_13 ?_
  refine g_callq (va_runS (As := [.int (zI 3), .int (zI nm), .int (zI sp), .int (zI li)]) (rest := []) ⟨hx, hb, hml, hown, hts⟩ (kX11_ofKind l D cy ad jf A u 3 nm sp li (by omega)) (va_cwS 4 hts gX11_twinOf_X11_ofKind rfl rfl rfl (by decide +kernel) ⟨by decide, by decide⟩) (g_preS hG hC hS) rfl rfl hl.1 rfl (lv_room (Nat.le_of_ble_eq_true rfl)) dX11_twinOf_16 ⟨Nat.le_of_ble_eq_true rfl, Nat.le_of_ble_eq_true rfl⟩) hS (fun r4 u5 H locs p_6 hG hS => ?_)
  obtain ⟨q, rfl, hq_, hu5⟩ := p_6
  simp only [va_rf]
  have ha_q : q ∈ u5.2.2.2.1 := by rw [hu5]; exact List.mem_append_right _ List.mem_cons_self
  have hE_q : u5.2.2.2.2 q = .inr (5, [.int (zI nm), .int (zI sp), .int (zI li), .int (zI 0)]) := by rw [hu5, cNewS]; exact up_s _ _ _
  refine lv_astore_n (lv' := [(1, .ref q), (0, .ref a)]) hx hb dX11_twinOf_19 rfl hl (by decide) rfl (fun ls hl => ?_)
  refine lv_aload_n hx hb dX11_twinOf_20 rfl (lv_at hl 0 rfl) ?_
  refine lv_aload_n hx hb dX11_twinOf_21 rfl (lv_at hl 1 rfl) ?_
  have ha_o7 : a ∈ u5.2.2.2.1 := by subst hu5; first | exact ha | exact List.mem_append_left _ ha
  have hE_o7 : u5.2.2.2.2 a = .inr (5, [.int (zI nm), .int (zI sp), .int (zI li), .int (zI fd)]) := by subst hu5; first | exact hE | exact (up_n _ _ (show a ≠ q from fun h => hq_ (h ▸ ha))).trans hE
  obtain ⟨k9, hk9⟩ := va_pl_get (X := gFx cy ad jf u5) (f := u5.2.2.2.2) ha_o7
  refine va_get (C := RX6) (T := TX6) (N := 4) (ci := 5) hx hb hts (fun _ h => (List.mem_cons_of_mem _ (List.mem_append_right _ h))) hown hC.1 hG.1 k9 (hk9.trans (by rw [hE_o7])) rfl 3 (by decide) (hts (.fieldLink RX11 123 "StraitSwim$Plain" "feed" "I") (List.mem_cons_of_mem _ (List.mem_append_left _ (List.mem_append_left _ (List.mem_append_left _ (List.mem_append_left _ (List.mem_append_left _ (List.mem_of_getElem? (i := 3) rfl)))))))) (fun _ h9 => h9) rfl dX11_twinOf_22 ?_
  obtain ⟨k9, hk9⟩ := va_pl_get (X := gFx cy ad jf u5) (f := u5.2.2.2.2) ha_q
  refine va_put (C := RX6) (T := TX6) (N := 4) (ci := 5) (ty := .int) hx hb hts (fun _ h => (List.mem_cons_of_mem _ (List.mem_append_right _ h))) tyX6 tyX6_ok nmX6 hown hC.1 hG.1 hG.2 hS k9 (hk9.trans (by rw [hE_q])) rfl 3 (by decide) (hts (.fieldLink RX11 123 "StraitSwim$Plain" "feed" "I") (List.mem_cons_of_mem _ (List.mem_append_left _ (List.mem_append_left _ (List.mem_append_left _ (List.mem_append_left _ (List.mem_append_left _ (List.mem_of_getElem? (i := 3) rfl)))))))) (fun _ h9 => h9) rfl (by decide +kernel) rfl rfl (Nat.le_of_ble_eq_true rfl) dX11_twinOf_25 (fun H locs hP hD hS => ?_)
  obtain ⟨u8, hu8⟩ : ∃ v : gS, v = sP u5 u5.2.2.2.1 (va_up u5.2.2.2.2 q (.inr (5, [.int (zI nm), .int (zI sp), .int (zI li), .int (zI fd)]))) := ⟨_, rfl⟩
  have hG : gH D cy ad jf A u8 H := by rw [hu8, gH, ← gW_set hG.2 ha_q hk9]; exact ⟨hP, hD⟩
  have ha_u8 : q ∈ u8.2.2.2.1 := by rw [hu8]; exact ha_q
  have hE_u8 : u8.2.2.2.2 q = .inr (5, [.int (zI nm), .int (zI sp), .int (zI li), .int (zI fd)]) := by rw [hu8]; exact up_s _ _ _
  refine lv_aload_n hx hb dX11_twinOf_28 rfl (lv_at hl 0 rfl) ?_
  refine W.widen (k := 1) (n := 4) (Nat.le_of_ble_eq_true rfl) (Nat.le_of_ble_eq_true rfl) ?_
  exact W.aret (v := va_rf (some q)) hx hb hr (Or.inl ⟨_, rfl⟩) (va_rf_or _) (fun t9 ht9_ hW => ⟨⟨some q, u8, rfl, (by refine ⟨_, rfl, hq_, ?_⟩; subst hu8; subst hu5; simp only [cNewS, up_up]), gB.mk' hG hC hS ht9_ hW⟩, hS.F ht9_⟩) hS.2.2 dX11_twinOf_29
