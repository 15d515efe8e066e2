set_option maxHeartbeats 4000000 in
set_option maxRecDepth 100000 in
theorem kX5_init_X5 (l : Launch) (D : va_G) (cy : Nat → ClassId) (ad : Nat → Nat) (jf : Nat → Int64) (A : Nat → Prop) (u : gS) (a : Nat) (p1 p2 : Int) (ha : a ∈ u.2.2.2.1) (hE : u.2.2.2.2 a = .inr (4, [.int (zI 0), .null])) (j_2 : 0 ≤ p2 ∧ p2 ≤ 202) : Met l yX5_init wsX5_init ({ frames := 1, cells := 1, slots := 202, locals := 30 }) (va_Pc [.ref a, .int (zI p1), .int (zI p2)] (gB D cy ad jf A u)) (va_Qv (fun (v : gS) => ∃ b, b ∉ u.2.2.2.1 ∧ v = sP u (u.2.2.2.1 ++ [b]) (va_up (va_up u.2.2.2.2 b (.inl (cy 1, p2.toNat, .inl (fun _ => zI 0)))) a (.inr (4, [.int (zI p1), .ref b])))) (gB D cy ad jf A) A) 1 202 A := by
  refine Met.ofW (cc := cX5_init) (maxL := 3) (ret := none) (by decide) rfl ?_
  intro p e s m args below meth c s₁ B hml hv
  obtain ⟨rfl, hG, hC⟩ := hv
  have hx := B.exec
  have hb := B.bytes
  have hr := B.returns
  have hts := atoms_spec (ws := wsX5_init) B.pre
  have hown : s.vm.findClass RX5 = some m.cls := findClass_of_methodNamed B.named
  have hlocks := B.notSynchronized
  have hS : va_S A s.heap s.heap [] := va_S.rf
  have hl := lv_entry ([.ref a, .int (zI p1), .int (zI p2)]) (n := 3) (Nat.le_of_ble_eq_true rfl)
  rw [lg_entry_eq]
  generalize (lg_sl ([.ref a, .int (zI p1), .int (zI p2)]) ++ List.replicate (3 - (lg_sl ([.ref a, .int (zI p1), .int (zI p2)])).length) Slot.unset).toArray = ls at hl ⊢
  have hl : lv_has ls 3 [(0, .ref a), (1, .int (zI p1)), (2, .int (zI p2))] := hl
  have hin2 : meth.name = "<init>" := (name_of_methodNamed B.named B.method).1
  refine lv_aload_n hx hb dX5_init_0 rfl (lv_at hl 0 rfl) ?_
  refine W.objInit hx hb hown (hts (.methodLink RX5 1 objectInit) (List.mem_cons_of_mem _ (List.mem_append_left _ (List.mem_of_getElem? (i := 0) rfl)))) (hts (.instanceMethod objectInit) (List.mem_cons_of_mem _ (List.mem_append_left _ (List.mem_of_getElem? (i := 1) rfl)))) (hts (.code objectInit ⟨#[0xb1]⟩ 1 none) (List.mem_cons_of_mem _ (List.mem_append_left _ (List.mem_of_getElem? (i := 2) rfl)))) rfl (by rw [hml]; exact hl.1) rfl dX5_init_1 (Nat.le_of_ble_eq_true rfl) (Nat.le_of_ble_eq_true rfl) ?_
  refine W.eq (g2 := F0 m 4 ls []) rfl ?_
  refine lv_aload_n hx hb dX5_init_4 rfl (lv_at hl 0 rfl) ?_
  refine lv_iload_n hx hb dX5_init_5 rfl (lv_at hl 1 rfl) ?_
  obtain ⟨k9, hk9⟩ := va_pl_get (X := gFx cy ad jf u) (f := u.2.2.2.2) ha
  refine va_putF (C := RX5) (T := TX5) (N := 2) (ci := 4) (ty := .int) hx hb hts (fun _ h => (List.mem_cons_of_mem _ (List.mem_append_right _ h))) tyX5 tyX5_ok nmX5 hown hC.1 hG.1 hG.2 hS k9 (hk9.trans (by rw [hE])) rfl 0 (by decide) (hts (.fieldLink RX5 7 "StraitSwim$Row" "kind" "I") (List.mem_cons_of_mem _ (List.mem_append_left _ (List.mem_of_getElem? (i := 3) rfl)))) (fun _ h9 => h9) rfl hin2 rfl (by decide +kernel) rfl rfl (Nat.le_of_ble_eq_true rfl) dX5_init_6 (fun H locs hP hD hS => ?_)
  obtain ⟨u1, hu1⟩ : ∃ v : gS, v = sP u u.2.2.2.1 (va_up u.2.2.2.2 a (.inr (4, [.int (zI p1), .null]))) := ⟨_, rfl⟩
  have hG : gH D cy ad jf A u1 H := by rw [hu1, gH, ← gW_set hG.2 ha hk9]; exact ⟨hP, hD⟩
  have ha_u1 : a ∈ u1.2.2.2.1 := by rw [hu1]; exact ha
  have hE_u1 : u1.2.2.2.2 a = .inr (4, [.int (zI p1), .null]) := by rw [hu1]; exact up_s _ _ _
  refine lv_aload_n hx hb dX5_init_9 rfl (lv_at hl 0 rfl) ?_
  refine lv_iload_n hx hb dX5_init_10 rfl (lv_at hl 2 rfl) ?_
  refine g_newS (z := p2) (M := 202) hx hb (hts (.arrayClass .short) (List.mem_cons_of_mem _ (List.mem_append_left _ (List.mem_of_getElem? (i := 4) rfl)))) hC.1 hG hS hC.2.1 (by omega) (by omega) (by omega) (Nat.le_of_ble_eq_true rfl) (Nat.le_of_ble_eq_true rfl) dX5_init_11 (fun n2 u3 H hq_ hu3 hG hS => ?_)
  have ha_n2 : n2 ∈ u3.2.2.2.1 := by rw [hu3]; exact List.mem_append_right _ List.mem_cons_self
  have hE_n2 : u3.2.2.2.2 n2 = .inl (cy 1, p2.toNat, .inl (fun _ => zI 0)) := by rw [hu3]; exact up_s _ _ _
  have ha_o4 : a ∈ u3.2.2.2.1 := by subst hu3; subst hu1; first | exact ha_u1 | exact List.mem_append_left _ ha_u1
  have hE_o4 : u3.2.2.2.2 a = .inr (4, [.int (zI p1), .null]) := by subst hu3; subst hu1; first | exact hE_u1 | exact (up_n _ _ (show a ≠ n2 from fun h => hq_ (h ▸ ha_u1))).trans hE_u1
  obtain ⟨k9, hk9⟩ := va_pl_get (X := gFx cy ad jf u3) (f := u3.2.2.2.2) ha_o4
  refine va_putF (C := RX5) (T := TX5) (N := 2) (ci := 4) (ty := .array .short) hx hb hts (fun _ h => (List.mem_cons_of_mem _ (List.mem_append_right _ h))) tyX5 tyX5_ok nmX5 hown hC.1 hG.1 hG.2 hS k9 (hk9.trans (by rw [hE_o4])) rfl 1 (by decide) (hts (.fieldLink RX5 13 "StraitSwim$Row" "items" "[S") (List.mem_cons_of_mem _ (List.mem_append_left _ (List.mem_of_getElem? (i := 5) rfl)))) (fun _ h9 => h9) rfl hin2 rfl (by decide +kernel) rfl rfl (Nat.le_of_ble_eq_true rfl) dX5_init_13 (fun H locs hP hD hS => ?_)
  obtain ⟨u5, hu5⟩ : ∃ v : gS, v = sP u3 u3.2.2.2.1 (va_up u3.2.2.2.2 a (.inr (4, [.int (zI p1), .ref n2]))) := ⟨_, rfl⟩
  have hG : gH D cy ad jf A u5 H := by rw [hu5, gH, ← gW_set hG.2 ha_o4 hk9]; exact ⟨hP, hD⟩
  have ha_u5 : a ∈ u5.2.2.2.1 := by rw [hu5]; exact ha_o4
  have hE_u5 : u5.2.2.2.2 a = .inr (4, [.int (zI p1), .ref n2]) := by rw [hu5]; exact up_s _ _ _
  refine W.widen (k := 1) (n := 202) (Nat.le_of_ble_eq_true rfl) (Nat.le_of_ble_eq_true rfl) ?_
  exact W.vret hx hb hr (fun t9 ht9_ hW => ⟨⟨u5, rfl, (by refine ⟨n2, (by subst hu1; exact hq_), ?_⟩; subst hu5; subst hu3; subst hu1; simp only [up_aba, up_up]), gB.mk' hG hC hS ht9_ hW⟩, hS.F ht9_⟩) hS.2.2 dX5_init_16
set_option maxHeartbeats 4000000 in
set_option maxRecDepth 100000 in
theorem kX5_spans_X5 (l : Launch) (D : va_G) (cy : Nat → ClassId) (ad : Nat → Nat) (jf : Nat → Int64) (A : Nat → Prop) (u : gS) (a b n : Nat) (k : Int) (g : Nat → Int) (p1 p2 : Int) (ha : a ∈ u.2.2.2.1) (hE : u.2.2.2.2 a = .inr (4, [.int (zI k), .ref b])) (hbm : b ∈ u.2.2.2.1) (hEb : u.2.2.2.2 b = .inl (cy 1, n, .inl (fun j => zI (g j)))) (j_p1 : -2147483648 ≤ p1 ∧ p1 < 2147483648) (j_p2 : -2147483648 ≤ p2 ∧ p2 < 2147483648) (hn : n ≤ 202) : Met l yX5_spans wsX5_spans ({ frames := 0, cells := 0, slots := 0, locals := 0 }) (va_Pc [.ref a, .int (zI p1), .int (zI p2)] (gB D cy ad jf A u)) (va_Qi (fun (r : Int32) (v : gS) => (∃ b : Int, r = zI b ∧ (b = 1 ∧ (0 ≤ p1 ∧ 0 ≤ p2) ∧ p1 ≤ n ∧ p2 ≤ n - p1 ∨ b = 0 ∧ ¬ ((0 ≤ p1 ∧ 0 ≤ p2) ∧ p1 ≤ n ∧ p2 ≤ n - p1))) ∧ v = u) (gB D cy ad jf A) A) 0 0 A := by
  refine Met.ofW (cc := cX5_spans) (maxL := 3) (ret := (some .boolean)) (by decide) rfl ?_
  intro p e s m args below meth c s₁ B hml hv
  obtain ⟨rfl, hG, hC⟩ := hv
  have hx := B.exec
  have hb := B.bytes
  have hr := B.returns
  have hts := atoms_spec (ws := wsX5_spans) B.pre
  have hown : s.vm.findClass RX5 = some m.cls := findClass_of_methodNamed B.named
  have hlocks := B.notSynchronized
  have hS : va_S A s.heap s.heap [] := va_S.rf
  have hl := lv_entry ([.ref a, .int (zI p1), .int (zI p2)]) (n := 3) (Nat.le_of_ble_eq_true rfl)
  rw [lg_entry_eq]
  generalize (lg_sl ([.ref a, .int (zI p1), .int (zI p2)]) ++ List.replicate (3 - (lg_sl ([.ref a, .int (zI p1), .int (zI p2)])).length) Slot.unset).toArray = ls at hl ⊢
  have hl : lv_has ls 3 [(0, .ref a), (1, .int (zI p1)), (2, .int (zI p2))] := hl
  refine lv_iload_n hx hb dX5_spans_0 rfl (lv_at hl 1 rfl) ?_
  refine z_if_lt (tgt := 32) hx hb dX5_spans_1 (by decide) (by omega) (by omega) (fun c_1 => ?_) (fun c_1 => ?_)
  · refine z_iconst hx hb dX5_spans_32 ?_
    exact W.zret (ty := .boolean) (v := zI 0) hx hb hr (nar_b (by omega)) (fun t9 ht9_ hW => ⟨⟨zI 0, u, rfl, (by exact ⟨⟨0, rfl, by omega⟩, rfl⟩), gB.mk' hG hC hS ht9_ hW⟩, hS.F ht9_⟩) hS.2.2 dX5_spans_33
  · refine lv_iload_n hx hb dX5_spans_4 rfl (lv_at hl 2 rfl) ?_
    refine z_if_lt (tgt := 32) hx hb dX5_spans_5 (by decide) (by omega) (by omega) (fun c_2 => ?_) (fun c_2 => ?_)
    · refine z_iconst hx hb dX5_spans_32 ?_
      exact W.zret (ty := .boolean) (v := zI 0) hx hb hr (nar_b (by omega)) (fun t9 ht9_ hW => ⟨⟨zI 0, u, rfl, (by exact ⟨⟨0, rfl, by omega⟩, rfl⟩), gB.mk' hG hC hS ht9_ hW⟩, hS.F ht9_⟩) hS.2.2 dX5_spans_33
    · refine lv_iload_n hx hb dX5_spans_8 rfl (lv_at hl 1 rfl) ?_
      refine lv_aload_n hx hb dX5_spans_9 rfl (lv_at hl 0 rfl) ?_
      obtain ⟨k9, hk9⟩ := va_pl_get (X := gFx cy ad jf u) (f := u.2.2.2.2) ha
      refine va_get (C := RX5) (T := TX5) (N := 2) (ci := 4) hx hb hts (fun _ h => (List.mem_cons_of_mem _ (List.mem_append_right _ h))) hown hC.1 hG.1 k9 (hk9.trans (by rw [hE])) rfl 1 (by decide) (hts (.fieldLink RX5 13 "StraitSwim$Row" "items" "[S") (List.mem_cons_of_mem _ (List.mem_append_left _ (List.mem_of_getElem? (i := 0) rfl)))) (fun _ h9 => h9) rfl dX5_spans_10 ?_
      refine g_alenP hx hb hC.1 hG hbm hEb dX5_spans_13 ?_
      refine z_icmp_gt (tgt := 32) hx hb dX5_spans_14 (by decide) (by omega) (by omega) (by omega) (by omega) (fun c_3 => ?_) (fun c_3 => ?_)
      · refine z_iconst hx hb dX5_spans_32 ?_
        exact W.zret (ty := .boolean) (v := zI 0) hx hb hr (nar_b (by omega)) (fun t9 ht9_ hW => ⟨⟨zI 0, u, rfl, (by exact ⟨⟨0, rfl, by omega⟩, rfl⟩), gB.mk' hG hC hS ht9_ hW⟩, hS.F ht9_⟩) hS.2.2 dX5_spans_33
      · refine lv_iload_n hx hb dX5_spans_17 rfl (lv_at hl 2 rfl) ?_
        refine lv_aload_n hx hb dX5_spans_18 rfl (lv_at hl 0 rfl) ?_
        obtain ⟨k9, hk9⟩ := va_pl_get (X := gFx cy ad jf u) (f := u.2.2.2.2) ha
        refine va_get (C := RX5) (T := TX5) (N := 2) (ci := 4) hx hb hts (fun _ h => (List.mem_cons_of_mem _ (List.mem_append_right _ h))) hown hC.1 hG.1 k9 (hk9.trans (by rw [hE])) rfl 1 (by decide) (hts (.fieldLink RX5 13 "StraitSwim$Row" "items" "[S") (List.mem_cons_of_mem _ (List.mem_append_left _ (List.mem_of_getElem? (i := 0) rfl)))) (fun _ h9 => h9) rfl dX5_spans_19 ?_
        refine g_alenP hx hb hC.1 hG hbm hEb dX5_spans_22 ?_
        refine lv_iload_n hx hb dX5_spans_23 rfl (lv_at hl 1 rfl) ?_
        refine z_isub hx hb dX5_spans_24 ?_
        refine z_icmp_gt (tgt := 32) hx hb dX5_spans_25 (by decide) (by omega) (by omega) (by omega) (by omega) (fun c_4 => ?_) (fun c_4 => ?_)
        · refine z_iconst hx hb dX5_spans_32 ?_
          exact W.zret (ty := .boolean) (v := zI 0) hx hb hr (nar_b (by omega)) (fun t9 ht9_ hW => ⟨⟨zI 0, u, rfl, (by exact ⟨⟨0, rfl, by omega⟩, rfl⟩), gB.mk' hG hC hS ht9_ hW⟩, hS.F ht9_⟩) hS.2.2 dX5_spans_33
        · refine z_iconst hx hb dX5_spans_28 ?_
          refine lv_goto (tgt := 33) hx hb dX5_spans_29 (by decide) ?_
          exact W.zret (ty := .boolean) (v := zI 1) hx hb hr (nar_b (by omega)) (fun t9 ht9_ hW => ⟨⟨zI 1, u, rfl, (by exact ⟨⟨1, rfl, by omega⟩, rfl⟩), gB.mk' hG hC hS ht9_ hW⟩, hS.F ht9_⟩) hS.2.2 dX5_spans_33
set_option maxHeartbeats 4000000 in
set_option maxRecDepth 100000 in
theorem kX11_rowOfLatest (l : Launch) (D : va_G) (cy : Nat → ClassId) (ad : Nat → Nat) (jf : Nat → Int64) (A : Nat → Prop) (u : gS) (hq : 0 ≤ u.1 6 ∧ u.1 6 ≤ 100) (i13 : ∀ j, j < 101 → 0 ≤ u.2.1 13 j ∧ u.2.1 13 j ≤ 239) (i14 : ∀ j, j < 101 → 0 ≤ u.2.1 14 j ∧ u.2.1 14 j ≤ 119) : Met l yX11_rowOfLatest wsX11_rowOfLatest ({ frames := 6, cells := 2, slots := 204, locals := 146 }) (va_Pc [.ref (ad 0)] (gB D cy ad jf A u)) (va_Qq (fun (r : Option Nat) (v : gS) => ∃ q b g, r = some q ∧ q ∉ u.2.2.2.1 ∧ b ∉ u.2.2.2.1 ∧ q ≠ b ∧ v = cRow cy u q b 3 (cRowN u).toNat g ∧ ∀ j : Nat, (j : Int) < cRowN u → g j = rowXY u j) (gB D cy ad jf A) A) 2 204 A := by
  refine Met.ofW (cc := cX11_rowOfLatest) (maxL := 4) (ret := (some (.object "StraitSwim$Row"))) (by decide) rfl ?_
  intro p e s m args below meth c s₁ B hml hv
  obtain ⟨rfl, hG, hC⟩ := hv
  have hx := B.exec
  have hb := B.bytes
  have hr := B.returns
  have hts := atoms_spec (ws := wsX11_rowOfLatest) B.pre
  have hown : s.vm.findClass RX11 = some m.cls := findClass_of_methodNamed B.named
  have hlocks := B.notSynchronized
  have hS : va_S A s.heap s.heap [] := va_S.rf
  have hl := lv_entry ([.ref (ad 0)]) (n := 4) (Nat.le_of_ble_eq_true rfl)
  rw [lg_entry_eq]
  generalize (lg_sl ([.ref (ad 0)]) ++ List.replicate (4 - (lg_sl ([.ref (ad 0)])).length) Slot.unset).toArray = ls at hl ⊢
  have hl : lv_has ls 4 [(0, .ref (ad 0))] := hl
  refine lv_aload_n hx hb dX11_rowOfLatest_0 rfl (lv_at hl 0 rfl) ?_
  refine g_get (C := RX11) (T := TX11) (N := 14) (ci := 10) hx hb hts (fun _ h => (List.mem_cons_of_mem _ (List.mem_append_left _ (List.mem_append_left _ (List.mem_append_right _ h))))) hown hC.1 hG 0 (by decide) rfl rfl 5 (by decide) (hts (.fieldLink RX11 35 "StraitSwim" "latest" "LStraitSwim$Swim;") (List.mem_cons_of_mem _ (List.mem_append_left _ (List.mem_append_left _ (List.mem_append_left _ (List.mem_of_getElem? (i := 0) rfl)))))) (fun _ h9 => h9) rfl dX11_rowOfLatest_1 ?_
  refine g_calli (va_runV (As := []) (rest := []) ⟨hx, hb, hml, hown, hts⟩ (kX9_hasBeen_2 l D cy ad jf A u  hq) (cwV 0 hts gX11_rowOfLatest_X9_hasBeen rfl rfl rfl (by decide +kernel) ⟨by decide, by decide⟩) (g_preV (C := RX9) hG hC hS 2 (by decide) rfl rfl) rfl rfl hl.1 rfl (lv_room (Nat.le_of_ble_eq_true rfl)) dX11_rowOfLatest_4 ⟨Nat.le_of_ble_eq_true rfl, Nat.le_of_ble_eq_true rfl⟩) hS (fun r1 u2 H locs p_3 hG hS => ?_)
  obtain ⟨⟨b4, rfl, q_5⟩, he_⟩ := p_3
  rw [he_] at hG; clear he_
  have hbb4 : 0 ≤ b4 ∧ b4 ≤ 1 := by rcases q_5 with ⟨h, _⟩ | ⟨h, _⟩ <;> omega
  refine z_if_eq (tgt := 22) hx hb dX11_rowOfLatest_7 (by decide) (by omega) (by omega) (fun c_6 => ?_) (fun c_6 => ?_)
  · refine z_iconst hx hb dX11_rowOfLatest_22 ?_
    obtain ⟨pl, hpl⟩ : ∃ z : Int, z = 0 := ⟨_, rfl⟩
    rw [← hpl]
    refine lv_istore_n (lv' := [(1, .int (zI pl)), (0, .ref (ad 0))]) hx hb dX11_rowOfLatest_23 rfl hl (by decide) rfl (fun ls hl => ?_)
    refine va_new (ci := 4) (fs := [.int (zI 0), .null]) (C := RX5) (T := TX5) (N := 2) hx hb hts (fun _ h => (List.mem_cons_of_mem _ (List.mem_append_right _ h))) tyX5 tyX5_ok hown (hts (.classLink RX11 226 RX5) (List.mem_cons_of_mem _ (List.mem_append_left _ (List.mem_append_left _ (List.mem_append_left _ (List.mem_of_getElem? (i := 2) rfl)))))) (hts (.instantiable RX5 2) (List.mem_cons_of_mem _ (List.mem_append_left _ (List.mem_append_left _ (List.mem_append_left _ (List.mem_of_getElem? (i := 3) rfl)))))) (hts (.initialized RX5) (List.mem_cons_of_mem _ (List.mem_append_left _ (List.mem_append_left _ (List.mem_append_left _ (List.mem_of_getElem? (i := 4) rfl)))))) hC.1 hG.1 hG.2 hS hC.2.1 rfl (fun j hj => by rcases (show j = 0 ∨ j = 1 by omega) with rfl | rfl <;> rfl) (Nat.le_of_ble_eq_true rfl) (Nat.le_of_ble_eq_true rfl) dX11_rowOfLatest_24 (fun n7 H hP hD hS => ?_)
    have hq_ := va_pl_fresh2 hD
    obtain ⟨u8, hu8⟩ : ∃ v : gS, v = sP u (u.2.2.2.1 ++ [n7]) (va_up u.2.2.2.2 n7 (.inr (4, [.int (zI 0), .null]))) := ⟨_, rfl⟩
    have hG : gH D cy ad jf A u8 H := by rw [hu8, gH, ← gW_push hq_]; exact ⟨hP, hD⟩
    have ha_n7 : n7 ∈ u8.2.2.2.1 := by rw [hu8]; exact List.mem_append_right _ List.mem_cons_self
    have hE_n7 : u8.2.2.2.2 n7 = .inr (4, [.int (zI 0), .null]) := by rw [hu8]; exact up_s _ _ _
    refine lv_dup hx hb dX11_rowOfLatest_27 rfl ?_
    refine z_iconst hx hb dX11_rowOfLatest_28 ?_
    refine z_iconst hx hb dX11_rowOfLatest_29 ?_
    refine lv_iload_n hx hb dX11_rowOfLatest_30 rfl (lv_at hl 0 rfl) ?_
    refine z_imul hx hb dX11_rowOfLatest_31 ?_
    refine g_callv (va_runI (As := [.int (zI 3), .int (zI (2 * pl))]) (rest := [.ref n7]) ⟨hx, hb, hml, hown, hts⟩ (kX5_init_X5 l D cy ad jf A u8 n7 3 (2 * pl) ha_n7 hE_n7 (by omega)) (cwI 2 hts gX11_rowOfLatest_X5_init rfl rfl rfl (hts (.initialized RX5) (List.mem_cons_of_mem _ (List.mem_append_left _ (List.mem_append_left _ (List.mem_append_left _ (List.mem_of_getElem? (i := 4) rfl)))))) (hts (.methodLink RX11 228 yX5_init) (List.mem_cons_of_mem _ (List.mem_append_left _ (List.mem_append_left _ (List.mem_append_left _ (List.mem_of_getElem? (i := 14) rfl)))))) (hts (.instanceMethod yX5_init) (List.mem_cons_of_mem _ (List.mem_append_left _ (List.mem_append_left _ (List.mem_append_left _ (List.mem_of_getElem? (i := 15) rfl)))))) rfl (by decide +kernel) ⟨by decide, by decide⟩) (g_preS hG hC hS) rfl rfl hl.1 rfl (lv_room (Nat.le_of_ble_eq_true rfl)) dX11_rowOfLatest_32 ⟨Nat.le_of_ble_eq_true rfl, Nat.le_of_ble_eq_true rfl⟩) hS (fun u9 H locs hu9 hG hS => ?_)
    obtain ⟨b10, hb0, hu9⟩ := hu9
    rw [hu8] at hb0
    have hqb : n7 ≠ b10 := fun h => hb0 (h ▸ List.mem_append_right _ List.mem_cons_self)
    have hbL : b10 ∉ u.2.2.2.1 := fun h => hb0 (List.mem_append_left _ h)
    have hu9c : u9 = cRow cy u n7 b10 3 (2 * pl).toNat (fun _ => 0) := by rw [hu9, hu8]; unfold cRow; simp only [up_aba]
    have hqL := hq_
    have ha_r : n7 ∈ u9.2.2.2.1 := by rw [hu9c]; exact cRow_q
    have hE_r : u9.2.2.2.2 n7 = .inr (4, [.int (zI 3), .ref b10]) := by rw [hu9c]; exact up_s _ _ _
    have ha_s : b10 ∈ u9.2.2.2.1 := by rw [hu9c]; exact cRow_b
    have hE_s : u9.2.2.2.2 b10 = .inl (cy 1, (2 * pl).toNat, .inl (fun j => zI ((fun _ => 0 : Nat → Int) j))) := by rw [hu9c]; exact cRow_E hqb
    refine lv_astore_n (lv' := [(2, .ref n7), (1, .int (zI pl)), (0, .ref (ad 0))]) hx hb dX11_rowOfLatest_35 rfl hl (by decide) rfl (fun ls hl => ?_)
    refine z_iconst hx hb dX11_rowOfLatest_36 ?_
    refine lv_istore_n (lv' := [(3, .int (zI 0)), (2, .ref n7), (1, .int (zI pl)), (0, .ref (ad 0))]) hx hb dX11_rowOfLatest_37 rfl hl (by decide) rfl (fun ls hl => ?_)
    have loop38 : ∀ (n : Nat) (t : Int) (w : gS) (H : Heap) (locs : List Loc) (ls : Array Slot), (pl - t).toNat < n → (0 ≤ t ∧ t ≤ pl) → (∃ g, w = cRow cy u n7 b10 3 (2 * pl).toNat g ∧ ∀ j : Nat, (j : Int) < 2 * t → g j = rowXY u j) → gH D cy ad jf A w H → va_S A s.heap H locs → lv_has ls 4 [(3, .int (zI t)), (2, .ref n7), (1, .int (zI pl)), (0, .ref (ad 0))] → W p l e (headSpec wsX11_rowOfLatest ({ frames := 6, cells := 2, slots := 204, locals := 146 })).room s m ([.ref (ad 0)]).toArray below meth c H locs 2 204 (MQ below (va_Qq (fun (r : Option Nat) (v : gS) => ∃ q b g, r = some q ∧ q ∉ u.2.2.2.1 ∧ b ∉ u.2.2.2.1 ∧ q ≠ b ∧ v = cRow cy u q b 3 (cRowN u).toNat g ∧ ∀ j : Nat, (j : Int) < cRowN u → g j = rowXY u j) (gB D cy ad jf A) A) ([.ref (ad 0)]).toArray s 2 204 A) (F0 m 38 ls []) := by
      intro n
      induction n with
      | zero => intro t w H locs ls hm; exact absurd hm (Nat.not_lt_zero _)
      | succ n ih38 =>
        intro t w H locs ls hm ht hw hG hS hl
        obtain ⟨g, hw0, hg⟩ := hw
        have ha_w : n7 ∈ w.2.2.2.1 := by rw [hw0]; exact cRow_q
        have hE_w : w.2.2.2.2 n7 = .inr (4, [.int (zI 3), .ref b10]) := by rw [hw0]; exact up_s _ _ _
        have ha_v : b10 ∈ w.2.2.2.1 := by rw [hw0]; exact cRow_b
        have hE_v : w.2.2.2.2 b10 = .inl (cy 1, (2 * pl).toNat, .inl (fun j => zI (g j))) := by rw [hw0]; exact cRow_E hqb
        have i13w : ∀ j, j < 101 → 0 ≤ w.2.1 13 j ∧ w.2.1 13 j ≤ 239 := by rw [hw0]; exact i13
        have i14w : ∀ j, j < 101 → 0 ≤ w.2.1 14 j ∧ w.2.1 14 j ≤ 119 := by rw [hw0]; exact i14
        refine lv_iload_n hx hb dX11_rowOfLatest_38 rfl (lv_at hl 0 rfl) ?_
        refine lv_iload_n hx hb dX11_rowOfLatest_39 rfl (lv_at hl 2 rfl) ?_
        refine z_icmp_ge (tgt := 87) hx hb dX11_rowOfLatest_40 (by decide) (by omega) (by omega) (by omega) (by omega) (fun c_11 => ?_) (fun c_11 => ?_)
        · refine lv_aload_n hx hb dX11_rowOfLatest_87 rfl (lv_at hl 1 rfl) ?_
          refine W.widen (k := 2) (n := 204) (Nat.le_of_ble_eq_true rfl) (Nat.le_of_ble_eq_true rfl) ?_
          exact W.aret (v := va_rf (some n7)) hx hb hr (Or.inl ⟨_, rfl⟩) (va_rf_or _) (fun t9 ht9_ hW => ⟨⟨some n7, w, rfl, (by refine ⟨n7, b10, g, rfl, hqL, hbL, hqb, ?_, ?_⟩; (have hN : cRowN u = 2 * pl := by (unfold cRowN; first | (rw [if_pos (by omega)]; omega) | (rw [if_neg (by omega)]; omega))); (rw [hN]; exact hw0); (have hN : cRowN u = 2 * pl := by (unfold cRowN; first | (rw [if_pos (by omega)]; omega) | (rw [if_neg (by omega)]; omega))); (intro j hj; exact hg j (by omega))), gB.mk' hG hC hS ht9_ hW⟩, hS.F ht9_⟩) hS.2.2 dX11_rowOfLatest_88
        · refine lv_aload_n hx hb dX11_rowOfLatest_43 rfl (lv_at hl 1 rfl) ?_
          obtain ⟨k9, hk9⟩ := va_pl_get (X := gFx cy ad jf w) (f := w.2.2.2.2) ha_w
          refine va_get (C := RX5) (T := TX5) (N := 2) (ci := 4) hx hb hts (fun _ h => (List.mem_cons_of_mem _ (List.mem_append_right _ h))) hown hC.1 hG.1 k9 (hk9.trans (by rw [hE_w])) rfl 1 (by decide) (hts (.fieldLink RX11 233 "StraitSwim$Row" "items" "[S") (List.mem_cons_of_mem _ (List.mem_append_left _ (List.mem_append_left _ (List.mem_append_left _ (List.mem_of_getElem? (i := 5) rfl)))))) (fun _ h9 => h9) rfl dX11_rowOfLatest_44 ?_
          refine z_iconst hx hb dX11_rowOfLatest_47 ?_
          refine lv_iload_n hx hb dX11_rowOfLatest_48 rfl (lv_at hl 0 rfl) ?_
          refine z_imul hx hb dX11_rowOfLatest_49 ?_
          refine lv_aload_n hx hb dX11_rowOfLatest_50 rfl (lv_at hl 3 rfl) ?_
          refine g_get (C := RX11) (T := TX11) (N := 14) (ci := 10) hx hb hts (fun _ h => (List.mem_cons_of_mem _ (List.mem_append_left _ (List.mem_append_left _ (List.mem_append_right _ h))))) hown hC.1 hG 0 (by decide) rfl rfl 5 (by decide) (hts (.fieldLink RX11 35 "StraitSwim" "latest" "LStraitSwim$Swim;") (List.mem_cons_of_mem _ (List.mem_append_left _ (List.mem_append_left _ (List.mem_append_left _ (List.mem_of_getElem? (i := 0) rfl)))))) (fun _ h9 => h9) rfl dX11_rowOfLatest_51 ?_
          refine g_get (C := RX9) (T := TX9) (N := 9) (ci := 8) hx hb hts (fun _ h => (List.mem_cons_of_mem _ (List.mem_append_left _ (List.mem_append_right _ h)))) hown hC.1 hG 2 (by decide) rfl rfl 3 (by decide) (hts (.fieldLink RX11 145 "StraitSwim$Swim" "xs" "[I") (List.mem_cons_of_mem _ (List.mem_append_left _ (List.mem_append_left _ (List.mem_append_left _ (List.mem_of_getElem? (i := 6) rfl)))))) (fun _ h9 => h9) rfl dX11_rowOfLatest_54 ?_
          refine lv_iload_n hx hb dX11_rowOfLatest_57 rfl (lv_at hl 0 rfl) ?_
          refine g_iald (n := 101) hx hb hC.1 hG 13 (by decide) rfl (by omega) (by omega) (by decide) dX11_rowOfLatest_58 ?_
          have q_12 := i13w t.toNat (by omega)
          refine z_i2s hx hb dX11_rowOfLatest_59 ?_
          rw [bShort_id (z := w.2.1 13 t.toNat) (by omega) (by omega)]
          refine g_sastP (n := (2 * pl).toNat) (g := g) (z := 2 * t) (x := w.2.1 13 t.toNat) hx hb hC.1 hG hS ha_v hE_v (by omega) (by omega) (by omega) (by omega) dX11_rowOfLatest_60 (fun u13 H locs hu13 hG hS => ?_)
          have ha_u13 : b10 ∈ u13.2.2.2.1 := by rw [hu13]; exact ha_v
          have hE_u13 : u13.2.2.2.2 b10 = .inl (cy 1, (2 * pl).toNat, .inl (fun j => zI ((va_up g (2 * t).toNat (w.2.1 13 t.toNat)) j))) := by rw [hu13]; exact up_s _ _ _
          have ha_n7u13 : n7 ∈ u13.2.2.2.1 := by rw [hu13]; exact ha_w
          have hE_n7u13 : u13.2.2.2.2 n7 = .inr (4, [.int (zI 3), .ref b10]) := by rw [hu13]; exact (up_n _ _ (show n7 ≠ b10 from hqb)).trans hE_w
          refine lv_aload_n hx hb dX11_rowOfLatest_61 rfl (lv_at hl 1 rfl) ?_
          obtain ⟨k9, hk9⟩ := va_pl_get (X := gFx cy ad jf u13) (f := u13.2.2.2.2) ha_n7u13
          refine va_get (C := RX5) (T := TX5) (N := 2) (ci := 4) hx hb hts (fun _ h => (List.mem_cons_of_mem _ (List.mem_append_right _ h))) hown hC.1 hG.1 k9 (hk9.trans (by rw [hE_n7u13])) rfl 1 (by decide) (hts (.fieldLink RX11 233 "StraitSwim$Row" "items" "[S") (List.mem_cons_of_mem _ (List.mem_append_left _ (List.mem_append_left _ (List.mem_append_left _ (List.mem_of_getElem? (i := 5) rfl)))))) (fun _ h9 => h9) rfl dX11_rowOfLatest_62 ?_
          refine z_iconst hx hb dX11_rowOfLatest_65 ?_
          refine lv_iload_n hx hb dX11_rowOfLatest_66 rfl (lv_at hl 0 rfl) ?_
          refine z_imul hx hb dX11_rowOfLatest_67 ?_
          refine z_iconst hx hb dX11_rowOfLatest_68 ?_
          refine z_iadd hx hb dX11_rowOfLatest_69 ?_
          refine lv_aload_n hx hb dX11_rowOfLatest_70 rfl (lv_at hl 3 rfl) ?_
          refine g_get (C := RX11) (T := TX11) (N := 14) (ci := 10) hx hb hts (fun _ h => (List.mem_cons_of_mem _ (List.mem_append_left _ (List.mem_append_left _ (List.mem_append_right _ h))))) hown hC.1 hG 0 (by decide) rfl rfl 5 (by decide) (hts (.fieldLink RX11 35 "StraitSwim" "latest" "LStraitSwim$Swim;") (List.mem_cons_of_mem _ (List.mem_append_left _ (List.mem_append_left _ (List.mem_append_left _ (List.mem_of_getElem? (i := 0) rfl)))))) (fun _ h9 => h9) rfl dX11_rowOfLatest_71 ?_
          refine g_get (C := RX9) (T := TX9) (N := 9) (ci := 8) hx hb hts (fun _ h => (List.mem_cons_of_mem _ (List.mem_append_left _ (List.mem_append_right _ h)))) hown hC.1 hG 2 (by decide) rfl rfl 4 (by decide) (hts (.fieldLink RX11 151 "StraitSwim$Swim" "ys" "[I") (List.mem_cons_of_mem _ (List.mem_append_left _ (List.mem_append_left _ (List.mem_append_left _ (List.mem_of_getElem? (i := 7) rfl)))))) (fun _ h9 => h9) rfl dX11_rowOfLatest_74 ?_
          refine lv_iload_n hx hb dX11_rowOfLatest_77 rfl (lv_at hl 0 rfl) ?_
          refine g_iald (n := 101) hx hb hC.1 hG 14 (by decide) rfl (by omega) (by omega) (by decide) dX11_rowOfLatest_78 ?_
          have e_14 : u13.2.1 14 = w.2.1 14 := by subst hu13; rfl
          rw [e_14]
          have q_15 := i14w t.toNat (by omega)
          refine z_i2s hx hb dX11_rowOfLatest_79 ?_
          rw [bShort_id (z := w.2.1 14 t.toNat) (by omega) (by omega)]
          refine g_sastP (n := (2 * pl).toNat) (g := (va_up g (2 * t).toNat (w.2.1 13 t.toNat))) (z := (2 * t) + 1) (x := w.2.1 14 t.toNat) hx hb hC.1 hG hS ha_u13 hE_u13 (by omega) (by omega) (by omega) (by omega) dX11_rowOfLatest_80 (fun u16 H locs hu16 hG hS => ?_)
          have ha_u16 : b10 ∈ u16.2.2.2.1 := by rw [hu16]; exact ha_u13
          have hE_u16 : u16.2.2.2.2 b10 = .inl (cy 1, (2 * pl).toNat, .inl (fun j => zI ((va_up ((va_up g (2 * t).toNat (w.2.1 13 t.toNat))) ((2 * t) + 1).toNat (w.2.1 14 t.toNat)) j))) := by rw [hu16]; exact up_s _ _ _
          have ha_n7u16 : n7 ∈ u16.2.2.2.1 := by rw [hu16]; exact ha_n7u13
          have hE_n7u16 : u16.2.2.2.2 n7 = .inr (4, [.int (zI 3), .ref b10]) := by rw [hu16]; exact (up_n _ _ (show n7 ≠ b10 from hqb)).trans hE_n7u13
          refine z_iinc (lv' := [(3, .int (zI (t + 1))), (2, .ref n7), (1, .int (zI pl)), (0, .ref (ad 0))]) hx hb dX11_rowOfLatest_81 hl (k := 0) rfl (by decide) rfl (fun ls hl => ?_)
          refine lv_goto (tgt := 38) hx hb dX11_rowOfLatest_84 (by decide) ?_
          exact ih38 (t + 1) u16 _ _ _ (by omega) (by omega) (by subst hu16; subst hu13; subst hw0; exact ⟨_, (by unfold cRow; simp only [up_bab _ _ _ _ hqb]), rowXY_st ht.1 hg⟩) hG hS (lv_sub hl [0, 1, 2, 3] rfl)
    exact loop38 _ 0 u9 _ _ _ (Nat.lt_succ_self _) (by omega) (by exact ⟨_, hu9c, (fun j hj => by exfalso; omega)⟩) hG hS (lv_sub hl [0, 1, 2, 3] rfl)
  · refine lv_aload_n hx hb dX11_rowOfLatest_10 rfl (lv_at hl 0 rfl) ?_
    refine g_get (C := RX11) (T := TX11) (N := 14) (ci := 10) hx hb hts (fun _ h => (List.mem_cons_of_mem _ (List.mem_append_left _ (List.mem_append_left _ (List.mem_append_right _ h))))) hown hC.1 hG 0 (by decide) rfl rfl 5 (by decide) (hts (.fieldLink RX11 35 "StraitSwim" "latest" "LStraitSwim$Swim;") (List.mem_cons_of_mem _ (List.mem_append_left _ (List.mem_append_left _ (List.mem_append_left _ (List.mem_of_getElem? (i := 0) rfl)))))) (fun _ h9 => h9) rfl dX11_rowOfLatest_11 ?_
    refine g_get (C := RX9) (T := TX9) (N := 9) (ci := 8) hx hb hts (fun _ h => (List.mem_cons_of_mem _ (List.mem_append_left _ (List.mem_append_right _ h)))) hown hC.1 hG 2 (by decide) rfl rfl 1 (by decide) (hts (.fieldLink RX11 148 "StraitSwim$Swim" "quarters" "I") (List.mem_cons_of_mem _ (List.mem_append_left _ (List.mem_append_left _ (List.mem_append_left _ (List.mem_of_getElem? (i := 1) rfl)))))) (fun _ h9 => h9) rfl dX11_rowOfLatest_14 ?_
    refine z_iconst hx hb dX11_rowOfLatest_17 ?_
    refine z_iadd hx hb dX11_rowOfLatest_18 ?_
    refine lv_goto (tgt := 23) hx hb dX11_rowOfLatest_19 (by decide) ?_
    obtain ⟨pl, hpl⟩ : ∃ z : Int, z = (u.1 6) + 1 := ⟨_, rfl⟩
    rw [← hpl]
    refine lv_istore_n (lv' := [(1, .int (zI pl)), (0, .ref (ad 0))]) hx hb dX11_rowOfLatest_23 rfl hl (by decide) rfl (fun ls hl => ?_)
    refine va_new (ci := 4) (fs := [.int (zI 0), .null]) (C := RX5) (T := TX5) (N := 2) hx hb hts (fun _ h => (List.mem_cons_of_mem _ (List.mem_append_right _ h))) tyX5 tyX5_ok hown (hts (.classLink RX11 226 RX5) (List.mem_cons_of_mem _ (List.mem_append_left _ (List.mem_append_left _ (List.mem_append_left _ (List.mem_of_getElem? (i := 2) rfl)))))) (hts (.instantiable RX5 2) (List.mem_cons_of_mem _ (List.mem_append_left _ (List.mem_append_left _ (List.mem_append_left _ (List.mem_of_getElem? (i := 3) rfl)))))) (hts (.initialized RX5) (List.mem_cons_of_mem _ (List.mem_append_left _ (List.mem_append_left _ (List.mem_append_left _ (List.mem_of_getElem? (i := 4) rfl)))))) hC.1 hG.1 hG.2 hS hC.2.1 rfl (fun j hj => by rcases (show j = 0 ∨ j = 1 by omega) with rfl | rfl <;> rfl) (Nat.le_of_ble_eq_true rfl) (Nat.le_of_ble_eq_true rfl) dX11_rowOfLatest_24 (fun n17 H hP hD hS => ?_)
    have hq_ := va_pl_fresh2 hD
    obtain ⟨u18, hu18⟩ : ∃ v : gS, v = sP u (u.2.2.2.1 ++ [n17]) (va_up u.2.2.2.2 n17 (.inr (4, [.int (zI 0), .null]))) := ⟨_, rfl⟩
    have hG : gH D cy ad jf A u18 H := by rw [hu18, gH, ← gW_push hq_]; exact ⟨hP, hD⟩
    have ha_n17 : n17 ∈ u18.2.2.2.1 := by rw [hu18]; exact List.mem_append_right _ List.mem_cons_self
    have hE_n17 : u18.2.2.2.2 n17 = .inr (4, [.int (zI 0), .null]) := by rw [hu18]; exact up_s _ _ _
    refine lv_dup hx hb dX11_rowOfLatest_27 rfl ?_
    refine z_iconst hx hb dX11_rowOfLatest_28 ?_
    refine z_iconst hx hb dX11_rowOfLatest_29 ?_
    refine lv_iload_n hx hb dX11_rowOfLatest_30 rfl (lv_at hl 0 rfl) ?_
    refine z_imul hx hb dX11_rowOfLatest_31 ?_
    refine g_callv (va_runI (As := [.int (zI 3), .int (zI (2 * pl))]) (rest := [.ref n17]) ⟨hx, hb, hml, hown, hts⟩ (kX5_init_X5 l D cy ad jf A u18 n17 3 (2 * pl) ha_n17 hE_n17 (by omega)) (cwI 2 hts gX11_rowOfLatest_X5_init rfl rfl rfl (hts (.initialized RX5) (List.mem_cons_of_mem _ (List.mem_append_left _ (List.mem_append_left _ (List.mem_append_left _ (List.mem_of_getElem? (i := 4) rfl)))))) (hts (.methodLink RX11 228 yX5_init) (List.mem_cons_of_mem _ (List.mem_append_left _ (List.mem_append_left _ (List.mem_append_left _ (List.mem_of_getElem? (i := 14) rfl)))))) (hts (.instanceMethod yX5_init) (List.mem_cons_of_mem _ (List.mem_append_left _ (List.mem_append_left _ (List.mem_append_left _ (List.mem_of_getElem? (i := 15) rfl)))))) rfl (by decide +kernel) ⟨by decide, by decide⟩) (g_preS hG hC hS) rfl rfl hl.1 rfl (lv_room (Nat.le_of_ble_eq_true rfl)) dX11_rowOfLatest_32 ⟨Nat.le_of_ble_eq_true rfl, Nat.le_of_ble_eq_true rfl⟩) hS (fun u19 H locs hu19 hG hS => ?_)
    obtain ⟨b20, hb0, hu19⟩ := hu19
    rw [hu18] at hb0
    have hqb : n17 ≠ b20 := fun h => hb0 (h ▸ List.mem_append_right _ List.mem_cons_self)
    have hbL : b20 ∉ u.2.2.2.1 := fun h => hb0 (List.mem_append_left _ h)
    have hu19c : u19 = cRow cy u n17 b20 3 (2 * pl).toNat (fun _ => 0) := by rw [hu19, hu18]; unfold cRow; simp only [up_aba]
    have hqL := hq_
    have ha_r : n17 ∈ u19.2.2.2.1 := by rw [hu19c]; exact cRow_q
    have hE_r : u19.2.2.2.2 n17 = .inr (4, [.int (zI 3), .ref b20]) := by rw [hu19c]; exact up_s _ _ _
    have ha_s : b20 ∈ u19.2.2.2.1 := by rw [hu19c]; exact cRow_b
    have hE_s : u19.2.2.2.2 b20 = .inl (cy 1, (2 * pl).toNat, .inl (fun j => zI ((fun _ => 0 : Nat → Int) j))) := by rw [hu19c]; exact cRow_E hqb
    refine lv_astore_n (lv' := [(2, .ref n17), (1, .int (zI pl)), (0, .ref (ad 0))]) hx hb dX11_rowOfLatest_35 rfl hl (by decide) rfl (fun ls hl => ?_)
    refine z_iconst hx hb dX11_rowOfLatest_36 ?_
    refine lv_istore_n (lv' := [(3, .int (zI 0)), (2, .ref n17), (1, .int (zI pl)), (0, .ref (ad 0))]) hx hb dX11_rowOfLatest_37 rfl hl (by decide) rfl (fun ls hl => ?_)
    have loop38 : ∀ (n : Nat) (t : Int) (w : gS) (H : Heap) (locs : List Loc) (ls : Array Slot), (pl - t).toNat < n → (0 ≤ t ∧ t ≤ pl) → (∃ g, w = cRow cy u n17 b20 3 (2 * pl).toNat g ∧ ∀ j : Nat, (j : Int) < 2 * t → g j = rowXY u j) → gH D cy ad jf A w H → va_S A s.heap H locs → lv_has ls 4 [(3, .int (zI t)), (2, .ref n17), (1, .int (zI pl)), (0, .ref (ad 0))] → W p l e (headSpec wsX11_rowOfLatest ({ frames := 6, cells := 2, slots := 204, locals := 146 })).room s m ([.ref (ad 0)]).toArray below meth c H locs 2 204 (MQ below (va_Qq (fun (r : Option Nat) (v : gS) => ∃ q b g, r = some q ∧ q ∉ u.2.2.2.1 ∧ b ∉ u.2.2.2.1 ∧ q ≠ b ∧ v = cRow cy u q b 3 (cRowN u).toNat g ∧ ∀ j : Nat, (j : Int) < cRowN u → g j = rowXY u j) (gB D cy ad jf A) A) ([.ref (ad 0)]).toArray s 2 204 A) (F0 m 38 ls []) := by
      intro n
      induction n with
      | zero => intro t w H locs ls hm; exact absurd hm (Nat.not_lt_zero _)
      | succ n ih38 =>
        intro t w H locs ls hm ht hw hG hS hl
        obtain ⟨g, hw0, hg⟩ := hw
        have ha_w : n17 ∈ w.2.2.2.1 := by rw [hw0]; exact cRow_q
        have hE_w : w.2.2.2.2 n17 = .inr (4, [.int (zI 3), .ref b20]) := by rw [hw0]; exact up_s _ _ _
        have ha_v : b20 ∈ w.2.2.2.1 := by rw [hw0]; exact cRow_b
        have hE_v : w.2.2.2.2 b20 = .inl (cy 1, (2 * pl).toNat, .inl (fun j => zI (g j))) := by rw [hw0]; exact cRow_E hqb
        have i13w : ∀ j, j < 101 → 0 ≤ w.2.1 13 j ∧ w.2.1 13 j ≤ 239 := by rw [hw0]; exact i13
        have i14w : ∀ j, j < 101 → 0 ≤ w.2.1 14 j ∧ w.2.1 14 j ≤ 119 := by rw [hw0]; exact i14
        refine lv_iload_n hx hb dX11_rowOfLatest_38 rfl (lv_at hl 0 rfl) ?_
        refine lv_iload_n hx hb dX11_rowOfLatest_39 rfl (lv_at hl 2 rfl) ?_
        refine z_icmp_ge (tgt := 87) hx hb dX11_rowOfLatest_40 (by decide) (by omega) (by omega) (by omega) (by omega) (fun c_21 => ?_) (fun c_21 => ?_)
        · refine lv_aload_n hx hb dX11_rowOfLatest_87 rfl (lv_at hl 1 rfl) ?_
          refine W.widen (k := 2) (n := 204) (Nat.le_of_ble_eq_true rfl) (Nat.le_of_ble_eq_true rfl) ?_
          exact W.aret (v := va_rf (some n17)) hx hb hr (Or.inl ⟨_, rfl⟩) (va_rf_or _) (fun t9 ht9_ hW => ⟨⟨some n17, w, rfl, (by refine ⟨n17, b20, g, rfl, hqL, hbL, hqb, ?_, ?_⟩; (have hN : cRowN u = 2 * pl := by (unfold cRowN; first | (rw [if_pos (by omega)]; omega) | (rw [if_neg (by omega)]; omega))); (rw [hN]; exact hw0); (have hN : cRowN u = 2 * pl := by (unfold cRowN; first | (rw [if_pos (by omega)]; omega) | (rw [if_neg (by omega)]; omega))); (intro j hj; exact hg j (by omega))), gB.mk' hG hC hS ht9_ hW⟩, hS.F ht9_⟩) hS.2.2 dX11_rowOfLatest_88
        · refine lv_aload_n hx hb dX11_rowOfLatest_43 rfl (lv_at hl 1 rfl) ?_
          obtain ⟨k9, hk9⟩ := va_pl_get (X := gFx cy ad jf w) (f := w.2.2.2.2) ha_w
          refine va_get (C := RX5) (T := TX5) (N := 2) (ci := 4) hx hb hts (fun _ h => (List.mem_cons_of_mem _ (List.mem_append_right _ h))) hown hC.1 hG.1 k9 (hk9.trans (by rw [hE_w])) rfl 1 (by decide) (hts (.fieldLink RX11 233 "StraitSwim$Row" "items" "[S") (List.mem_cons_of_mem _ (List.mem_append_left _ (List.mem_append_left _ (List.mem_append_left _ (List.mem_of_getElem? (i := 5) rfl)))))) (fun _ h9 => h9) rfl dX11_rowOfLatest_44 ?_
          refine z_iconst hx hb dX11_rowOfLatest_47 ?_
          refine lv_iload_n hx hb dX11_rowOfLatest_48 rfl (lv_at hl 0 rfl) ?_
          refine z_imul hx hb dX11_rowOfLatest_49 ?_
          refine lv_aload_n hx hb dX11_rowOfLatest_50 rfl (lv_at hl 3 rfl) ?_
          refine g_get (C := RX11) (T := TX11) (N := 14) (ci := 10) hx hb hts (fun _ h => (List.mem_cons_of_mem _ (List.mem_append_left _ (List.mem_append_left _ (List.mem_append_right _ h))))) hown hC.1 hG 0 (by decide) rfl rfl 5 (by decide) (hts (.fieldLink RX11 35 "StraitSwim" "latest" "LStraitSwim$Swim;") (List.mem_cons_of_mem _ (List.mem_append_left _ (List.mem_append_left _ (List.mem_append_left _ (List.mem_of_getElem? (i := 0) rfl)))))) (fun _ h9 => h9) rfl dX11_rowOfLatest_51 ?_
          refine g_get (C := RX9) (T := TX9) (N := 9) (ci := 8) hx hb hts (fun _ h => (List.mem_cons_of_mem _ (List.mem_append_left _ (List.mem_append_right _ h)))) hown hC.1 hG 2 (by decide) rfl rfl 3 (by decide) (hts (.fieldLink RX11 145 "StraitSwim$Swim" "xs" "[I") (List.mem_cons_of_mem _ (List.mem_append_left _ (List.mem_append_left _ (List.mem_append_left _ (List.mem_of_getElem? (i := 6) rfl)))))) (fun _ h9 => h9) rfl dX11_rowOfLatest_54 ?_
          refine lv_iload_n hx hb dX11_rowOfLatest_57 rfl (lv_at hl 0 rfl) ?_
          refine g_iald (n := 101) hx hb hC.1 hG 13 (by decide) rfl (by omega) (by omega) (by decide) dX11_rowOfLatest_58 ?_
          have q_22 := i13w t.toNat (by omega)
          refine z_i2s hx hb dX11_rowOfLatest_59 ?_
          rw [bShort_id (z := w.2.1 13 t.toNat) (by omega) (by omega)]
          refine g_sastP (n := (2 * pl).toNat) (g := g) (z := 2 * t) (x := w.2.1 13 t.toNat) hx hb hC.1 hG hS ha_v hE_v (by omega) (by omega) (by omega) (by omega) dX11_rowOfLatest_60 (fun u23 H locs hu23 hG hS => ?_)
          have ha_u23 : b20 ∈ u23.2.2.2.1 := by rw [hu23]; exact ha_v
          have hE_u23 : u23.2.2.2.2 b20 = .inl (cy 1, (2 * pl).toNat, .inl (fun j => zI ((va_up g (2 * t).toNat (w.2.1 13 t.toNat)) j))) := by rw [hu23]; exact up_s _ _ _
          have ha_n17u23 : n17 ∈ u23.2.2.2.1 := by rw [hu23]; exact ha_w
          have hE_n17u23 : u23.2.2.2.2 n17 = .inr (4, [.int (zI 3), .ref b20]) := by rw [hu23]; exact (up_n _ _ (show n17 ≠ b20 from hqb)).trans hE_w
          refine lv_aload_n hx hb dX11_rowOfLatest_61 rfl (lv_at hl 1 rfl) ?_
          obtain ⟨k9, hk9⟩ := va_pl_get (X := gFx cy ad jf u23) (f := u23.2.2.2.2) ha_n17u23
          refine va_get (C := RX5) (T := TX5) (N := 2) (ci := 4) hx hb hts (fun _ h => (List.mem_cons_of_mem _ (List.mem_append_right _ h))) hown hC.1 hG.1 k9 (hk9.trans (by rw [hE_n17u23])) rfl 1 (by decide) (hts (.fieldLink RX11 233 "StraitSwim$Row" "items" "[S") (List.mem_cons_of_mem _ (List.mem_append_left _ (List.mem_append_left _ (List.mem_append_left _ (List.mem_of_getElem? (i := 5) rfl)))))) (fun _ h9 => h9) rfl dX11_rowOfLatest_62 ?_
          refine z_iconst hx hb dX11_rowOfLatest_65 ?_
          refine lv_iload_n hx hb dX11_rowOfLatest_66 rfl (lv_at hl 0 rfl) ?_
          refine z_imul hx hb dX11_rowOfLatest_67 ?_
          refine z_iconst hx hb dX11_rowOfLatest_68 ?_
          refine z_iadd hx hb dX11_rowOfLatest_69 ?_
          refine lv_aload_n hx hb dX11_rowOfLatest_70 rfl (lv_at hl 3 rfl) ?_
          refine g_get (C := RX11) (T := TX11) (N := 14) (ci := 10) hx hb hts (fun _ h => (List.mem_cons_of_mem _ (List.mem_append_left _ (List.mem_append_left _ (List.mem_append_right _ h))))) hown hC.1 hG 0 (by decide) rfl rfl 5 (by decide) (hts (.fieldLink RX11 35 "StraitSwim" "latest" "LStraitSwim$Swim;") (List.mem_cons_of_mem _ (List.mem_append_left _ (List.mem_append_left _ (List.mem_append_left _ (List.mem_of_getElem? (i := 0) rfl)))))) (fun _ h9 => h9) rfl dX11_rowOfLatest_71 ?_
          refine g_get (C := RX9) (T := TX9) (N := 9) (ci := 8) hx hb hts (fun _ h => (List.mem_cons_of_mem _ (List.mem_append_left _ (List.mem_append_right _ h)))) hown hC.1 hG 2 (by decide) rfl rfl 4 (by decide) (hts (.fieldLink RX11 151 "StraitSwim$Swim" "ys" "[I") (List.mem_cons_of_mem _ (List.mem_append_left _ (List.mem_append_left _ (List.mem_append_left _ (List.mem_of_getElem? (i := 7) rfl)))))) (fun _ h9 => h9) rfl dX11_rowOfLatest_74 ?_
          refine lv_iload_n hx hb dX11_rowOfLatest_77 rfl (lv_at hl 0 rfl) ?_
          refine g_iald (n := 101) hx hb hC.1 hG 14 (by decide) rfl (by omega) (by omega) (by decide) dX11_rowOfLatest_78 ?_
          have e_24 : u23.2.1 14 = w.2.1 14 := by subst hu23; rfl
          rw [e_24]
          have q_25 := i14w t.toNat (by omega)
          refine z_i2s hx hb dX11_rowOfLatest_79 ?_
          rw [bShort_id (z := w.2.1 14 t.toNat) (by omega) (by omega)]
          refine g_sastP (n := (2 * pl).toNat) (g := (va_up g (2 * t).toNat (w.2.1 13 t.toNat))) (z := (2 * t) + 1) (x := w.2.1 14 t.toNat) hx hb hC.1 hG hS ha_u23 hE_u23 (by omega) (by omega) (by omega) (by omega) dX11_rowOfLatest_80 (fun u26 H locs hu26 hG hS => ?_)
          have ha_u26 : b20 ∈ u26.2.2.2.1 := by rw [hu26]; exact ha_u23
          have hE_u26 : u26.2.2.2.2 b20 = .inl (cy 1, (2 * pl).toNat, .inl (fun j => zI ((va_up ((va_up g (2 * t).toNat (w.2.1 13 t.toNat))) ((2 * t) + 1).toNat (w.2.1 14 t.toNat)) j))) := by rw [hu26]; exact up_s _ _ _
          have ha_n17u26 : n17 ∈ u26.2.2.2.1 := by rw [hu26]; exact ha_n17u23
          have hE_n17u26 : u26.2.2.2.2 n17 = .inr (4, [.int (zI 3), .ref b20]) := by rw [hu26]; exact (up_n _ _ (show n17 ≠ b20 from hqb)).trans hE_n17u23
          refine z_iinc (lv' := [(3, .int (zI (t + 1))), (2, .ref n17), (1, .int (zI pl)), (0, .ref (ad 0))]) hx hb dX11_rowOfLatest_81 hl (k := 0) rfl (by decide) rfl (fun ls hl => ?_)
          refine lv_goto (tgt := 38) hx hb dX11_rowOfLatest_84 (by decide) ?_
          exact ih38 (t + 1) u26 _ _ _ (by omega) (by omega) (by subst hu26; subst hu23; subst hw0; exact ⟨_, (by unfold cRow; simp only [up_bab _ _ _ _ hqb]), rowXY_st ht.1 hg⟩) hG hS (lv_sub hl [0, 1, 2, 3] rfl)
    exact loop38 _ 0 u19 _ _ _ (Nat.lt_succ_self _) (by omega) (by exact ⟨_, hu19c, (fun j hj => by exfalso; omega)⟩) hG hS (lv_sub hl [0, 1, 2, 3] rfl)
set_option maxHeartbeats 4000000 in
set_option maxRecDepth 100000 in
theorem kX11_rowOfCounts (l : Launch) (D : va_G) (cy : Nat → ClassId) (ad : Nat → Nat) (jf : Nat → Int64) (A : Nat → Prop) (u : gS) (i15 : 0 ≤ u.1 15 ∧ u.1 15 ≤ 60) (i22 : ∀ j, j < 60 → 0 ≤ u.2.1 22 j ∧ u.2.1 22 j ≤ 99) : Met l yX11_rowOfCounts wsX11_rowOfCounts ({ frames := 6, cells := 2, slots := 204, locals := 146 }) (va_Pc [.ref (ad 0)] (gB D cy ad jf A u)) (va_Qq (fun (r : Option Nat) (v : gS) => ∃ q b g, r = some q ∧ q ∉ u.2.2.2.1 ∧ b ∉ u.2.2.2.1 ∧ q ≠ b ∧ v = cRow cy u q b 4 (u.1 15).toNat g ∧ ∀ j : Nat, (j : Int) < u.1 15 → g j = u.2.1 22 j) (gB D cy ad jf A) A) 2 204 A := by
  refine Met.ofW (cc := cX11_rowOfCounts) (maxL := 3) (ret := (some (.object "StraitSwim$Row"))) (by decide) rfl ?_
  intro p e s m args below meth c s₁ B hml hv
  obtain ⟨rfl, hG, hC⟩ := hv
  have hx := B.exec
  have hb := B.bytes
  have hr := B.returns
  have hts := atoms_spec (ws := wsX11_rowOfCounts) B.pre
  have hown : s.vm.findClass RX11 = some m.cls := findClass_of_methodNamed B.named
  have hlocks := B.notSynchronized
  have hS : va_S A s.heap s.heap [] := va_S.rf
  have hl := lv_entry ([.ref (ad 0)]) (n := 3) (Nat.le_of_ble_eq_true rfl)
  rw [lg_entry_eq]
  generalize (lg_sl ([.ref (ad 0)]) ++ List.replicate (3 - (lg_sl ([.ref (ad 0)])).length) Slot.unset).toArray = ls at hl ⊢
  have hl : lv_has ls 3 [(0, .ref (ad 0))] := hl
  refine va_new (ci := 4) (fs := [.int (zI 0), .null]) (C := RX5) (T := TX5) (N := 2) hx hb hts (fun _ h => (List.mem_cons_of_mem _ (List.mem_append_left _ (List.mem_append_left _ (List.mem_append_right _ h))))) tyX5 tyX5_ok hown (hts (.classLink RX11 226 RX5) (List.mem_cons_of_mem _ (List.mem_append_left _ (List.mem_append_left _ (List.mem_append_left _ (List.mem_of_getElem? (i := 0) rfl)))))) (hts (.instantiable RX5 2) (List.mem_cons_of_mem _ (List.mem_append_left _ (List.mem_append_left _ (List.mem_append_left _ (List.mem_of_getElem? (i := 1) rfl)))))) (hts (.initialized RX5) (List.mem_cons_of_mem _ (List.mem_append_left _ (List.mem_append_left _ (List.mem_append_left _ (List.mem_of_getElem? (i := 2) rfl)))))) hC.1 hG.1 hG.2 hS hC.2.1 rfl (fun j hj => by rcases (show j = 0 ∨ j = 1 by omega) with rfl | rfl <;> rfl) (Nat.le_of_ble_eq_true rfl) (Nat.le_of_ble_eq_true rfl) dX11_rowOfCounts_0 (fun n1 H hP hD hS => ?_)
  have hq_ := va_pl_fresh2 hD
  obtain ⟨u2, hu2⟩ : ∃ v : gS, v = sP u (u.2.2.2.1 ++ [n1]) (va_up u.2.2.2.2 n1 (.inr (4, [.int (zI 0), .null]))) := ⟨_, rfl⟩
  have hG : gH D cy ad jf A u2 H := by rw [hu2, gH, ← gW_push hq_]; exact ⟨hP, hD⟩
  have ha_n1 : n1 ∈ u2.2.2.2.1 := by rw [hu2]; exact List.mem_append_right _ List.mem_cons_self
  have hE_n1 : u2.2.2.2.2 n1 = .inr (4, [.int (zI 0), .null]) := by rw [hu2]; exact up_s _ _ _
  refine lv_dup hx hb dX11_rowOfCounts_3 rfl ?_
  refine z_iconst hx hb dX11_rowOfCounts_4 ?_
  refine lv_aload_n hx hb dX11_rowOfCounts_5 rfl (lv_at hl 0 rfl) ?_
  refine g_get (C := RX11) (T := TX11) (N := 14) (ci := 10) hx hb hts (fun _ h => (List.mem_cons_of_mem _ (List.mem_append_left _ (List.mem_append_right _ h)))) hown hC.1 hG 0 (by decide) rfl rfl 9 (by decide) (hts (.fieldLink RX11 56 "StraitSwim" "counts" "LStraitSwim$Tally;") (List.mem_cons_of_mem _ (List.mem_append_left _ (List.mem_append_left _ (List.mem_append_left _ (List.mem_of_getElem? (i := 3) rfl)))))) (fun _ h9 => h9) rfl dX11_rowOfCounts_6 ?_
  refine g_get (C := RX10) (T := TX10) (N := 2) (ci := 9) hx hb hts (fun _ h => (List.mem_cons_of_mem _ (List.mem_append_right _ h))) hown hC.1 hG 4 (by decide) rfl rfl 1 (by decide) (hts (.fieldLink RX11 173 "StraitSwim$Tally" "size" "I") (List.mem_cons_of_mem _ (List.mem_append_left _ (List.mem_append_left _ (List.mem_append_left _ (List.mem_of_getElem? (i := 4) rfl)))))) (fun _ h9 => h9) rfl dX11_rowOfCounts_9 ?_
  have e_3 : u2.1 15 = u.1 15 := by subst hu2; rfl
  rw [e_3]
  refine g_callv (va_runI (As := [.int (zI 4), .int (zI (u.1 15))]) (rest := [.ref n1]) ⟨hx, hb, hml, hown, hts⟩ (kX5_init_X5 l D cy ad jf A u2 n1 4 (u.1 15) ha_n1 hE_n1 (by omega)) (cwI 2 hts gX11_rowOfCounts_X5_init rfl rfl rfl (hts (.initialized RX5) (List.mem_cons_of_mem _ (List.mem_append_left _ (List.mem_append_left _ (List.mem_append_left _ (List.mem_of_getElem? (i := 2) rfl)))))) (hts (.methodLink RX11 228 yX5_init) (List.mem_cons_of_mem _ (List.mem_append_left _ (List.mem_append_left _ (List.mem_append_left _ (List.mem_of_getElem? (i := 7) rfl)))))) (hts (.instanceMethod yX5_init) (List.mem_cons_of_mem _ (List.mem_append_left _ (List.mem_append_left _ (List.mem_append_left _ (List.mem_of_getElem? (i := 8) rfl)))))) rfl (by decide +kernel) ⟨by decide, by decide⟩) (g_preS hG hC hS) rfl rfl hl.1 rfl (lv_room (Nat.le_of_ble_eq_true rfl)) dX11_rowOfCounts_12 ⟨Nat.le_of_ble_eq_true rfl, Nat.le_of_ble_eq_true rfl⟩) hS (fun u4 H locs hu4 hG hS => ?_)
  obtain ⟨b5, hb0, hu4⟩ := hu4
  rw [hu2] at hb0
  have hqb : n1 ≠ b5 := fun h => hb0 (h ▸ List.mem_append_right _ List.mem_cons_self)
  have hbL : b5 ∉ u.2.2.2.1 := fun h => hb0 (List.mem_append_left _ h)
  have hu4c : u4 = cRow cy u n1 b5 4 (u.1 15).toNat (fun _ => 0) := by rw [hu4, hu2]; unfold cRow; simp only [up_aba]
  have hqL := hq_
  have ha_r : n1 ∈ u4.2.2.2.1 := by rw [hu4c]; exact cRow_q
  have hE_r : u4.2.2.2.2 n1 = .inr (4, [.int (zI 4), .ref b5]) := by rw [hu4c]; exact up_s _ _ _
  have ha_s : b5 ∈ u4.2.2.2.1 := by rw [hu4c]; exact cRow_b
  have hE_s : u4.2.2.2.2 b5 = .inl (cy 1, (u.1 15).toNat, .inl (fun j => zI ((fun _ => 0 : Nat → Int) j))) := by rw [hu4c]; exact cRow_E hqb
  refine lv_astore_n (lv' := [(1, .ref n1), (0, .ref (ad 0))]) hx hb dX11_rowOfCounts_15 rfl hl (by decide) rfl (fun ls hl => ?_)
  refine z_iconst hx hb dX11_rowOfCounts_16 ?_
  refine lv_istore_n (lv' := [(2, .int (zI 0)), (1, .ref n1), (0, .ref (ad 0))]) hx hb dX11_rowOfCounts_17 rfl hl (by decide) rfl (fun ls hl => ?_)
  have loop18 : ∀ (n : Nat) (t : Int) (w : gS) (H : Heap) (locs : List Loc) (ls : Array Slot), (u.1 15 - t).toNat < n → (0 ≤ t ∧ t ≤ u.1 15) → (∃ g, w = cRow cy u n1 b5 4 (u.1 15).toNat g ∧ ∀ j : Nat, (j : Int) < t → g j = u.2.1 22 j) → gH D cy ad jf A w H → va_S A s.heap H locs → lv_has ls 3 [(2, .int (zI t)), (1, .ref n1), (0, .ref (ad 0))] → W p l e (headSpec wsX11_rowOfCounts ({ frames := 6, cells := 2, slots := 204, locals := 146 })).room s m ([.ref (ad 0)]).toArray below meth c H locs 2 204 (MQ below (va_Qq (fun (r : Option Nat) (v : gS) => ∃ q b g, r = some q ∧ q ∉ u.2.2.2.1 ∧ b ∉ u.2.2.2.1 ∧ q ≠ b ∧ v = cRow cy u q b 4 (u.1 15).toNat g ∧ ∀ j : Nat, (j : Int) < u.1 15 → g j = u.2.1 22 j) (gB D cy ad jf A) A) ([.ref (ad 0)]).toArray s 2 204 A) (F0 m 18 ls []) := by
    intro n
    induction n with
    | zero => intro t w H locs ls hm; exact absurd hm (Nat.not_lt_zero _)
    | succ n ih18 =>
      intro t w H locs ls hm ht hw hG hS hl
      obtain ⟨g, hw0, hg⟩ := hw
      have ha_w : n1 ∈ w.2.2.2.1 := by rw [hw0]; exact cRow_q
      have hE_w : w.2.2.2.2 n1 = .inr (4, [.int (zI 4), .ref b5]) := by rw [hw0]; exact up_s _ _ _
      have ha_v : b5 ∈ w.2.2.2.1 := by rw [hw0]; exact cRow_b
      have hE_v : w.2.2.2.2 b5 = .inl (cy 1, (u.1 15).toNat, .inl (fun j => zI (g j))) := by rw [hw0]; exact cRow_E hqb
      have e15 : w.1 15 = u.1 15 := by rw [hw0]; rfl
      have i22w : ∀ j, j < 60 → 0 ≤ w.2.1 22 j ∧ w.2.1 22 j ≤ 99 := by rw [hw0]; exact i22
      refine lv_iload_n hx hb dX11_rowOfCounts_18 rfl (lv_at hl 0 rfl) ?_
      refine lv_aload_n hx hb dX11_rowOfCounts_19 rfl (lv_at hl 2 rfl) ?_
      refine g_get (C := RX11) (T := TX11) (N := 14) (ci := 10) hx hb hts (fun _ h => (List.mem_cons_of_mem _ (List.mem_append_left _ (List.mem_append_right _ h)))) hown hC.1 hG 0 (by decide) rfl rfl 9 (by decide) (hts (.fieldLink RX11 56 "StraitSwim" "counts" "LStraitSwim$Tally;") (List.mem_cons_of_mem _ (List.mem_append_left _ (List.mem_append_left _ (List.mem_append_left _ (List.mem_of_getElem? (i := 3) rfl)))))) (fun _ h9 => h9) rfl dX11_rowOfCounts_20 ?_
      refine g_get (C := RX10) (T := TX10) (N := 2) (ci := 9) hx hb hts (fun _ h => (List.mem_cons_of_mem _ (List.mem_append_right _ h))) hown hC.1 hG 4 (by decide) rfl rfl 1 (by decide) (hts (.fieldLink RX11 173 "StraitSwim$Tally" "size" "I") (List.mem_cons_of_mem _ (List.mem_append_left _ (List.mem_append_left _ (List.mem_append_left _ (List.mem_of_getElem? (i := 4) rfl)))))) (fun _ h9 => h9) rfl dX11_rowOfCounts_23 ?_
      refine z_icmp_ge (tgt := 51) hx hb dX11_rowOfCounts_26 (by decide) (by omega) (by omega) (by omega) (by omega) (fun c_6 => ?_) (fun c_6 => ?_)
      · refine lv_aload_n hx hb dX11_rowOfCounts_51 rfl (lv_at hl 1 rfl) ?_
        refine W.widen (k := 2) (n := 204) (Nat.le_of_ble_eq_true rfl) (Nat.le_of_ble_eq_true rfl) ?_
        exact W.aret (v := va_rf (some n1)) hx hb hr (Or.inl ⟨_, rfl⟩) (va_rf_or _) (fun t9 ht9_ hW => ⟨⟨some n1, w, rfl, (by exact ⟨n1, b5, g, rfl, hqL, hbL, hqb, hw0, (fun j hj => hg j (by omega))⟩), gB.mk' hG hC hS ht9_ hW⟩, hS.F ht9_⟩) hS.2.2 dX11_rowOfCounts_52
      · refine lv_aload_n hx hb dX11_rowOfCounts_29 rfl (lv_at hl 1 rfl) ?_
        obtain ⟨k9, hk9⟩ := va_pl_get (X := gFx cy ad jf w) (f := w.2.2.2.2) ha_w
        refine va_get (C := RX5) (T := TX5) (N := 2) (ci := 4) hx hb hts (fun _ h => (List.mem_cons_of_mem _ (List.mem_append_left _ (List.mem_append_left _ (List.mem_append_right _ h))))) hown hC.1 hG.1 k9 (hk9.trans (by rw [hE_w])) rfl 1 (by decide) (hts (.fieldLink RX11 233 "StraitSwim$Row" "items" "[S") (List.mem_cons_of_mem _ (List.mem_append_left _ (List.mem_append_left _ (List.mem_append_left _ (List.mem_of_getElem? (i := 5) rfl)))))) (fun _ h9 => h9) rfl dX11_rowOfCounts_30 ?_
        refine lv_iload_n hx hb dX11_rowOfCounts_33 rfl (lv_at hl 0 rfl) ?_
        refine lv_aload_n hx hb dX11_rowOfCounts_34 rfl (lv_at hl 2 rfl) ?_
        refine g_get (C := RX11) (T := TX11) (N := 14) (ci := 10) hx hb hts (fun _ h => (List.mem_cons_of_mem _ (List.mem_append_left _ (List.mem_append_right _ h)))) hown hC.1 hG 0 (by decide) rfl rfl 9 (by decide) (hts (.fieldLink RX11 56 "StraitSwim" "counts" "LStraitSwim$Tally;") (List.mem_cons_of_mem _ (List.mem_append_left _ (List.mem_append_left _ (List.mem_append_left _ (List.mem_of_getElem? (i := 3) rfl)))))) (fun _ h9 => h9) rfl dX11_rowOfCounts_35 ?_
        refine g_get (C := RX10) (T := TX10) (N := 2) (ci := 9) hx hb hts (fun _ h => (List.mem_cons_of_mem _ (List.mem_append_right _ h))) hown hC.1 hG 4 (by decide) rfl rfl 0 (by decide) (hts (.fieldLink RX11 185 "StraitSwim$Tally" "items" "[I") (List.mem_cons_of_mem _ (List.mem_append_left _ (List.mem_append_left _ (List.mem_append_left _ (List.mem_of_getElem? (i := 6) rfl)))))) (fun _ h9 => h9) rfl dX11_rowOfCounts_38 ?_
        refine lv_iload_n hx hb dX11_rowOfCounts_41 rfl (lv_at hl 0 rfl) ?_
        refine g_iald (n := 60) hx hb hC.1 hG 22 (by decide) rfl (by omega) (by omega) (by decide) dX11_rowOfCounts_42 ?_
        have q_7 := i22w t.toNat (by omega)
        refine z_i2s hx hb dX11_rowOfCounts_43 ?_
        rw [bShort_id (z := w.2.1 22 t.toNat) (by omega) (by omega)]
        refine g_sastP (n := (u.1 15).toNat) (g := g) (z := t) (x := w.2.1 22 t.toNat) hx hb hC.1 hG hS ha_v hE_v (by omega) (by omega) (by omega) (by omega) dX11_rowOfCounts_44 (fun u8 H locs hu8 hG hS => ?_)
        have ha_u8 : b5 ∈ u8.2.2.2.1 := by rw [hu8]; exact ha_v
        have hE_u8 : u8.2.2.2.2 b5 = .inl (cy 1, (u.1 15).toNat, .inl (fun j => zI ((va_up g t.toNat (w.2.1 22 t.toNat)) j))) := by rw [hu8]; exact up_s _ _ _
        have ha_n1u8 : n1 ∈ u8.2.2.2.1 := by rw [hu8]; exact ha_w
        have hE_n1u8 : u8.2.2.2.2 n1 = .inr (4, [.int (zI 4), .ref b5]) := by rw [hu8]; exact (up_n _ _ (show n1 ≠ b5 from hqb)).trans hE_w
        refine z_iinc (lv' := [(2, .int (zI (t + 1))), (1, .ref n1), (0, .ref (ad 0))]) hx hb dX11_rowOfCounts_45 hl (k := 0) rfl (by decide) rfl (fun ls hl => ?_)
        refine lv_goto (tgt := 18) hx hb dX11_rowOfCounts_48 (by decide) ?_
        exact ih18 (t + 1) u8 _ _ _ (by omega) (by omega) (by subst hu8; subst hw0; exact ⟨_, (by unfold cRow; simp only [up_bab _ _ _ _ hqb]), rowC_st ht.1 hg⟩) hG hS (lv_sub hl [0, 1, 2] rfl)
  exact loop18 _ 0 u4 _ _ _ (Nat.lt_succ_self _) (by omega) (by exact ⟨_, hu4c, (fun j hj => by exfalso; omega)⟩) hG hS (lv_sub hl [0, 1, 2] rfl)
set_option maxHeartbeats 4000000 in
set_option maxRecDepth 100000 in
theorem kX11_make (l : Launch) (D : va_G) (cy : Nat → ClassId) (ad : Nat → Nat) (jf : Nat → Int64) (A : Nat → Prop) (u : gS) (p1 p2 p3 : Int) (j_p1 : -2147483648 ≤ p1 ∧ p1 < 2147483648) (j_p2 : -2147483648 ≤ p2 ∧ p2 < 2147483648) (j_p3 : -2147483648 ≤ p3 ∧ p3 < 2147483648) : Met l yX11_make wsX11_make ({ frames := 6, cells := 2, slots := 204, locals := 146 }) (va_Pc [.ref (ad 0), .int (zI p1), .int (zI p2), .int (zI p3)] (gB D cy ad jf A u)) (va_Qi (fun (r : Int32) (v : gS) => (if (0 ≤ p1 ∧ p1 ≤ 7) ∧ (3 ≤ p2 ∧ p2 ≤ 4) ∧ p3 ≤ 60 then (if p3 < 0 then r = zI (-14) ∧ v = u else r = zI 0 ∧ ∃ q b, q ∉ u.2.2.2.1 ∧ b ∉ u.2.2.2.1 ∧ q ≠ b ∧ v = sR (cRow cy u q b p2 p3.toNat (fun _ => 0)) 30 (va_up (u.2.2.1 30) p1.toNat (some q))) else r = zI (-1) ∧ v = u)) (gB D cy ad jf A) A) 2 204 A := by
  refine Met.ofW (cc := cX11_make) (maxL := 4) (ret := (some .int)) (by decide) rfl ?_
  intro p e s m args below meth c s₁ B hml hv
  obtain ⟨rfl, hG, hC⟩ := hv
  have hx := B.exec
  have hb := B.bytes
  have hr := B.returns
  have hts := atoms_spec (ws := wsX11_make) B.pre
  have hown : s.vm.findClass RX11 = some m.cls := findClass_of_methodNamed B.named
  have hlocks := B.notSynchronized
  have hS : va_S A s.heap s.heap [] := va_S.rf
  have hl := lv_entry ([.ref (ad 0), .int (zI p1), .int (zI p2), .int (zI p3)]) (n := 4) (Nat.le_of_ble_eq_true rfl)
  rw [lg_entry_eq]
  generalize (lg_sl ([.ref (ad 0), .int (zI p1), .int (zI p2), .int (zI p3)]) ++ List.replicate (4 - (lg_sl ([.ref (ad 0), .int (zI p1), .int (zI p2), .int (zI p3)])).length) Slot.unset).toArray = ls at hl ⊢
  have hl : lv_has ls 4 [(0, .ref (ad 0)), (1, .int (zI p1)), (2, .int (zI p2)), (3, .int (zI p3))] := hl
  refine lv_iload_n hx hb dX11_make_0 rfl (lv_at hl 1 rfl) ?_
  refine g_calli (va_runS (As := [.int (zI p1)]) (rest := []) ⟨hx, hb, hml, hown, hts⟩ (kX11_isShelf l D cy ad jf A u p1 (by omega)) (va_cwS 1 hts gX11_make_X11_isShelf rfl rfl rfl (by decide +kernel) ⟨by decide, by decide⟩) (g_preS hG hC hS) rfl rfl hl.1 rfl (lv_room (Nat.le_of_ble_eq_true rfl)) dX11_make_1 ⟨Nat.le_of_ble_eq_true rfl, Nat.le_of_ble_eq_true rfl⟩) hS (fun r1 u2 H locs p_3 hG hS => ?_)
  obtain ⟨⟨b4, rfl, q_5⟩, he_⟩ := p_3
  rw [he_] at hG; clear he_
  have hbb4 : 0 ≤ b4 ∧ b4 ≤ 1 := by rcases q_5 with ⟨h, _⟩ | ⟨h, _⟩ <;> omega
  refine z_if_eq (tgt := 22) hx hb dX11_make_4 (by decide) (by omega) (by omega) (fun c_6 => ?_) (fun c_6 => ?_)
  · refine z_iconst hx hb dX11_make_22 ?_
    refine W.widen (k := 2) (n := 204) (Nat.le_of_ble_eq_true rfl) (Nat.le_of_ble_eq_true rfl) ?_
    exact W.iret (v := zI ((-1))) hx hb hr (fun t9 ht9_ hW => ⟨⟨zI ((-1)), u, rfl, (by dsimp only; (first | (rw [if_neg (by omega)]; exact ⟨rfl, rfl⟩) | (rw [if_pos (by omega), if_pos (by omega)]; exact ⟨rfl, rfl⟩))), gB.mk' hG hC hS ht9_ hW⟩, hS.F ht9_⟩) hS.2.2 dX11_make_23
  · refine lv_iload_n hx hb dX11_make_7 rfl (lv_at hl 2 rfl) ?_
    refine z_iconst hx hb dX11_make_8 ?_
    refine z_iconst hx hb dX11_make_9 ?_
    refine g_calli (va_runS (As := [.int (zI p2), .int (zI 3), .int (zI 4)]) (rest := []) ⟨hx, hb, hml, hown, hts⟩ (kX11_isWithin l D cy ad jf A u p2 3 4 (by omega) (by omega) (by omega)) (va_cwS 3 hts gX11_make_X11_isWithin rfl rfl rfl (by decide +kernel) ⟨by decide, by decide⟩) (g_preS hG hC hS) rfl rfl hl.1 rfl (lv_room (Nat.le_of_ble_eq_true rfl)) dX11_make_10 ⟨Nat.le_of_ble_eq_true rfl, Nat.le_of_ble_eq_true rfl⟩) hS (fun r7 u8 H locs p_9 hG hS => ?_)
    obtain ⟨⟨b10, rfl, q_11⟩, he_⟩ := p_9
    rw [he_] at hG; clear he_
    have hbb10 : 0 ≤ b10 ∧ b10 ≤ 1 := by rcases q_11 with ⟨h, _⟩ | ⟨h, _⟩ <;> omega
    refine z_if_eq (tgt := 22) hx hb dX11_make_13 (by decide) (by omega) (by omega) (fun c_12 => ?_) (fun c_12 => ?_)
    · refine z_iconst hx hb dX11_make_22 ?_
      refine W.widen (k := 2) (n := 204) (Nat.le_of_ble_eq_true rfl) (Nat.le_of_ble_eq_true rfl) ?_
      exact W.iret (v := zI ((-1))) hx hb hr (fun t9 ht9_ hW => ⟨⟨zI ((-1)), u, rfl, (by dsimp only; (first | (rw [if_neg (by omega)]; exact ⟨rfl, rfl⟩) | (rw [if_pos (by omega), if_pos (by omega)]; exact ⟨rfl, rfl⟩))), gB.mk' hG hC hS ht9_ hW⟩, hS.F ht9_⟩) hS.2.2 dX11_make_23
    · refine lv_iload_n hx hb dX11_make_16 rfl (lv_at hl 3 rfl) ?_
      refine z_bipush hx hb dX11_make_17 (by decide) ?_
      refine z_icmp_le (tgt := 24) hx hb dX11_make_19 (by decide) (by omega) (by omega) (by omega) (by omega) (fun c_13 => ?_) (fun c_13 => ?_)
      · refine lv_iload_n hx hb dX11_make_24 rfl (lv_at hl 3 rfl) ?_
        refine z_if_ge (tgt := 31) hx hb dX11_make_25 (by decide) (by omega) (by omega) (fun c_14 => ?_) (fun c_14 => ?_)
        · refine lv_aload_n hx hb dX11_make_31 rfl (lv_at hl 0 rfl) ?_
          refine g_get (C := RX11) (T := TX11) (N := 14) (ci := 10) hx hb hts (fun _ h => (List.mem_cons_of_mem _ (List.mem_append_left _ (List.mem_append_right _ h)))) hown hC.1 hG 0 (by decide) rfl rfl 13 (by decide) (hts (.fieldLink RX11 75 "StraitSwim" "shelves" "[LStraitSwim$Held;") (List.mem_cons_of_mem _ (List.mem_append_left _ (List.mem_append_left _ (List.mem_of_getElem? (i := 0) rfl))))) (fun _ h9 => h9) rfl dX11_make_32 ?_
          refine lv_iload_n hx hb dX11_make_35 rfl (lv_at hl 1 rfl) ?_
          refine va_new (ci := 4) (fs := [.int (zI 0), .null]) (C := RX5) (T := TX5) (N := 2) hx hb hts (fun _ h => (List.mem_cons_of_mem _ (List.mem_append_right _ h))) tyX5 tyX5_ok hown (hts (.classLink RX11 226 RX5) (List.mem_cons_of_mem _ (List.mem_append_left _ (List.mem_append_left _ (List.mem_of_getElem? (i := 1) rfl))))) (hts (.instantiable RX5 2) (List.mem_cons_of_mem _ (List.mem_append_left _ (List.mem_append_left _ (List.mem_of_getElem? (i := 2) rfl))))) (hts (.initialized RX5) (List.mem_cons_of_mem _ (List.mem_append_left _ (List.mem_append_left _ (List.mem_of_getElem? (i := 3) rfl))))) hC.1 hG.1 hG.2 hS hC.2.1 rfl (fun j hj => by rcases (show j = 0 ∨ j = 1 by omega) with rfl | rfl <;> rfl) (Nat.le_of_ble_eq_true rfl) (Nat.le_of_ble_eq_true rfl) dX11_make_36 (fun n15 H hP hD hS => ?_)
          have hq_ := va_pl_fresh2 hD
          obtain ⟨u16, hu16⟩ : ∃ v : gS, v = sP u (u.2.2.2.1 ++ [n15]) (va_up u.2.2.2.2 n15 (.inr (4, [.int (zI 0), .null]))) := ⟨_, rfl⟩
          have hG : gH D cy ad jf A u16 H := by rw [hu16, gH, ← gW_push hq_]; exact ⟨hP, hD⟩
          have ha_n15 : n15 ∈ u16.2.2.2.1 := by rw [hu16]; exact List.mem_append_right _ List.mem_cons_self
          have hE_n15 : u16.2.2.2.2 n15 = .inr (4, [.int (zI 0), .null]) := by rw [hu16]; exact up_s _ _ _
          refine lv_dup hx hb dX11_make_39 rfl ?_
          refine lv_iload_n hx hb dX11_make_40 rfl (lv_at hl 2 rfl) ?_
          refine lv_iload_n hx hb dX11_make_41 rfl (lv_at hl 3 rfl) ?_
          refine g_callv (va_runI (As := [.int (zI p2), .int (zI p3)]) (rest := [.ref n15, .int (zI p1), .ref (ad 30)]) ⟨hx, hb, hml, hown, hts⟩ (kX5_init_X5 l D cy ad jf A u16 n15 p2 p3 ha_n15 hE_n15 (by omega)) (cwI 2 hts gX11_make_X5_init rfl rfl rfl (hts (.initialized RX5) (List.mem_cons_of_mem _ (List.mem_append_left _ (List.mem_append_left _ (List.mem_of_getElem? (i := 3) rfl))))) (hts (.methodLink RX11 228 yX5_init) (List.mem_cons_of_mem _ (List.mem_append_left _ (List.mem_append_left _ (List.mem_of_getElem? (i := 11) rfl))))) (hts (.instanceMethod yX5_init) (List.mem_cons_of_mem _ (List.mem_append_left _ (List.mem_append_left _ (List.mem_of_getElem? (i := 12) rfl))))) rfl (by decide +kernel) ⟨by decide, by decide⟩) (g_preS hG hC hS) rfl rfl hl.1 rfl (lv_room (Nat.le_of_ble_eq_true rfl)) dX11_make_42 ⟨Nat.le_of_ble_eq_true rfl, Nat.le_of_ble_eq_true rfl⟩) hS (fun u17 H locs hu17 hG hS => ?_)
          obtain ⟨b18, hb0, hu17⟩ := hu17
          rw [hu16] at hb0
          have hqb : n15 ≠ b18 := fun h => hb0 (h ▸ List.mem_append_right _ List.mem_cons_self)
          have hbL : b18 ∉ u.2.2.2.1 := fun h => hb0 (List.mem_append_left _ h)
          have hu17c : u17 = cRow cy u n15 b18 p2 p3.toNat (fun _ => 0) := by rw [hu17, hu16]; unfold cRow; simp only [up_aba]
          have hqL := hq_
          have ha_r : n15 ∈ u17.2.2.2.1 := by rw [hu17c]; exact cRow_q
          have hE_r : u17.2.2.2.2 n15 = .inr (4, [.int (zI p2), .ref b18]) := by rw [hu17c]; exact up_s _ _ _
          have ha_s : b18 ∈ u17.2.2.2.1 := by rw [hu17c]; exact cRow_b
          have hE_s : u17.2.2.2.2 b18 = .inl (cy 1, p3.toNat, .inl (fun j => zI ((fun _ => 0 : Nat → Int) j))) := by rw [hu17c]; exact cRow_E hqb
          obtain ⟨k9, hk9⟩ := va_pl_get (X := gFx cy ad jf u17) (f := u17.2.2.2.2) ha_r
          refine g_aastO (n := 8) (E := RX1) (r := (RX5, TX5, 2)) hx hb hC.1 hG hS 30 3 (by decide) (by decide) rfl rfl rfl hC.2.2.2.2.2.2.1.2.2.2.2 (hk9.trans (by rw [hE_r])) rfl (by omega) (by omega) (by decide) dX11_make_45 (fun u19 H locs hu19 hG hS => ?_)
          refine z_iconst hx hb dX11_make_46 ?_
          refine W.widen (k := 2) (n := 204) (Nat.le_of_ble_eq_true rfl) (Nat.le_of_ble_eq_true rfl) ?_
          exact W.iret (v := zI 0) hx hb hr (fun t9 ht9_ hW => ⟨⟨zI 0, u19, rfl, (by dsimp only; rw [if_pos (by omega), if_neg (by omega)]; exact ⟨rfl, n15, b18, hqL, hbL, hqb, (by subst hu19; subst hu17c; rfl)⟩), gB.mk' hG hC hS ht9_ hW⟩, hS.F ht9_⟩) hS.2.2 dX11_make_47
        · refine z_bipush hx hb dX11_make_28 (by decide) ?_
          refine W.widen (k := 2) (n := 204) (Nat.le_of_ble_eq_true rfl) (Nat.le_of_ble_eq_true rfl) ?_
          exact W.iret (v := zI ((-14))) hx hb hr (fun t9 ht9_ hW => ⟨⟨zI ((-14)), u, rfl, (by dsimp only; (first | (rw [if_neg (by omega)]; exact ⟨rfl, rfl⟩) | (rw [if_pos (by omega), if_pos (by omega)]; exact ⟨rfl, rfl⟩))), gB.mk' hG hC hS ht9_ hW⟩, hS.F ht9_⟩) hS.2.2 dX11_make_30
      · refine z_iconst hx hb dX11_make_22 ?_
        refine W.widen (k := 2) (n := 204) (Nat.le_of_ble_eq_true rfl) (Nat.le_of_ble_eq_true rfl) ?_
        exact W.iret (v := zI ((-1))) hx hb hr (fun t9 ht9_ hW => ⟨⟨zI ((-1)), u, rfl, (by dsimp only; (first | (rw [if_neg (by omega)]; exact ⟨rfl, rfl⟩) | (rw [if_pos (by omega), if_pos (by omega)]; exact ⟨rfl, rfl⟩))), gB.mk' hG hC hS ht9_ hW⟩, hS.F ht9_⟩) hS.2.2 dX11_make_23
set_option maxHeartbeats 4000000 in
set_option maxRecDepth 100000 in
theorem kX11_keep (l : Launch) (D : va_G) (cy : Nat → ClassId) (ad : Nat → Nat) (jf : Nat → Int64) (A : Nat → Prop) (u : gS) (p1 p2 p3 : Int) (j_p1 : -2147483648 ≤ p1 ∧ p1 < 2147483648) (j_p2 : -2147483648 ≤ p2 ∧ p2 < 2147483648) (j_p3 : -2147483648 ≤ p3 ∧ p3 < 2147483648) (i0 : 0 ≤ u.1 0 ∧ u.1 0 ≤ 10) (hq : 0 ≤ u.1 6 ∧ u.1 6 ≤ 100) (i13 : ∀ j, j < 101 → 0 ≤ u.2.1 13 j ∧ u.2.1 13 j ≤ 239) (i14 : ∀ j, j < 101 → 0 ≤ u.2.1 14 j ∧ u.2.1 14 j ≤ 119) (i15 : 0 ≤ u.1 15 ∧ u.1 15 ≤ 60) (i22 : ∀ j, j < 60 → 0 ≤ u.2.1 22 j ∧ u.2.1 22 j ≤ 99) (K S9 L9 F9 : Nat → Int) (hsw : ∀ j : Nat, (j : Int) < u.1 0 → ∃ a, swAt u j a (K j) (S9 j) (L9 j) (F9 j)) : Met l yX11_keep wsX11_keep ({ frames := 8, cells := 2, slots := 204, locals := 190 }) (va_Pc [.ref (ad 0), .int (zI p1), .int (zI p2), .int (zI p3)] (gB D cy ad jf A u)) (va_Qi (fun (r : Int32) (v : gS) => (if 0 ≤ p1 ∧ p1 ≤ 7 then (if p2 = 0 then r = zI 0 ∧ v = sR u 30 (va_up (u.2.2.1 30) p1.toNat none) else if p2 = 1 then (if 0 ≤ p3 ∧ p3 ≤ u.1 0 - 1 then r = zI 0 ∧ ∃ q, q ∉ u.2.2.2.1 ∧ v = sR (cTw u q (kc (K p3.toNat)) (p3.toNat : Int) (S9 p3.toNat) (L9 p3.toNat) (F9 p3.toNat)) 30 (va_up (u.2.2.1 30) p1.toNat (some q)) else r = zI (-1) ∧ v = u) else if p2 = 3 then r = zI 0 ∧ ∃ q b g, q ∉ u.2.2.2.1 ∧ b ∉ u.2.2.2.1 ∧ q ≠ b ∧ (∀ j : Nat, (j : Int) < cRowN u → g j = rowXY u j) ∧ v = sR (cRow cy u q b 3 (cRowN u).toNat g) 30 (va_up (u.2.2.1 30) p1.toNat (some q)) else if p2 = 4 then r = zI 0 ∧ ∃ q b g, q ∉ u.2.2.2.1 ∧ b ∉ u.2.2.2.1 ∧ q ≠ b ∧ (∀ j : Nat, (j : Int) < u.1 15 → g j = u.2.1 22 j) ∧ v = sR (cRow cy u q b 4 (u.1 15).toNat g) 30 (va_up (u.2.2.1 30) p1.toNat (some q)) else r = zI (-1) ∧ v = u) else r = zI (-1) ∧ v = u)) (gB D cy ad jf A) A) 2 204 A := by
  refine Met.ofW (cc := cX11_keep) (maxL := 5) (ret := (some .int)) (by decide) rfl ?_
  intro p e s m args below meth c s₁ B hml hv
  obtain ⟨rfl, hG, hC⟩ := hv
  have hx := B.exec
  have hb := B.bytes
  have hr := B.returns
  have hts := atoms_spec (ws := wsX11_keep) B.pre
  have hown : s.vm.findClass RX11 = some m.cls := findClass_of_methodNamed B.named
  have hlocks := B.notSynchronized
  have hS : va_S A s.heap s.heap [] := va_S.rf
  have hl := lv_entry ([.ref (ad 0), .int (zI p1), .int (zI p2), .int (zI p3)]) (n := 5) (Nat.le_of_ble_eq_true rfl)
  rw [lg_entry_eq]
  generalize (lg_sl ([.ref (ad 0), .int (zI p1), .int (zI p2), .int (zI p3)]) ++ List.replicate (5 - (lg_sl ([.ref (ad 0), .int (zI p1), .int (zI p2), .int (zI p3)])).length) Slot.unset).toArray = ls at hl ⊢
  have hl : lv_has ls 5 [(0, .ref (ad 0)), (1, .int (zI p1)), (2, .int (zI p2)), (3, .int (zI p3))] := hl
  refine lv_iload_n hx hb dX11_keep_0 rfl (lv_at hl 1 rfl) ?_
  refine g_calli (va_runS (As := [.int (zI p1)]) (rest := []) ⟨hx, hb, hml, hown, hts⟩ (kX11_isShelf l D cy ad jf A u p1 (by omega)) (va_cwS 1 hts gX11_keep_X11_isShelf rfl rfl rfl (by decide +kernel) ⟨by decide, by decide⟩) (g_preS hG hC hS) rfl rfl hl.1 rfl (lv_room (Nat.le_of_ble_eq_true rfl)) dX11_keep_1 ⟨Nat.le_of_ble_eq_true rfl, Nat.le_of_ble_eq_true rfl⟩) hS (fun r1 u2 H locs p_3 hG hS => ?_)
  obtain ⟨⟨b4, rfl, q_5⟩, he_⟩ := p_3
  rw [he_] at hG; clear he_
  have hbb4 : 0 ≤ b4 ∧ b4 ≤ 1 := by rcases q_5 with ⟨h, _⟩ | ⟨h, _⟩ <;> omega
  refine z_if_ne (tgt := 9) hx hb dX11_keep_4 (by decide) (by omega) (by omega) (fun c_6 => ?_) (fun c_6 => ?_)
  · refine lv_iload_n hx hb dX11_keep_9 rfl (lv_at hl 2 rfl) ?_
    rcases (show (p2 < 0 ∨ 4 < p2) ∨ p2 = 0 ∨ p2 = 1 ∨ p2 = 2 ∨ p2 = 3 ∨ p2 = 4 by omega) with c_7 | c_7 | c_7 | c_7 | c_7 | c_7
    · refine lv_tableOut (tgt := 104) hx hb dX11_keep_10 (by rw [zI_toInt (by omega) (by omega)]; omega) (by decide) ?_
      refine z_iconst hx hb dX11_keep_104 ?_
      refine W.widen (k := 2) (n := 204) (Nat.le_of_ble_eq_true rfl) (Nat.le_of_ble_eq_true rfl) ?_
      exact W.iret (v := zI ((-1))) hx hb hr (fun t9 ht9_ hW => ⟨⟨zI ((-1)), u, rfl, (by dsimp only; (repeat (first | rw [if_pos (by omega)] | rw [if_neg (by omega)])); exact ⟨rfl, (by skip; rfl)⟩), gB.mk' hG hC hS ht9_ hW⟩, hS.F ht9_⟩) hS.2.2 dX11_keep_105
    · refine lv_tableIn (off := 34) (tgt := 44) hx hb dX11_keep_10 (by rw [c_7]; decide) (by rw [c_7]; decide) (by rw [c_7]; decide) (by decide) ?_
      refine lv_aload_n hx hb dX11_keep_44 rfl (lv_at hl 0 rfl) ?_
      refine g_get (C := RX11) (T := TX11) (N := 14) (ci := 10) hx hb hts (fun _ h => (List.mem_cons_of_mem _ (List.mem_append_left _ (List.mem_append_left _ (List.mem_append_left _ (List.mem_append_left _ (List.mem_append_left _ (List.mem_append_left _ (List.mem_append_left _ (List.mem_append_right _ h)))))))))) hown hC.1 hG 0 (by decide) rfl rfl 13 (by decide) (hts (.fieldLink RX11 75 "StraitSwim" "shelves" "[LStraitSwim$Held;") (List.mem_cons_of_mem _ (List.mem_append_left _ (List.mem_append_left _ (List.mem_append_left _ (List.mem_append_left _ (List.mem_append_left _ (List.mem_append_left _ (List.mem_append_left _ (List.mem_append_left _ (List.mem_append_left _ (List.mem_of_getElem? (i := 0) rfl)))))))))))) (fun _ h9 => h9) rfl dX11_keep_45 ?_
      refine lv_iload_n hx hb dX11_keep_48 rfl (lv_at hl 1 rfl) ?_
      refine lv_null hx hb dX11_keep_49 ?_
      refine g_aastN (n := 8) (C := RX1) hx hb hC.1 hG hS 30 3 (by decide) (by decide) rfl rfl rfl (by omega) (by omega) (by decide) dX11_keep_50 (fun u8 H locs hu8 hG hS => ?_)
      refine z_iconst hx hb dX11_keep_51 ?_
      refine W.widen (k := 2) (n := 204) (Nat.le_of_ble_eq_true rfl) (Nat.le_of_ble_eq_true rfl) ?_
      exact W.iret (v := zI 0) hx hb hr (fun t9 ht9_ hW => ⟨⟨zI 0, u8, rfl, (by dsimp only; (repeat (first | rw [if_pos (by omega)] | rw [if_neg (by omega)])); exact ⟨rfl, (by subst hu8; rfl)⟩), gB.mk' hG hC hS ht9_ hW⟩, hS.F ht9_⟩) hS.2.2 dX11_keep_52
    · refine lv_tableIn (off := 43) (tgt := 53) hx hb dX11_keep_10 (by rw [c_7]; decide) (by rw [c_7]; decide) (by rw [c_7]; decide) (by decide) ?_
      refine lv_aload_n hx hb dX11_keep_53 rfl (lv_at hl 0 rfl) ?_
      refine lv_iload_n hx hb dX11_keep_54 rfl (lv_at hl 3 rfl) ?_
      refine g_callq (va_runV (As := [.int (zI p3)]) (rest := []) ⟨hx, hb, hml, hown, hts⟩ (kX11_known l D cy ad jf A u p3 (by omega) i0) (cwV 1 hts gX11_keep_X11_known rfl rfl rfl (by decide +kernel) ⟨by decide, by decide⟩) (g_preV (C := RX11) hG hC hS 0 (by decide) rfl rfl) rfl rfl hl.1 rfl (lv_room (Nat.le_of_ble_eq_true rfl)) dX11_keep_55 ⟨Nat.le_of_ble_eq_true rfl, Nat.le_of_ble_eq_true rfl⟩) hS (fun r9 u10 H locs p_11 hG hS => ?_)
      obtain ⟨hr_, he_⟩ := p_11
      rw [he_] at hG; clear he_
      by_cases hk_ : 0 ≤ p3 ∧ p3 ≤ u.1 0 - 1
      · rw [if_pos hk_] at hr_
        obtain ⟨a, ha0, ha, hE0, hki, hsp, hli, hfd⟩ := hsw p3.toNat (by omega)
        rw [ha0] at hr_
        subst hr_
        rcases (show K p3.toNat = 0 ∨ K p3.toNat = 1 ∨ K p3.toNat = 2 ∨ K p3.toNat = 3 by omega) with hk0 | hk0 | hk0 | hk0
        · have hE : u.2.2.2.2 a = .inr (2, [.int (zI (p3.toNat : Int)), .int (zI (S9 p3.toNat)), .int (zI (L9 p3.toNat)), .int (zI (F9 p3.toNat))]) := by rw [hE0, hk0]; rfl
          simp only [va_rf]
          refine lv_astore (lv' := [(4, .ref a), (0, .ref (ad 0)), (1, .int (zI p1)), (2, .int (zI p2)), (3, .int (zI p3))]) hx hb dX11_keep_58 hl (by decide) rfl (fun ls hl => ?_)
          refine lv_aload hx hb dX11_keep_60 (lv_at hl 0 rfl) ?_
          refine lv_ifnonnull (tgt := 67) hx hb dX11_keep_62 (by decide) ?_
          refine lv_aload_n hx hb dX11_keep_67 rfl (lv_at hl 1 rfl) ?_
          refine g_get (C := RX11) (T := TX11) (N := 14) (ci := 10) hx hb hts (fun _ h => (List.mem_cons_of_mem _ (List.mem_append_left _ (List.mem_append_left _ (List.mem_append_left _ (List.mem_append_left _ (List.mem_append_left _ (List.mem_append_left _ (List.mem_append_left _ (List.mem_append_right _ h)))))))))) hown hC.1 hG 0 (by decide) rfl rfl 13 (by decide) (hts (.fieldLink RX11 75 "StraitSwim" "shelves" "[LStraitSwim$Held;") (List.mem_cons_of_mem _ (List.mem_append_left _ (List.mem_append_left _ (List.mem_append_left _ (List.mem_append_left _ (List.mem_append_left _ (List.mem_append_left _ (List.mem_append_left _ (List.mem_append_left _ (List.mem_append_left _ (List.mem_of_getElem? (i := 0) rfl)))))))))))) (fun _ h9 => h9) rfl dX11_keep_68 ?_
          refine lv_iload_n hx hb dX11_keep_71 rfl (lv_at hl 2 rfl) ?_
          refine lv_aload hx hb dX11_keep_72 (lv_at hl 0 rfl) ?_
          refine g_callq (va_runS (As := [.ref a]) (rest := [.int (zI p1), .ref (ad 30)]) ⟨hx, hb, hml, hown, hts⟩ (kX11_twinOf_X3 l D cy ad jf A u a ((p3.toNat : Int)) (S9 p3.toNat) (L9 p3.toNat) (F9 p3.toNat)  ha hE ) (va_cwS 1 hts gX11_keep_X11_twinOf rfl rfl rfl (by decide +kernel) ⟨by decide, by decide⟩) (g_preS hG hC hS) rfl rfl hl.1 rfl (lv_room (Nat.le_of_ble_eq_true rfl)) dX11_keep_74 ⟨Nat.le_of_ble_eq_true rfl, Nat.le_of_ble_eq_true rfl⟩) hS (fun r12 u13 H locs p_14 hG hS => ?_)
          obtain ⟨q, rfl, hqL, hu13⟩ := p_14
          simp only [va_rf]
          have ha_q : q ∈ u13.2.2.2.1 := by rw [hu13]; exact List.mem_append_right _ List.mem_cons_self
          have hE_q : u13.2.2.2.2 q = .inr (2, [.int (zI ((p3.toNat : Int))), .int (zI (S9 p3.toNat)), .int (zI (L9 p3.toNat)), .int (zI (F9 p3.toNat))]) := by rw [hu13]; exact up_s _ _ _
          obtain ⟨k9, hk9⟩ := va_pl_get (X := gFx cy ad jf u13) (f := u13.2.2.2.2) ha_q
          refine g_aastO (n := 8) (E := RX1) (r := (RX3, TX3, 4)) hx hb hC.1 hG hS 30 3 (by decide) (by decide) rfl rfl rfl hC.2.2.2.2.2.2.1.2.1 (hk9.trans (by rw [hE_q])) rfl (by omega) (by omega) (by decide) dX11_keep_77 (fun u15 H locs hu15 hG hS => ?_)
          refine z_iconst hx hb dX11_keep_78 ?_
          refine W.widen (k := 2) (n := 204) (Nat.le_of_ble_eq_true rfl) (Nat.le_of_ble_eq_true rfl) ?_
          exact W.iret (v := zI 0) hx hb hr (fun t9 ht9_ hW => ⟨⟨zI 0, u15, rfl, (by dsimp only; (repeat (first | rw [if_pos (by omega)] | rw [if_neg (by omega)])); exact ⟨rfl, q, hqL, (by rw [hk0]; subst hu15; subst hu13; rfl)⟩), gB.mk' hG hC hS ht9_ hW⟩, hS.F ht9_⟩) hS.2.2 dX11_keep_79
        · have hE : u.2.2.2.2 a = .inr (0, [.int (zI (p3.toNat : Int)), .int (zI (S9 p3.toNat)), .int (zI (L9 p3.toNat)), .int (zI (F9 p3.toNat))]) := by rw [hE0, hk0]; rfl
          simp only [va_rf]
          refine lv_astore (lv' := [(4, .ref a), (0, .ref (ad 0)), (1, .int (zI p1)), (2, .int (zI p2)), (3, .int (zI p3))]) hx hb dX11_keep_58 hl (by decide) rfl (fun ls hl => ?_)
          refine lv_aload hx hb dX11_keep_60 (lv_at hl 0 rfl) ?_
          refine lv_ifnonnull (tgt := 67) hx hb dX11_keep_62 (by decide) ?_
          refine lv_aload_n hx hb dX11_keep_67 rfl (lv_at hl 1 rfl) ?_
          refine g_get (C := RX11) (T := TX11) (N := 14) (ci := 10) hx hb hts (fun _ h => (List.mem_cons_of_mem _ (List.mem_append_left _ (List.mem_append_left _ (List.mem_append_left _ (List.mem_append_left _ (List.mem_append_left _ (List.mem_append_left _ (List.mem_append_left _ (List.mem_append_right _ h)))))))))) hown hC.1 hG 0 (by decide) rfl rfl 13 (by decide) (hts (.fieldLink RX11 75 "StraitSwim" "shelves" "[LStraitSwim$Held;") (List.mem_cons_of_mem _ (List.mem_append_left _ (List.mem_append_left _ (List.mem_append_left _ (List.mem_append_left _ (List.mem_append_left _ (List.mem_append_left _ (List.mem_append_left _ (List.mem_append_left _ (List.mem_append_left _ (List.mem_of_getElem? (i := 0) rfl)))))))))))) (fun _ h9 => h9) rfl dX11_keep_68 ?_
          refine lv_iload_n hx hb dX11_keep_71 rfl (lv_at hl 2 rfl) ?_
          refine lv_aload hx hb dX11_keep_72 (lv_at hl 0 rfl) ?_
          refine g_callq (va_runS (As := [.ref a]) (rest := [.int (zI p1), .ref (ad 30)]) ⟨hx, hb, hml, hown, hts⟩ (kX11_twinOf_X0 l D cy ad jf A u a ((p3.toNat : Int)) (S9 p3.toNat) (L9 p3.toNat) (F9 p3.toNat)  ha hE ) (va_cwS 1 hts gX11_keep_X11_twinOf rfl rfl rfl (by decide +kernel) ⟨by decide, by decide⟩) (g_preS hG hC hS) rfl rfl hl.1 rfl (lv_room (Nat.le_of_ble_eq_true rfl)) dX11_keep_74 ⟨Nat.le_of_ble_eq_true rfl, Nat.le_of_ble_eq_true rfl⟩) hS (fun r16 u17 H locs p_18 hG hS => ?_)
          obtain ⟨q, rfl, hqL, hu17⟩ := p_18
          simp only [va_rf]
          have ha_q : q ∈ u17.2.2.2.1 := by rw [hu17]; exact List.mem_append_right _ List.mem_cons_self
          have hE_q : u17.2.2.2.2 q = .inr (0, [.int (zI ((p3.toNat : Int))), .int (zI (S9 p3.toNat)), .int (zI (L9 p3.toNat)), .int (zI (F9 p3.toNat))]) := by rw [hu17]; exact up_s _ _ _
          obtain ⟨k9, hk9⟩ := va_pl_get (X := gFx cy ad jf u17) (f := u17.2.2.2.2) ha_q
          refine g_aastO (n := 8) (E := RX1) (r := (RX0, TX0, 4)) hx hb hC.1 hG hS 30 3 (by decide) (by decide) rfl rfl rfl hC.2.2.2.2.2.2.1.1 (hk9.trans (by rw [hE_q])) rfl (by omega) (by omega) (by decide) dX11_keep_77 (fun u19 H locs hu19 hG hS => ?_)
          refine z_iconst hx hb dX11_keep_78 ?_
          refine W.widen (k := 2) (n := 204) (Nat.le_of_ble_eq_true rfl) (Nat.le_of_ble_eq_true rfl) ?_
          exact W.iret (v := zI 0) hx hb hr (fun t9 ht9_ hW => ⟨⟨zI 0, u19, rfl, (by dsimp only; (repeat (first | rw [if_pos (by omega)] | rw [if_neg (by omega)])); exact ⟨rfl, q, hqL, (by rw [hk0]; subst hu19; subst hu17; rfl)⟩), gB.mk' hG hC hS ht9_ hW⟩, hS.F ht9_⟩) hS.2.2 dX11_keep_79
        · have hE : u.2.2.2.2 a = .inr (3, [.int (zI (p3.toNat : Int)), .int (zI (S9 p3.toNat)), .int (zI (L9 p3.toNat)), .int (zI (F9 p3.toNat))]) := by rw [hE0, hk0]; rfl
          simp only [va_rf]
          refine lv_astore (lv' := [(4, .ref a), (0, .ref (ad 0)), (1, .int (zI p1)), (2, .int (zI p2)), (3, .int (zI p3))]) hx hb dX11_keep_58 hl (by decide) rfl (fun ls hl => ?_)
          refine lv_aload hx hb dX11_keep_60 (lv_at hl 0 rfl) ?_
          refine lv_ifnonnull (tgt := 67) hx hb dX11_keep_62 (by decide) ?_
          refine lv_aload_n hx hb dX11_keep_67 rfl (lv_at hl 1 rfl) ?_
          refine g_get (C := RX11) (T := TX11) (N := 14) (ci := 10) hx hb hts (fun _ h => (List.mem_cons_of_mem _ (List.mem_append_left _ (List.mem_append_left _ (List.mem_append_left _ (List.mem_append_left _ (List.mem_append_left _ (List.mem_append_left _ (List.mem_append_left _ (List.mem_append_right _ h)))))))))) hown hC.1 hG 0 (by decide) rfl rfl 13 (by decide) (hts (.fieldLink RX11 75 "StraitSwim" "shelves" "[LStraitSwim$Held;") (List.mem_cons_of_mem _ (List.mem_append_left _ (List.mem_append_left _ (List.mem_append_left _ (List.mem_append_left _ (List.mem_append_left _ (List.mem_append_left _ (List.mem_append_left _ (List.mem_append_left _ (List.mem_append_left _ (List.mem_of_getElem? (i := 0) rfl)))))))))))) (fun _ h9 => h9) rfl dX11_keep_68 ?_
          refine lv_iload_n hx hb dX11_keep_71 rfl (lv_at hl 2 rfl) ?_
          refine lv_aload hx hb dX11_keep_72 (lv_at hl 0 rfl) ?_
          refine g_callq (va_runS (As := [.ref a]) (rest := [.int (zI p1), .ref (ad 30)]) ⟨hx, hb, hml, hown, hts⟩ (kX11_twinOf_X4 l D cy ad jf A u a ((p3.toNat : Int)) (S9 p3.toNat) (L9 p3.toNat) (F9 p3.toNat)  ha hE ) (va_cwS 1 hts gX11_keep_X11_twinOf rfl rfl rfl (by decide +kernel) ⟨by decide, by decide⟩) (g_preS hG hC hS) rfl rfl hl.1 rfl (lv_room (Nat.le_of_ble_eq_true rfl)) dX11_keep_74 ⟨Nat.le_of_ble_eq_true rfl, Nat.le_of_ble_eq_true rfl⟩) hS (fun r20 u21 H locs p_22 hG hS => ?_)
          obtain ⟨q, rfl, hqL, hu21⟩ := p_22
          simp only [va_rf]
          have ha_q : q ∈ u21.2.2.2.1 := by rw [hu21]; exact List.mem_append_right _ List.mem_cons_self
          have hE_q : u21.2.2.2.2 q = .inr (3, [.int (zI ((p3.toNat : Int))), .int (zI (S9 p3.toNat)), .int (zI (L9 p3.toNat)), .int (zI (F9 p3.toNat))]) := by rw [hu21]; exact up_s _ _ _
          obtain ⟨k9, hk9⟩ := va_pl_get (X := gFx cy ad jf u21) (f := u21.2.2.2.2) ha_q
          refine g_aastO (n := 8) (E := RX1) (r := (RX4, TX4, 4)) hx hb hC.1 hG hS 30 3 (by decide) (by decide) rfl rfl rfl hC.2.2.2.2.2.2.1.2.2.1 (hk9.trans (by rw [hE_q])) rfl (by omega) (by omega) (by decide) dX11_keep_77 (fun u23 H locs hu23 hG hS => ?_)
          refine z_iconst hx hb dX11_keep_78 ?_
          refine W.widen (k := 2) (n := 204) (Nat.le_of_ble_eq_true rfl) (Nat.le_of_ble_eq_true rfl) ?_
          exact W.iret (v := zI 0) hx hb hr (fun t9 ht9_ hW => ⟨⟨zI 0, u23, rfl, (by dsimp only; (repeat (first | rw [if_pos (by omega)] | rw [if_neg (by omega)])); exact ⟨rfl, q, hqL, (by rw [hk0]; subst hu23; subst hu21; rfl)⟩), gB.mk' hG hC hS ht9_ hW⟩, hS.F ht9_⟩) hS.2.2 dX11_keep_79
        · have hE : u.2.2.2.2 a = .inr (5, [.int (zI (p3.toNat : Int)), .int (zI (S9 p3.toNat)), .int (zI (L9 p3.toNat)), .int (zI (F9 p3.toNat))]) := by rw [hE0, hk0]; rfl
          simp only [va_rf]
          refine lv_astore (lv' := [(4, .ref a), (0, .ref (ad 0)), (1, .int (zI p1)), (2, .int (zI p2)), (3, .int (zI p3))]) hx hb dX11_keep_58 hl (by decide) rfl (fun ls hl => ?_)
          refine lv_aload hx hb dX11_keep_60 (lv_at hl 0 rfl) ?_
          refine lv_ifnonnull (tgt := 67) hx hb dX11_keep_62 (by decide) ?_
          refine lv_aload_n hx hb dX11_keep_67 rfl (lv_at hl 1 rfl) ?_
          refine g_get (C := RX11) (T := TX11) (N := 14) (ci := 10) hx hb hts (fun _ h => (List.mem_cons_of_mem _ (List.mem_append_left _ (List.mem_append_left _ (List.mem_append_left _ (List.mem_append_left _ (List.mem_append_left _ (List.mem_append_left _ (List.mem_append_left _ (List.mem_append_right _ h)))))))))) hown hC.1 hG 0 (by decide) rfl rfl 13 (by decide) (hts (.fieldLink RX11 75 "StraitSwim" "shelves" "[LStraitSwim$Held;") (List.mem_cons_of_mem _ (List.mem_append_left _ (List.mem_append_left _ (List.mem_append_left _ (List.mem_append_left _ (List.mem_append_left _ (List.mem_append_left _ (List.mem_append_left _ (List.mem_append_left _ (List.mem_append_left _ (List.mem_of_getElem? (i := 0) rfl)))))))))))) (fun _ h9 => h9) rfl dX11_keep_68 ?_
          refine lv_iload_n hx hb dX11_keep_71 rfl (lv_at hl 2 rfl) ?_
          refine lv_aload hx hb dX11_keep_72 (lv_at hl 0 rfl) ?_
          refine g_callq (va_runS (As := [.ref a]) (rest := [.int (zI p1), .ref (ad 30)]) ⟨hx, hb, hml, hown, hts⟩ (kX11_twinOf_X6 l D cy ad jf A u a ((p3.toNat : Int)) (S9 p3.toNat) (L9 p3.toNat) (F9 p3.toNat)  ha hE ) (va_cwS 1 hts gX11_keep_X11_twinOf rfl rfl rfl (by decide +kernel) ⟨by decide, by decide⟩) (g_preS hG hC hS) rfl rfl hl.1 rfl (lv_room (Nat.le_of_ble_eq_true rfl)) dX11_keep_74 ⟨Nat.le_of_ble_eq_true rfl, Nat.le_of_ble_eq_true rfl⟩) hS (fun r24 u25 H locs p_26 hG hS => ?_)
          obtain ⟨q, rfl, hqL, hu25⟩ := p_26
          simp only [va_rf]
          have ha_q : q ∈ u25.2.2.2.1 := by rw [hu25]; exact List.mem_append_right _ List.mem_cons_self
          have hE_q : u25.2.2.2.2 q = .inr (5, [.int (zI ((p3.toNat : Int))), .int (zI (S9 p3.toNat)), .int (zI (L9 p3.toNat)), .int (zI (F9 p3.toNat))]) := by rw [hu25]; exact up_s _ _ _
          obtain ⟨k9, hk9⟩ := va_pl_get (X := gFx cy ad jf u25) (f := u25.2.2.2.2) ha_q
          refine g_aastO (n := 8) (E := RX1) (r := (RX6, TX6, 4)) hx hb hC.1 hG hS 30 3 (by decide) (by decide) rfl rfl rfl hC.2.2.2.2.2.2.1.2.2.2.1 (hk9.trans (by rw [hE_q])) rfl (by omega) (by omega) (by decide) dX11_keep_77 (fun u27 H locs hu27 hG hS => ?_)
          refine z_iconst hx hb dX11_keep_78 ?_
          refine W.widen (k := 2) (n := 204) (Nat.le_of_ble_eq_true rfl) (Nat.le_of_ble_eq_true rfl) ?_
          exact W.iret (v := zI 0) hx hb hr (fun t9 ht9_ hW => ⟨⟨zI 0, u27, rfl, (by dsimp only; (repeat (first | rw [if_pos (by omega)] | rw [if_neg (by omega)])); exact ⟨rfl, q, hqL, (by rw [hk0]; subst hu27; subst hu25; rfl)⟩), gB.mk' hG hC hS ht9_ hW⟩, hS.F ht9_⟩) hS.2.2 dX11_keep_79
      · rw [if_neg hk_] at hr_
        subst hr_
        simp only [va_rf]
        refine lv_astoreN (lv' := [(4, .null), (0, .ref (ad 0)), (1, .int (zI p1)), (2, .int (zI p2)), (3, .int (zI p3))]) hx hb dX11_keep_58 hl (by decide) rfl (fun ls hl => ?_)
        refine lv_aloadN hx hb dX11_keep_60 (lv_at hl 0 rfl) ?_
        refine lv_ifnonnullN hx hb dX11_keep_62 ?_
        refine z_iconst hx hb dX11_keep_65 ?_
        refine W.widen (k := 2) (n := 204) (Nat.le_of_ble_eq_true rfl) (Nat.le_of_ble_eq_true rfl) ?_
        exact W.iret (v := zI ((-1))) hx hb hr (fun t9 ht9_ hW => ⟨⟨zI ((-1)), u, rfl, (by dsimp only; (repeat (first | rw [if_pos (by omega)] | rw [if_neg (by omega)])); exact ⟨rfl, (by skip; rfl)⟩), gB.mk' hG hC hS ht9_ hW⟩, hS.F ht9_⟩) hS.2.2 dX11_keep_66
    · refine lv_tableIn (off := 94) (tgt := 104) hx hb dX11_keep_10 (by rw [c_7]; decide) (by rw [c_7]; decide) (by rw [c_7]; decide) (by decide) ?_
      refine z_iconst hx hb dX11_keep_104 ?_
      refine W.widen (k := 2) (n := 204) (Nat.le_of_ble_eq_true rfl) (Nat.le_of_ble_eq_true rfl) ?_
      exact W.iret (v := zI ((-1))) hx hb hr (fun t9 ht9_ hW => ⟨⟨zI ((-1)), u, rfl, (by dsimp only; (repeat (first | rw [if_pos (by omega)] | rw [if_neg (by omega)])); exact ⟨rfl, (by skip; rfl)⟩), gB.mk' hG hC hS ht9_ hW⟩, hS.F ht9_⟩) hS.2.2 dX11_keep_105
    · refine lv_tableIn (off := 70) (tgt := 80) hx hb dX11_keep_10 (by rw [c_7]; decide) (by rw [c_7]; decide) (by rw [c_7]; decide) (by decide) ?_
      refine lv_aload_n hx hb dX11_keep_80 rfl (lv_at hl 0 rfl) ?_
      refine g_get (C := RX11) (T := TX11) (N := 14) (ci := 10) hx hb hts (fun _ h => (List.mem_cons_of_mem _ (List.mem_append_left _ (List.mem_append_left _ (List.mem_append_left _ (List.mem_append_left _ (List.mem_append_left _ (List.mem_append_left _ (List.mem_append_left _ (List.mem_append_right _ h)))))))))) hown hC.1 hG 0 (by decide) rfl rfl 13 (by decide) (hts (.fieldLink RX11 75 "StraitSwim" "shelves" "[LStraitSwim$Held;") (List.mem_cons_of_mem _ (List.mem_append_left _ (List.mem_append_left _ (List.mem_append_left _ (List.mem_append_left _ (List.mem_append_left _ (List.mem_append_left _ (List.mem_append_left _ (List.mem_append_left _ (List.mem_append_left _ (List.mem_of_getElem? (i := 0) rfl)))))))))))) (fun _ h9 => h9) rfl dX11_keep_81 ?_
      refine lv_iload_n hx hb dX11_keep_84 rfl (lv_at hl 1 rfl) ?_
      refine lv_aload_n hx hb dX11_keep_85 rfl (lv_at hl 0 rfl) ?_
      refine g_callq (va_runV (As := []) (rest := [.int (zI p1), .ref (ad 30)]) ⟨hx, hb, hml, hown, hts⟩ (kX11_rowOfLatest l D cy ad jf A u  hq i13 i14) (cwV 0 hts gX11_keep_X11_rowOfLatest rfl rfl rfl (by decide +kernel) ⟨by decide, by decide⟩) (g_preV (C := RX11) hG hC hS 0 (by decide) rfl rfl) rfl rfl hl.1 rfl (lv_room (Nat.le_of_ble_eq_true rfl)) dX11_keep_86 ⟨Nat.le_of_ble_eq_true rfl, Nat.le_of_ble_eq_true rfl⟩) hS (fun r28 u29 H locs p_30 hG hS => ?_)
      obtain ⟨q, b, g, rfl, hqL, hbL, hqb, hu29, hg⟩ := p_30
      simp only [va_rf]
      have ha_q : q ∈ u29.2.2.2.1 := by rw [hu29]; exact cRow_q
      have hE_q : u29.2.2.2.2 q = .inr (4, [.int (zI 3), .ref b]) := by rw [hu29]; exact up_s _ _ _
      obtain ⟨k9, hk9⟩ := va_pl_get (X := gFx cy ad jf u29) (f := u29.2.2.2.2) ha_q
      refine g_aastO (n := 8) (E := RX1) (r := (RX5, TX5, 2)) hx hb hC.1 hG hS 30 3 (by decide) (by decide) rfl rfl rfl hC.2.2.2.2.2.2.1.2.2.2.2 (hk9.trans (by rw [hE_q])) rfl (by omega) (by omega) (by decide) dX11_keep_89 (fun u31 H locs hu31 hG hS => ?_)
      refine z_iconst hx hb dX11_keep_90 ?_
      refine W.widen (k := 2) (n := 204) (Nat.le_of_ble_eq_true rfl) (Nat.le_of_ble_eq_true rfl) ?_
      exact W.iret (v := zI 0) hx hb hr (fun t9 ht9_ hW => ⟨⟨zI 0, u31, rfl, (by dsimp only; (repeat (first | rw [if_pos (by omega)] | rw [if_neg (by omega)])); exact ⟨rfl, q, b, g, hqL, hbL, hqb, hg, (by subst hu31; subst hu29; rfl)⟩), gB.mk' hG hC hS ht9_ hW⟩, hS.F ht9_⟩) hS.2.2 dX11_keep_91
    · refine lv_tableIn (off := 82) (tgt := 92) hx hb dX11_keep_10 (by rw [c_7]; decide) (by rw [c_7]; decide) (by rw [c_7]; decide) (by decide) ?_
      refine lv_aload_n hx hb dX11_keep_92 rfl (lv_at hl 0 rfl) ?_
      refine g_get (C := RX11) (T := TX11) (N := 14) (ci := 10) hx hb hts (fun _ h => (List.mem_cons_of_mem _ (List.mem_append_left _ (List.mem_append_left _ (List.mem_append_left _ (List.mem_append_left _ (List.mem_append_left _ (List.mem_append_left _ (List.mem_append_left _ (List.mem_append_right _ h)))))))))) hown hC.1 hG 0 (by decide) rfl rfl 13 (by decide) (hts (.fieldLink RX11 75 "StraitSwim" "shelves" "[LStraitSwim$Held;") (List.mem_cons_of_mem _ (List.mem_append_left _ (List.mem_append_left _ (List.mem_append_left _ (List.mem_append_left _ (List.mem_append_left _ (List.mem_append_left _ (List.mem_append_left _ (List.mem_append_left _ (List.mem_append_left _ (List.mem_of_getElem? (i := 0) rfl)))))))))))) (fun _ h9 => h9) rfl dX11_keep_93 ?_
      refine lv_iload_n hx hb dX11_keep_96 rfl (lv_at hl 1 rfl) ?_
      refine lv_aload_n hx hb dX11_keep_97 rfl (lv_at hl 0 rfl) ?_
      refine g_callq (va_runV (As := []) (rest := [.int (zI p1), .ref (ad 30)]) ⟨hx, hb, hml, hown, hts⟩ (kX11_rowOfCounts l D cy ad jf A u  i15 i22) (cwV 0 hts gX11_keep_X11_rowOfCounts rfl rfl rfl (by decide +kernel) ⟨by decide, by decide⟩) (g_preV (C := RX11) hG hC hS 0 (by decide) rfl rfl) rfl rfl hl.1 rfl (lv_room (Nat.le_of_ble_eq_true rfl)) dX11_keep_98 ⟨Nat.le_of_ble_eq_true rfl, Nat.le_of_ble_eq_true rfl⟩) hS (fun r32 u33 H locs p_34 hG hS => ?_)
      obtain ⟨q, b, g, rfl, hqL, hbL, hqb, hu33, hg⟩ := p_34
      simp only [va_rf]
      have ha_q : q ∈ u33.2.2.2.1 := by rw [hu33]; exact cRow_q
      have hE_q : u33.2.2.2.2 q = .inr (4, [.int (zI 4), .ref b]) := by rw [hu33]; exact up_s _ _ _
      obtain ⟨k9, hk9⟩ := va_pl_get (X := gFx cy ad jf u33) (f := u33.2.2.2.2) ha_q
      refine g_aastO (n := 8) (E := RX1) (r := (RX5, TX5, 2)) hx hb hC.1 hG hS 30 3 (by decide) (by decide) rfl rfl rfl hC.2.2.2.2.2.2.1.2.2.2.2 (hk9.trans (by rw [hE_q])) rfl (by omega) (by omega) (by decide) dX11_keep_101 (fun u35 H locs hu35 hG hS => ?_)
      refine z_iconst hx hb dX11_keep_102 ?_
      refine W.widen (k := 2) (n := 204) (Nat.le_of_ble_eq_true rfl) (Nat.le_of_ble_eq_true rfl) ?_
      exact W.iret (v := zI 0) hx hb hr (fun t9 ht9_ hW => ⟨⟨zI 0, u35, rfl, (by dsimp only; (repeat (first | rw [if_pos (by omega)] | rw [if_neg (by omega)])); exact ⟨rfl, q, b, g, hqL, hbL, hqb, hg, (by subst hu35; subst hu33; rfl)⟩), gB.mk' hG hC hS ht9_ hW⟩, hS.F ht9_⟩) hS.2.2 dX11_keep_103
  · refine z_iconst hx hb dX11_keep_7 ?_
    refine W.widen (k := 2) (n := 204) (Nat.le_of_ble_eq_true rfl) (Nat.le_of_ble_eq_true rfl) ?_
    exact W.iret (v := zI ((-1))) hx hb hr (fun t9 ht9_ hW => ⟨⟨zI ((-1)), u, rfl, (by dsimp only; (repeat (first | rw [if_pos (by omega)] | rw [if_neg (by omega)])); exact ⟨rfl, (by skip; rfl)⟩), gB.mk' hG hC hS ht9_ hW⟩, hS.F ht9_⟩) hS.2.2 dX11_keep_8
set_option maxHeartbeats 4000000 in
set_option maxRecDepth 100000 in
theorem kX11_weight (l : Launch) (D : va_G) (cy : Nat → ClassId) (ad : Nat → Nat) (jf : Nat → Int64) (A : Nat → Prop) (u : gS) (p1 : Int) (j_p1 : -2147483648 ≤ p1 ∧ p1 < 2147483648) (HK KD NM SP LI FD : Nat → Int) (BA NN : Nat → Nat) (GG : Nat → Nat → Int) (hsl : ∀ d, d < 8 → slAt cy u d (HK d) (KD d) (NM d) (SP d) (LI d) (FD d) (BA d) (NN d) (GG d)) : Met l yX11_weight wsX11_weight ({ frames := 5, cells := 0, slots := 0, locals := 100 }) (va_Pc [.ref (ad 0), .int (zI p1)] (gB D cy ad jf A u)) (va_Qi (fun (r : Int32) (v : gS) => r = zI (cWeight HK KD SP LI FD p1) ∧ v = u) (gB D cy ad jf A) A) 0 0 A := by
  refine Met.ofW (cc := cX11_weight) (maxL := 4) (ret := (some .int)) (by decide) rfl ?_
  intro p e s m args below meth c s₁ B hml hv
  obtain ⟨rfl, hG, hC⟩ := hv
  have hx := B.exec
  have hb := B.bytes
  have hr := B.returns
  have hts := atoms_spec (ws := wsX11_weight) B.pre
  have hown : s.vm.findClass RX11 = some m.cls := findClass_of_methodNamed B.named
  have hlocks := B.notSynchronized
  have hS : va_S A s.heap s.heap [] := va_S.rf
  have hl := lv_entry ([.ref (ad 0), .int (zI p1)]) (n := 4) (Nat.le_of_ble_eq_true rfl)
  rw [lg_entry_eq]
  generalize (lg_sl ([.ref (ad 0), .int (zI p1)]) ++ List.replicate (4 - (lg_sl ([.ref (ad 0), .int (zI p1)])).length) Slot.unset).toArray = ls at hl ⊢
  have hl : lv_has ls 4 [(0, .ref (ad 0)), (1, .int (zI p1))] := hl
  refine lv_iload_n hx hb dX11_weight_0 rfl (lv_at hl 1 rfl) ?_
  refine g_calli (va_runS (As := [.int (zI p1)]) (rest := []) ⟨hx, hb, hml, hown, hts⟩ (kX11_isShelf l D cy ad jf A u p1 (by omega)) (va_cwS 1 hts gX11_weight_X11_isShelf rfl rfl rfl (by decide +kernel) ⟨by decide, by decide⟩) (g_preS hG hC hS) rfl rfl hl.1 rfl (lv_room (Nat.le_of_ble_eq_true rfl)) dX11_weight_1 ⟨Nat.le_of_ble_eq_true rfl, Nat.le_of_ble_eq_true rfl⟩) hS (fun r1 u2 H locs p_3 hG hS => ?_)
  obtain ⟨⟨b4, rfl, q_5⟩, he_⟩ := p_3
  rw [he_] at hG; clear he_
  have hbb4 : 0 ≤ b4 ∧ b4 ≤ 1 := by rcases q_5 with ⟨h, _⟩ | ⟨h, _⟩ <;> omega
  refine z_if_ne (tgt := 9) hx hb dX11_weight_4 (by decide) (by omega) (by omega) (fun c_6 => ?_) (fun c_6 => ?_)
  · refine lv_aload_n hx hb dX11_weight_9 rfl (lv_at hl 0 rfl) ?_
    refine g_get (C := RX11) (T := TX11) (N := 14) (ci := 10) hx hb hts (fun _ h => (List.mem_cons_of_mem _ (List.mem_append_left _ (List.mem_append_left _ (List.mem_append_left _ (List.mem_append_left _ (List.mem_append_right _ h))))))) hown hC.1 hG 0 (by decide) rfl rfl 13 (by decide) (hts (.fieldLink RX11 75 "StraitSwim" "shelves" "[LStraitSwim$Held;") (List.mem_cons_of_mem _ (List.mem_append_left _ (List.mem_append_left _ (List.mem_append_left _ (List.mem_append_left _ (List.mem_append_left _ (List.mem_append_left _ (List.mem_of_getElem? (i := 0) rfl))))))))) (fun _ h9 => h9) rfl dX11_weight_10 ?_
    refine lv_iload_n hx hb dX11_weight_13 rfl (lv_at hl 1 rfl) ?_
    refine g_aald (n := 8) hx hb hC.1 hG 30 3 (by decide) rfl rfl (by omega) (by omega) (by decide) dX11_weight_14 ?_
    rcases hsl p1.toNat (by omega) with ⟨hs1, hk1⟩ | ⟨a1, hs1, ha1, hk1, hkd1, hsp1, hli1, hfd1, hE1⟩ | ⟨a1, hs1, ha1, hk1, hE1, hb1, hEb1, hn1, hg1⟩
    · rw [hs1]
      simp only [va_rf]
      refine lv_ifnonnullN hx hb dX11_weight_15 ?_
      refine z_bipush hx hb dX11_weight_18 (by decide) ?_
      exact W.iret (v := zI ((-11))) hx hb hr (fun t9 ht9_ hW => ⟨⟨zI ((-11)), u, rfl, (by refine ⟨?_, rfl⟩; unfold cWeight; (repeat (first | rw [if_pos (by omega)] | rw [if_neg (by omega)])); all_goals (first | rfl | (unfold cHeft; (repeat (first | rw [if_pos (by omega)] | rw [if_neg (by omega)])); all_goals (subst_vars; first | rfl | (congr 1; omega))))), gB.mk' hG hC hS ht9_ hW⟩, hS.F ht9_⟩) hS.2.2 dX11_weight_20
    · rw [hs1]
      simp only [va_rf]
      refine lv_ifnonnull (tgt := 21) hx hb dX11_weight_15 (by decide) ?_
      refine lv_aload_n hx hb dX11_weight_21 rfl (lv_at hl 0 rfl) ?_
      refine g_get (C := RX11) (T := TX11) (N := 14) (ci := 10) hx hb hts (fun _ h => (List.mem_cons_of_mem _ (List.mem_append_left _ (List.mem_append_left _ (List.mem_append_left _ (List.mem_append_left _ (List.mem_append_right _ h))))))) hown hC.1 hG 0 (by decide) rfl rfl 13 (by decide) (hts (.fieldLink RX11 75 "StraitSwim" "shelves" "[LStraitSwim$Held;") (List.mem_cons_of_mem _ (List.mem_append_left _ (List.mem_append_left _ (List.mem_append_left _ (List.mem_append_left _ (List.mem_append_left _ (List.mem_append_left _ (List.mem_of_getElem? (i := 0) rfl))))))))) (fun _ h9 => h9) rfl dX11_weight_22 ?_
      refine lv_iload_n hx hb dX11_weight_25 rfl (lv_at hl 1 rfl) ?_
      refine g_aald (n := 8) hx hb hC.1 hG 30 3 (by decide) rfl rfl (by omega) (by omega) (by decide) dX11_weight_26 ?_
      rw [hs1]
      simp only [va_rf]
      refine lv_astore_n (lv' := [(3, .ref a1), (0, .ref (ad 0)), (1, .int (zI p1))]) hx hb dX11_weight_27 rfl hl (by decide) rfl (fun ls hl => ?_)
      refine lv_aload_n hx hb dX11_weight_28 rfl (lv_at hl 0 rfl) ?_
      rcases (show KD p1.toNat = 0 ∨ KD p1.toNat = 1 ∨ KD p1.toNat = 2 ∨ KD p1.toNat = 3 by omega) with hk0 | hk0 | hk0 | hk0
      · have hE7 : u.2.2.2.2 a1 = .inr (2, [.int (zI (NM p1.toNat)), .int (zI (SP p1.toNat)), .int (zI (LI p1.toNat)), .int (zI (FD p1.toNat))]) := by rw [hE1, hk0]; rfl
        obtain ⟨k9, hk9⟩ := va_pl_get (X := gFx cy ad jf u) (f := u.2.2.2.2) ha1
        refine g_instS hx hb hown (hts (.classLink RX11 16 "StraitSwim$Plain") (List.mem_cons_of_mem _ (List.mem_append_left _ (List.mem_append_left _ (List.mem_append_left _ (List.mem_append_left _ (List.mem_append_left _ (List.mem_append_left _ (List.mem_of_getElem? (i := 1) rfl))))))))) (hC.1.1 2 _ rfl).2 (va_recv (q := (RX3, TX3, 4)) hC.1 hG.1 rfl (hk9.trans (by rw [hE7]))) dX11_weight_29 ?_
        refine z_if_eq (tgt := 47) hx hb dX11_weight_32 (by decide) (by omega) (by omega) (fun c_8 => ?_) (fun c_8 => ?_)
        · exfalso; omega
        · refine lv_aload_n hx hb dX11_weight_35 rfl (lv_at hl 0 rfl) ?_
          obtain ⟨k9, hk9⟩ := va_pl_get (X := gFx cy ad jf u) (f := u.2.2.2.2) ha1
          refine va_castS hx hb hown (hts (.classLink RX11 16 "StraitSwim$Plain") (List.mem_cons_of_mem _ (List.mem_append_left _ (List.mem_append_left _ (List.mem_append_left _ (List.mem_append_left _ (List.mem_append_left _ (List.mem_append_left _ (List.mem_of_getElem? (i := 1) rfl))))))))) (hC.1.1 2 _ rfl).2 (va_recv (q := (RX3, TX3, 4)) hC.1 hG.1 rfl (hk9.trans (by rw [hE7]))) dX11_weight_36 ?_
          refine lv_astore_n (lv' := [(2, .ref a1), (3, .ref a1), (0, .ref (ad 0)), (1, .int (zI p1))]) hx hb dX11_weight_39 rfl hl (by decide) rfl (fun ls hl => ?_)
          refine lv_aload_n hx hb dX11_weight_40 rfl (lv_at hl 0 rfl) ?_
          obtain ⟨k9, hk9⟩ := va_pl_get (X := gFx cy ad jf u) (f := u.2.2.2.2) ha1
          refine g_calli (va_runV (As := []) (rest := []) ⟨hx, hb, hml, hown, hts⟩ (kX3_heft_X3 l D cy ad jf A u a1 (NM p1.toNat) (SP p1.toNat) (LI p1.toNat) (FD p1.toNat)  ha1 hE7 (by omega) (by omega)) (cwV 0 hts gX11_weight_X3_heft rfl rfl rfl (by decide +kernel) ⟨by decide, by decide⟩) (g_preD (C := RX3) hG hC hS (hk9.trans (by rw [hE7])) rfl) rfl rfl hl.1 rfl (lv_room (Nat.le_of_ble_eq_true rfl)) dX11_weight_41 ⟨Nat.le_of_ble_eq_true rfl, Nat.le_of_ble_eq_true rfl⟩) hS (fun r9 u10 H locs p_11 hG hS => ?_)
          obtain ⟨rfl, he_⟩ := p_11
          rw [he_] at hG; clear he_
          obtain ⟨z12, hz12⟩ : ∃ z : Int, z = 10 + (SP p1.toNat) + (FD p1.toNat) := ⟨_, rfl⟩
          rw [← hz12]
          have qz12 : 0 ≤ z12 ∧ z12 ≤ 100 := by rw [hz12]; (first | omega | (unfold spAt1; split <;> omega) | (unfold spAt1; split <;> split <;> omega) | (split <;> first | omega | (unfold spAt1; split <;> omega)) | (unfold spPace spPc spAt1; split <;> (first | omega | (split <;> first | omega | (split <;> omega)))))
          refine lv_goto (tgt := 49) hx hb dX11_weight_44 (by decide) ?_
          exact W.iret (v := zI z12) hx hb hr (fun t9 ht9_ hW => ⟨⟨zI z12, u, rfl, (by refine ⟨?_, rfl⟩; unfold cWeight; (repeat (first | rw [if_pos (by omega)] | rw [if_neg (by omega)])); all_goals (first | rfl | (unfold cHeft; (repeat (first | rw [if_pos (by omega)] | rw [if_neg (by omega)])); all_goals (subst_vars; first | rfl | (congr 1; omega))))), gB.mk' hG hC hS ht9_ hW⟩, hS.F ht9_⟩) hS.2.2 dX11_weight_49
      · have hE13 : u.2.2.2.2 a1 = .inr (0, [.int (zI (NM p1.toNat)), .int (zI (SP p1.toNat)), .int (zI (LI p1.toNat)), .int (zI (FD p1.toNat))]) := by rw [hE1, hk0]; rfl
        obtain ⟨k9, hk9⟩ := va_pl_get (X := gFx cy ad jf u) (f := u.2.2.2.2) ha1
        refine g_instY hx hb hown (hts (.classLink RX11 16 "StraitSwim$Plain") (List.mem_cons_of_mem _ (List.mem_append_left _ (List.mem_append_left _ (List.mem_append_left _ (List.mem_append_left _ (List.mem_append_left _ (List.mem_append_left _ (List.mem_of_getElem? (i := 1) rfl))))))))) hC.2.2.2.2.2.1.1 (va_recv (q := (RX0, TX0, 4)) hC.1 hG.1 rfl (hk9.trans (by rw [hE13]))) dX11_weight_29 ?_
        refine z_if_eq (tgt := 47) hx hb dX11_weight_32 (by decide) (by omega) (by omega) (fun c_14 => ?_) (fun c_14 => ?_)
        · exfalso; omega
        · refine lv_aload_n hx hb dX11_weight_35 rfl (lv_at hl 0 rfl) ?_
          obtain ⟨k9, hk9⟩ := va_pl_get (X := gFx cy ad jf u) (f := u.2.2.2.2) ha1
          refine va_castY hx hb hown (hts (.classLink RX11 16 "StraitSwim$Plain") (List.mem_cons_of_mem _ (List.mem_append_left _ (List.mem_append_left _ (List.mem_append_left _ (List.mem_append_left _ (List.mem_append_left _ (List.mem_append_left _ (List.mem_of_getElem? (i := 1) rfl))))))))) hC.2.2.2.2.2.1.1 (va_recv (q := (RX0, TX0, 4)) hC.1 hG.1 rfl (hk9.trans (by rw [hE13]))) dX11_weight_36 ?_
          refine lv_astore_n (lv' := [(2, .ref a1), (3, .ref a1), (0, .ref (ad 0)), (1, .int (zI p1))]) hx hb dX11_weight_39 rfl hl (by decide) rfl (fun ls hl => ?_)
          refine lv_aload_n hx hb dX11_weight_40 rfl (lv_at hl 0 rfl) ?_
          obtain ⟨k9, hk9⟩ := va_pl_get (X := gFx cy ad jf u) (f := u.2.2.2.2) ha1
          refine g_calli (va_runU (As := []) (rest := []) ⟨hx, hb, hml, hown, hts⟩ (kX0_heft_X0 l D cy ad jf A u a1 (NM p1.toNat) (SP p1.toNat) (LI p1.toNat) (FD p1.toNat)  ha1 hE13 (by omega) (by omega)) (va_cwO 0 hts gX11_weight_X0_heft_u253X0 rfl rfl rfl (List.mem_cons_of_mem _ (List.mem_append_left _ (List.mem_append_left _ (List.mem_append_left _ (List.mem_append_left _ (List.mem_append_left _ (List.mem_append_left _ (List.mem_of_getElem? (i := 20) rfl)))))))) (by decide +kernel) ⟨by decide, by decide⟩) (g_preD (C := RX0) hG hC hS (hk9.trans (by rw [hE13])) rfl) rfl rfl hl.1 rfl (lv_room (Nat.le_of_ble_eq_true rfl)) dX11_weight_41 ⟨Nat.le_of_ble_eq_true rfl, Nat.le_of_ble_eq_true rfl⟩) hS (fun r15 u16 H locs p_17 hG hS => ?_)
          obtain ⟨rfl, he_⟩ := p_17
          rw [he_] at hG; clear he_
          obtain ⟨z18, hz18⟩ : ∃ z : Int, z = 10 + (SP p1.toNat) + (FD p1.toNat) + 100 := ⟨_, rfl⟩
          rw [← hz18]
          have qz18 : 0 ≤ z18 ∧ z18 ≤ 1000 := by rw [hz18]; (first | omega | (unfold spAt1; split <;> omega) | (unfold spAt1; split <;> split <;> omega) | (split <;> first | omega | (unfold spAt1; split <;> omega)) | (unfold spPace spPc spAt1; split <;> (first | omega | (split <;> first | omega | (split <;> omega)))))
          refine lv_goto (tgt := 49) hx hb dX11_weight_44 (by decide) ?_
          exact W.iret (v := zI z18) hx hb hr (fun t9 ht9_ hW => ⟨⟨zI z18, u, rfl, (by refine ⟨?_, rfl⟩; unfold cWeight; (repeat (first | rw [if_pos (by omega)] | rw [if_neg (by omega)])); all_goals (first | rfl | (unfold cHeft; (repeat (first | rw [if_pos (by omega)] | rw [if_neg (by omega)])); all_goals (subst_vars; first | rfl | (congr 1; omega))))), gB.mk' hG hC hS ht9_ hW⟩, hS.F ht9_⟩) hS.2.2 dX11_weight_49
      · have hE19 : u.2.2.2.2 a1 = .inr (3, [.int (zI (NM p1.toNat)), .int (zI (SP p1.toNat)), .int (zI (LI p1.toNat)), .int (zI (FD p1.toNat))]) := by rw [hE1, hk0]; rfl
        obtain ⟨k9, hk9⟩ := va_pl_get (X := gFx cy ad jf u) (f := u.2.2.2.2) ha1
        refine g_instY hx hb hown (hts (.classLink RX11 16 "StraitSwim$Plain") (List.mem_cons_of_mem _ (List.mem_append_left _ (List.mem_append_left _ (List.mem_append_left _ (List.mem_append_left _ (List.mem_append_left _ (List.mem_append_left _ (List.mem_of_getElem? (i := 1) rfl))))))))) hC.2.2.2.2.2.1.2.1 (va_recv (q := (RX4, TX4, 4)) hC.1 hG.1 rfl (hk9.trans (by rw [hE19]))) dX11_weight_29 ?_
        refine z_if_eq (tgt := 47) hx hb dX11_weight_32 (by decide) (by omega) (by omega) (fun c_20 => ?_) (fun c_20 => ?_)
        · exfalso; omega
        · refine lv_aload_n hx hb dX11_weight_35 rfl (lv_at hl 0 rfl) ?_
          obtain ⟨k9, hk9⟩ := va_pl_get (X := gFx cy ad jf u) (f := u.2.2.2.2) ha1
          refine va_castY hx hb hown (hts (.classLink RX11 16 "StraitSwim$Plain") (List.mem_cons_of_mem _ (List.mem_append_left _ (List.mem_append_left _ (List.mem_append_left _ (List.mem_append_left _ (List.mem_append_left _ (List.mem_append_left _ (List.mem_of_getElem? (i := 1) rfl))))))))) hC.2.2.2.2.2.1.2.1 (va_recv (q := (RX4, TX4, 4)) hC.1 hG.1 rfl (hk9.trans (by rw [hE19]))) dX11_weight_36 ?_
          refine lv_astore_n (lv' := [(2, .ref a1), (3, .ref a1), (0, .ref (ad 0)), (1, .int (zI p1))]) hx hb dX11_weight_39 rfl hl (by decide) rfl (fun ls hl => ?_)
          refine lv_aload_n hx hb dX11_weight_40 rfl (lv_at hl 0 rfl) ?_
          obtain ⟨k9, hk9⟩ := va_pl_get (X := gFx cy ad jf u) (f := u.2.2.2.2) ha1
          refine g_calli (va_runU (As := []) (rest := []) ⟨hx, hb, hml, hown, hts⟩ (kX4_heft_X4 l D cy ad jf A u a1 (NM p1.toNat) (SP p1.toNat) (LI p1.toNat) (FD p1.toNat)  ha1 hE19 (by omega) (by omega) (by omega)) (va_cwO 0 hts gX11_weight_X4_heft_u253X4 rfl rfl rfl (List.mem_cons_of_mem _ (List.mem_append_left _ (List.mem_append_left _ (List.mem_append_left _ (List.mem_append_left _ (List.mem_append_left _ (List.mem_append_left _ (List.mem_of_getElem? (i := 20) rfl)))))))) (by decide +kernel) ⟨by decide, by decide⟩) (g_preD (C := RX4) hG hC hS (hk9.trans (by rw [hE19])) rfl) rfl rfl hl.1 rfl (lv_room (Nat.le_of_ble_eq_true rfl)) dX11_weight_41 ⟨Nat.le_of_ble_eq_true rfl, Nat.le_of_ble_eq_true rfl⟩) hS (fun r21 u22 H locs p_23 hG hS => ?_)
          obtain ⟨rfl, he_⟩ := p_23
          rw [he_] at hG; clear he_
          obtain ⟨z24, hz24⟩ : ∃ z : Int, z = 10 + (SP p1.toNat) + (FD p1.toNat) + (LI p1.toNat) := ⟨_, rfl⟩
          rw [← hz24]
          have qz24 : 0 ≤ z24 ∧ z24 ≤ 1000 := by rw [hz24]; (first | omega | (unfold spAt1; split <;> omega) | (unfold spAt1; split <;> split <;> omega) | (split <;> first | omega | (unfold spAt1; split <;> omega)) | (unfold spPace spPc spAt1; split <;> (first | omega | (split <;> first | omega | (split <;> omega)))))
          refine lv_goto (tgt := 49) hx hb dX11_weight_44 (by decide) ?_
          exact W.iret (v := zI z24) hx hb hr (fun t9 ht9_ hW => ⟨⟨zI z24, u, rfl, (by refine ⟨?_, rfl⟩; unfold cWeight; (repeat (first | rw [if_pos (by omega)] | rw [if_neg (by omega)])); all_goals (first | rfl | (unfold cHeft; (repeat (first | rw [if_pos (by omega)] | rw [if_neg (by omega)])); all_goals (subst_vars; first | rfl | (congr 1; omega))))), gB.mk' hG hC hS ht9_ hW⟩, hS.F ht9_⟩) hS.2.2 dX11_weight_49
      · have hE25 : u.2.2.2.2 a1 = .inr (5, [.int (zI (NM p1.toNat)), .int (zI (SP p1.toNat)), .int (zI (LI p1.toNat)), .int (zI (FD p1.toNat))]) := by rw [hE1, hk0]; rfl
        obtain ⟨k9, hk9⟩ := va_pl_get (X := gFx cy ad jf u) (f := u.2.2.2.2) ha1
        refine g_instY hx hb hown (hts (.classLink RX11 16 "StraitSwim$Plain") (List.mem_cons_of_mem _ (List.mem_append_left _ (List.mem_append_left _ (List.mem_append_left _ (List.mem_append_left _ (List.mem_append_left _ (List.mem_append_left _ (List.mem_of_getElem? (i := 1) rfl))))))))) hC.2.2.2.2.2.1.2.2 (va_recv (q := (RX6, TX6, 4)) hC.1 hG.1 rfl (hk9.trans (by rw [hE25]))) dX11_weight_29 ?_
        refine z_if_eq (tgt := 47) hx hb dX11_weight_32 (by decide) (by omega) (by omega) (fun c_26 => ?_) (fun c_26 => ?_)
        · exfalso; omega
        · refine lv_aload_n hx hb dX11_weight_35 rfl (lv_at hl 0 rfl) ?_
          obtain ⟨k9, hk9⟩ := va_pl_get (X := gFx cy ad jf u) (f := u.2.2.2.2) ha1
          refine va_castY hx hb hown (hts (.classLink RX11 16 "StraitSwim$Plain") (List.mem_cons_of_mem _ (List.mem_append_left _ (List.mem_append_left _ (List.mem_append_left _ (List.mem_append_left _ (List.mem_append_left _ (List.mem_append_left _ (List.mem_of_getElem? (i := 1) rfl))))))))) hC.2.2.2.2.2.1.2.2 (va_recv (q := (RX6, TX6, 4)) hC.1 hG.1 rfl (hk9.trans (by rw [hE25]))) dX11_weight_36 ?_
          refine lv_astore_n (lv' := [(2, .ref a1), (3, .ref a1), (0, .ref (ad 0)), (1, .int (zI p1))]) hx hb dX11_weight_39 rfl hl (by decide) rfl (fun ls hl => ?_)
          refine lv_aload_n hx hb dX11_weight_40 rfl (lv_at hl 0 rfl) ?_
          obtain ⟨k9, hk9⟩ := va_pl_get (X := gFx cy ad jf u) (f := u.2.2.2.2) ha1
          refine g_calli (va_runU (As := []) (rest := []) ⟨hx, hb, hml, hown, hts⟩ (kX6_heft_X6 l D cy ad jf A u a1 (NM p1.toNat) (SP p1.toNat) (LI p1.toNat) (FD p1.toNat)  ha1 hE25 (by omega) (by omega)) (va_cwO 0 hts gX11_weight_X6_heft_u253X6 rfl rfl rfl (List.mem_cons_of_mem _ (List.mem_append_left _ (List.mem_append_left _ (List.mem_append_left _ (List.mem_append_left _ (List.mem_append_left _ (List.mem_append_left _ (List.mem_of_getElem? (i := 20) rfl)))))))) (by decide +kernel) ⟨by decide, by decide⟩) (g_preD (C := RX6) hG hC hS (hk9.trans (by rw [hE25])) rfl) rfl rfl hl.1 rfl (lv_room (Nat.le_of_ble_eq_true rfl)) dX11_weight_41 ⟨Nat.le_of_ble_eq_true rfl, Nat.le_of_ble_eq_true rfl⟩) hS (fun r27 u28 H locs p_29 hG hS => ?_)
          obtain ⟨rfl, he_⟩ := p_29
          rw [he_] at hG; clear he_
          obtain ⟨z30, hz30⟩ : ∃ z : Int, z = 2 * (10 + (SP p1.toNat) + (FD p1.toNat) + 100) := ⟨_, rfl⟩
          rw [← hz30]
          have qz30 : 0 ≤ z30 ∧ z30 ≤ 1000 := by rw [hz30]; (first | omega | (unfold spAt1; split <;> omega) | (unfold spAt1; split <;> split <;> omega) | (split <;> first | omega | (unfold spAt1; split <;> omega)) | (unfold spPace spPc spAt1; split <;> (first | omega | (split <;> first | omega | (split <;> omega)))))
          refine lv_goto (tgt := 49) hx hb dX11_weight_44 (by decide) ?_
          exact W.iret (v := zI z30) hx hb hr (fun t9 ht9_ hW => ⟨⟨zI z30, u, rfl, (by refine ⟨?_, rfl⟩; unfold cWeight; (repeat (first | rw [if_pos (by omega)] | rw [if_neg (by omega)])); all_goals (first | rfl | (unfold cHeft; (repeat (first | rw [if_pos (by omega)] | rw [if_neg (by omega)])); all_goals (subst_vars; first | rfl | (congr 1; omega))))), gB.mk' hG hC hS ht9_ hW⟩, hS.F ht9_⟩) hS.2.2 dX11_weight_49
    · rw [hs1]
      simp only [va_rf]
      refine lv_ifnonnull (tgt := 21) hx hb dX11_weight_15 (by decide) ?_
      refine lv_aload_n hx hb dX11_weight_21 rfl (lv_at hl 0 rfl) ?_
      refine g_get (C := RX11) (T := TX11) (N := 14) (ci := 10) hx hb hts (fun _ h => (List.mem_cons_of_mem _ (List.mem_append_left _ (List.mem_append_left _ (List.mem_append_left _ (List.mem_append_left _ (List.mem_append_right _ h))))))) hown hC.1 hG 0 (by decide) rfl rfl 13 (by decide) (hts (.fieldLink RX11 75 "StraitSwim" "shelves" "[LStraitSwim$Held;") (List.mem_cons_of_mem _ (List.mem_append_left _ (List.mem_append_left _ (List.mem_append_left _ (List.mem_append_left _ (List.mem_append_left _ (List.mem_append_left _ (List.mem_of_getElem? (i := 0) rfl))))))))) (fun _ h9 => h9) rfl dX11_weight_22 ?_
      refine lv_iload_n hx hb dX11_weight_25 rfl (lv_at hl 1 rfl) ?_
      refine g_aald (n := 8) hx hb hC.1 hG 30 3 (by decide) rfl rfl (by omega) (by omega) (by decide) dX11_weight_26 ?_
      rw [hs1]
      simp only [va_rf]
      refine lv_astore_n (lv' := [(3, .ref a1), (0, .ref (ad 0)), (1, .int (zI p1))]) hx hb dX11_weight_27 rfl hl (by decide) rfl (fun ls hl => ?_)
      refine lv_aload_n hx hb dX11_weight_28 rfl (lv_at hl 0 rfl) ?_
      obtain ⟨k9, hk9⟩ := va_pl_get (X := gFx cy ad jf u) (f := u.2.2.2.2) ha1
      refine g_instNo hx hb hown (hts (.classLink RX11 16 "StraitSwim$Plain") (List.mem_cons_of_mem _ (List.mem_append_left _ (List.mem_append_left _ (List.mem_append_left _ (List.mem_append_left _ (List.mem_append_left _ (List.mem_append_left _ (List.mem_of_getElem? (i := 1) rfl))))))))) hC.2.2.2.2.2.2.2.1 (va_recv (q := (RX5, TX5, 2)) hC.1 hG.1 rfl (hk9.trans (by rw [hE1]))) dX11_weight_29 ?_
      refine z_if_eq (tgt := 47) hx hb dX11_weight_32 (by decide) (by omega) (by omega) (fun c_31 => ?_) (fun c_31 => ?_)
      · refine z_bipush hx hb dX11_weight_47 (by decide) ?_
        exact W.iret (v := zI ((-12))) hx hb hr (fun t9 ht9_ hW => ⟨⟨zI ((-12)), u, rfl, (by refine ⟨?_, rfl⟩; unfold cWeight; (repeat (first | rw [if_pos (by omega)] | rw [if_neg (by omega)])); all_goals (first | rfl | (unfold cHeft; (repeat (first | rw [if_pos (by omega)] | rw [if_neg (by omega)])); all_goals (subst_vars; first | rfl | (congr 1; omega))))), gB.mk' hG hC hS ht9_ hW⟩, hS.F ht9_⟩) hS.2.2 dX11_weight_49
      · exfalso; omega
  · refine z_iconst hx hb dX11_weight_7 ?_
    exact W.iret (v := zI ((-1))) hx hb hr (fun t9 ht9_ hW => ⟨⟨zI ((-1)), u, rfl, (by refine ⟨?_, rfl⟩; unfold cWeight; (repeat (first | rw [if_pos (by omega)] | rw [if_neg (by omega)])); all_goals (first | rfl | (unfold cHeft; (repeat (first | rw [if_pos (by omega)] | rw [if_neg (by omega)])); all_goals (subst_vars; first | rfl | (congr 1; omega))))), gB.mk' hG hC hS ht9_ hW⟩, hS.F ht9_⟩) hS.2.2 dX11_weight_8
set_option maxHeartbeats 4000000 in
set_option maxRecDepth 100000 in
theorem kX11_copy (l : Launch) (D : va_G) (cy : Nat → ClassId) (ad : Nat → Nat) (jf : Nat → Int64) (A : Nat → Prop) (u : gS) (p1 p2 p3 p4 p5 : Int) (j_p1 : -2147483648 ≤ p1 ∧ p1 < 2147483648) (j_p2 : -2147483648 ≤ p2 ∧ p2 < 2147483648) (j_p3 : -2147483648 ≤ p3 ∧ p3 < 2147483648) (j_p4 : -2147483648 ≤ p4 ∧ p4 < 2147483648) (j_p5 : -2147483648 ≤ p5 ∧ p5 < 2147483648) (HK KD NM SP LI FD : Nat → Int) (BA NN : Nat → Nat) (GG : Nat → Nat → Int) (hsl : ∀ d, d < 8 → slAt cy u d (HK d) (KD d) (NM d) (SP d) (LI d) (FD d) (BA d) (NN d) (GG d)) : Met l yX11_copy wsX11_copy ({ frames := 2, cells := 0, slots := 0, locals := 80 }) (va_Pc [.ref (ad 0), .int (zI p1), .int (zI p2), .int (zI p3), .int (zI p4), .int (zI p5)] (gB D cy ad jf A u)) (va_Qi (fun (r : Int32) (v : gS) => (if (0 ≤ p1 ∧ p1 ≤ 7) ∧ (0 ≤ p3 ∧ p3 ≤ 7) then (if HK p1.toNat = 0 ∨ HK p3.toNat = 0 then r = zI (-11) ∧ v = u else if HK p1.toNat = 1 ∨ HK p3.toNat = 1 ∨ HK p1.toNat ≠ HK p3.toNat then r = zI (-12) ∧ v = u else if (0 ≤ p2 ∧ 0 ≤ p5 ∧ p2 ≤ NN p1.toNat ∧ p5 ≤ NN p1.toNat - p2) ∧ (0 ≤ p4 ∧ p4 ≤ NN p3.toNat ∧ p5 ≤ NN p3.toNat - p4) then r = zI p5 ∧ v = sP u u.2.2.2.1 (va_up u.2.2.2.2 (BA p3.toNat) (.inl (cy 1, NN p3.toNat, .inl (fun k => zI (va_cpy (GG p1.toNat) (GG p3.toNat) p2.toNat p4.toNat p5.toNat k))))) else r = zI (-13) ∧ v = u) else r = zI (-1) ∧ v = u)) (gB D cy ad jf A) A) 0 0 A := by
  refine Met.ofW (cc := cX11_copy) (maxL := 9) (ret := (some .int)) (by decide) rfl ?_
  intro p e s m args below meth c s₁ B hml hv
  obtain ⟨rfl, hG, hC⟩ := hv
  have hx := B.exec
  have hb := B.bytes
  have hr := B.returns
  have hts := atoms_spec (ws := wsX11_copy) B.pre
  have hown : s.vm.findClass RX11 = some m.cls := findClass_of_methodNamed B.named
  have hlocks := B.notSynchronized
  have hS : va_S A s.heap s.heap [] := va_S.rf
  have hl := lv_entry ([.ref (ad 0), .int (zI p1), .int (zI p2), .int (zI p3), .int (zI p4), .int (zI p5)]) (n := 9) (Nat.le_of_ble_eq_true rfl)
  rw [lg_entry_eq]
  generalize (lg_sl ([.ref (ad 0), .int (zI p1), .int (zI p2), .int (zI p3), .int (zI p4), .int (zI p5)]) ++ List.replicate (9 - (lg_sl ([.ref (ad 0), .int (zI p1), .int (zI p2), .int (zI p3), .int (zI p4), .int (zI p5)])).length) Slot.unset).toArray = ls at hl ⊢
  have hl : lv_has ls 9 [(0, .ref (ad 0)), (1, .int (zI p1)), (2, .int (zI p2)), (3, .int (zI p3)), (4, .int (zI p4)), (5, .int (zI p5))] := hl
  refine lv_iload_n hx hb dX11_copy_0 rfl (lv_at hl 1 rfl) ?_
  refine g_calli (va_runS (As := [.int (zI p1)]) (rest := []) ⟨hx, hb, hml, hown, hts⟩ (kX11_isShelf l D cy ad jf A u p1 (by omega)) (va_cwS 1 hts gX11_copy_X11_isShelf rfl rfl rfl (by decide +kernel) ⟨by decide, by decide⟩) (g_preS hG hC hS) rfl rfl hl.1 rfl (lv_room (Nat.le_of_ble_eq_true rfl)) dX11_copy_1 ⟨Nat.le_of_ble_eq_true rfl, Nat.le_of_ble_eq_true rfl⟩) hS (fun r1 u2 H locs p_3 hG hS => ?_)
  obtain ⟨⟨b4, rfl, q_5⟩, he_⟩ := p_3
  rw [he_] at hG; clear he_
  have hbb4 : 0 ≤ b4 ∧ b4 ≤ 1 := by rcases q_5 with ⟨h, _⟩ | ⟨h, _⟩ <;> omega
  refine z_if_eq (tgt := 14) hx hb dX11_copy_4 (by decide) (by omega) (by omega) (fun c_6 => ?_) (fun c_6 => ?_)
  · refine z_iconst hx hb dX11_copy_14 ?_
    exact W.iret (v := zI ((-1))) hx hb hr (fun t9 ht9_ hW => ⟨⟨zI ((-1)), u, rfl, (by dsimp only; (repeat (first | rw [if_pos (by omega)] | rw [if_neg (by omega)])); exact ⟨rfl, (by skip; rfl)⟩), gB.mk' hG hC hS ht9_ hW⟩, hS.F ht9_⟩) hS.2.2 dX11_copy_15
  · refine lv_iload_n hx hb dX11_copy_7 rfl (lv_at hl 3 rfl) ?_
    refine g_calli (va_runS (As := [.int (zI p3)]) (rest := []) ⟨hx, hb, hml, hown, hts⟩ (kX11_isShelf l D cy ad jf A u p3 (by omega)) (va_cwS 1 hts gX11_copy_X11_isShelf rfl rfl rfl (by decide +kernel) ⟨by decide, by decide⟩) (g_preS hG hC hS) rfl rfl hl.1 rfl (lv_room (Nat.le_of_ble_eq_true rfl)) dX11_copy_8 ⟨Nat.le_of_ble_eq_true rfl, Nat.le_of_ble_eq_true rfl⟩) hS (fun r7 u8 H locs p_9 hG hS => ?_)
    obtain ⟨⟨b10, rfl, q_11⟩, he_⟩ := p_9
    rw [he_] at hG; clear he_
    have hbb10 : 0 ≤ b10 ∧ b10 ≤ 1 := by rcases q_11 with ⟨h, _⟩ | ⟨h, _⟩ <;> omega
    refine z_if_ne (tgt := 16) hx hb dX11_copy_11 (by decide) (by omega) (by omega) (fun c_12 => ?_) (fun c_12 => ?_)
    · refine lv_aload_n hx hb dX11_copy_16 rfl (lv_at hl 0 rfl) ?_
      refine g_get (C := RX11) (T := TX11) (N := 14) (ci := 10) hx hb hts (fun _ h => (List.mem_cons_of_mem _ (List.mem_append_left _ (List.mem_append_right _ h)))) hown hC.1 hG 0 (by decide) rfl rfl 13 (by decide) (hts (.fieldLink RX11 75 "StraitSwim" "shelves" "[LStraitSwim$Held;") (List.mem_cons_of_mem _ (List.mem_append_left _ (List.mem_append_left _ (List.mem_of_getElem? (i := 0) rfl))))) (fun _ h9 => h9) rfl dX11_copy_17 ?_
      refine lv_iload_n hx hb dX11_copy_20 rfl (lv_at hl 1 rfl) ?_
      refine g_aald (n := 8) hx hb hC.1 hG 30 3 (by decide) rfl rfl (by omega) (by omega) (by decide) dX11_copy_21 ?_
      rcases hsl p1.toNat (by omega) with ⟨hs1, hk1⟩ | ⟨a1, hs1, ha1, hk1, hkd1, hsp1, hli1, hfd1, hE1⟩ | ⟨a1, hs1, ha1, hk1, hE1, hb1, hEb1, hn1, hg1⟩
      · rw [hs1]
        simp only [va_rf]
        refine lv_ifnullN (tgt := 34) hx hb dX11_copy_22 (by decide) ?_
        refine z_bipush hx hb dX11_copy_34 (by decide) ?_
        exact W.iret (v := zI ((-11))) hx hb hr (fun t9 ht9_ hW => ⟨⟨zI ((-11)), u, rfl, (by dsimp only; (repeat (first | rw [if_pos (by omega)] | rw [if_neg (by omega)])); exact ⟨rfl, (by skip; rfl)⟩), gB.mk' hG hC hS ht9_ hW⟩, hS.F ht9_⟩) hS.2.2 dX11_copy_36
      · rw [hs1]
        simp only [va_rf]
        refine lv_ifnull hx hb dX11_copy_22 ?_
        refine lv_aload_n hx hb dX11_copy_25 rfl (lv_at hl 0 rfl) ?_
        refine g_get (C := RX11) (T := TX11) (N := 14) (ci := 10) hx hb hts (fun _ h => (List.mem_cons_of_mem _ (List.mem_append_left _ (List.mem_append_right _ h)))) hown hC.1 hG 0 (by decide) rfl rfl 13 (by decide) (hts (.fieldLink RX11 75 "StraitSwim" "shelves" "[LStraitSwim$Held;") (List.mem_cons_of_mem _ (List.mem_append_left _ (List.mem_append_left _ (List.mem_of_getElem? (i := 0) rfl))))) (fun _ h9 => h9) rfl dX11_copy_26 ?_
        refine lv_iload_n hx hb dX11_copy_29 rfl (lv_at hl 3 rfl) ?_
        refine g_aald (n := 8) hx hb hC.1 hG 30 3 (by decide) rfl rfl (by omega) (by omega) (by decide) dX11_copy_30 ?_
        rcases hsl p3.toNat (by omega) with ⟨hs2, hk2⟩ | ⟨a2, hs2, ha2, hk2, hkd2, hsp2, hli2, hfd2, hE2⟩ | ⟨a2, hs2, ha2, hk2, hE2, hb2, hEb2, hn2, hg2⟩
        · rw [hs2]
          simp only [va_rf]
          refine lv_ifnonnullN hx hb dX11_copy_31 ?_
          refine z_bipush hx hb dX11_copy_34 (by decide) ?_
          exact W.iret (v := zI ((-11))) hx hb hr (fun t9 ht9_ hW => ⟨⟨zI ((-11)), u, rfl, (by dsimp only; (repeat (first | rw [if_pos (by omega)] | rw [if_neg (by omega)])); exact ⟨rfl, (by skip; rfl)⟩), gB.mk' hG hC hS ht9_ hW⟩, hS.F ht9_⟩) hS.2.2 dX11_copy_36
        · rw [hs2]
          simp only [va_rf]
          refine lv_ifnonnull (tgt := 37) hx hb dX11_copy_31 (by decide) ?_
          refine lv_aload_n hx hb dX11_copy_37 rfl (lv_at hl 0 rfl) ?_
          refine g_get (C := RX11) (T := TX11) (N := 14) (ci := 10) hx hb hts (fun _ h => (List.mem_cons_of_mem _ (List.mem_append_left _ (List.mem_append_right _ h)))) hown hC.1 hG 0 (by decide) rfl rfl 13 (by decide) (hts (.fieldLink RX11 75 "StraitSwim" "shelves" "[LStraitSwim$Held;") (List.mem_cons_of_mem _ (List.mem_append_left _ (List.mem_append_left _ (List.mem_of_getElem? (i := 0) rfl))))) (fun _ h9 => h9) rfl dX11_copy_38 ?_
          refine lv_iload_n hx hb dX11_copy_41 rfl (lv_at hl 1 rfl) ?_
          refine g_aald (n := 8) hx hb hC.1 hG 30 3 (by decide) rfl rfl (by omega) (by omega) (by decide) dX11_copy_42 ?_
          rw [hs1]
          simp only [va_rf]
          refine lv_astore (lv' := [(8, .ref a1), (0, .ref (ad 0)), (1, .int (zI p1)), (2, .int (zI p2)), (3, .int (zI p3)), (4, .int (zI p4)), (5, .int (zI p5))]) hx hb dX11_copy_43 hl (by decide) rfl (fun ls hl => ?_)
          refine lv_aload hx hb dX11_copy_45 (lv_at hl 0 rfl) ?_
          rcases (show KD p1.toNat = 0 ∨ KD p1.toNat = 1 ∨ KD p1.toNat = 2 ∨ KD p1.toNat = 3 by omega) with hk0 | hk0 | hk0 | hk0
          · have hE13 : u.2.2.2.2 a1 = .inr (2, [.int (zI (NM p1.toNat)), .int (zI (SP p1.toNat)), .int (zI (LI p1.toNat)), .int (zI (FD p1.toNat))]) := by rw [hE1, hk0]; rfl
            obtain ⟨k9, hk9⟩ := va_pl_get (X := gFx cy ad jf u) (f := u.2.2.2.2) ha1
            refine g_instNo hx hb hown (hts (.classLink RX11 226 "StraitSwim$Row") (List.mem_cons_of_mem _ (List.mem_append_left _ (List.mem_append_left _ (List.mem_of_getElem? (i := 1) rfl))))) hC.2.2.2.2.2.2.2.2.2.1 (va_recv (q := (RX3, TX3, 4)) hC.1 hG.1 rfl (hk9.trans (by rw [hE13]))) dX11_copy_47 ?_
            refine z_if_eq (tgt := 96) hx hb dX11_copy_50 (by decide) (by omega) (by omega) (fun c_14 => ?_) (fun c_14 => ?_)
            · refine z_bipush hx hb dX11_copy_96 (by decide) ?_
              exact W.iret (v := zI ((-12))) hx hb hr (fun t9 ht9_ hW => ⟨⟨zI ((-12)), u, rfl, (by dsimp only; (repeat (first | rw [if_pos (by omega)] | rw [if_neg (by omega)])); exact ⟨rfl, (by skip; rfl)⟩), gB.mk' hG hC hS ht9_ hW⟩, hS.F ht9_⟩) hS.2.2 dX11_copy_98
            · exfalso; omega
          · have hE15 : u.2.2.2.2 a1 = .inr (0, [.int (zI (NM p1.toNat)), .int (zI (SP p1.toNat)), .int (zI (LI p1.toNat)), .int (zI (FD p1.toNat))]) := by rw [hE1, hk0]; rfl
            obtain ⟨k9, hk9⟩ := va_pl_get (X := gFx cy ad jf u) (f := u.2.2.2.2) ha1
            refine g_instNo hx hb hown (hts (.classLink RX11 226 "StraitSwim$Row") (List.mem_cons_of_mem _ (List.mem_append_left _ (List.mem_append_left _ (List.mem_of_getElem? (i := 1) rfl))))) hC.2.2.2.2.2.2.2.2.1 (va_recv (q := (RX0, TX0, 4)) hC.1 hG.1 rfl (hk9.trans (by rw [hE15]))) dX11_copy_47 ?_
            refine z_if_eq (tgt := 96) hx hb dX11_copy_50 (by decide) (by omega) (by omega) (fun c_16 => ?_) (fun c_16 => ?_)
            · refine z_bipush hx hb dX11_copy_96 (by decide) ?_
              exact W.iret (v := zI ((-12))) hx hb hr (fun t9 ht9_ hW => ⟨⟨zI ((-12)), u, rfl, (by dsimp only; (repeat (first | rw [if_pos (by omega)] | rw [if_neg (by omega)])); exact ⟨rfl, (by skip; rfl)⟩), gB.mk' hG hC hS ht9_ hW⟩, hS.F ht9_⟩) hS.2.2 dX11_copy_98
            · exfalso; omega
          · have hE17 : u.2.2.2.2 a1 = .inr (3, [.int (zI (NM p1.toNat)), .int (zI (SP p1.toNat)), .int (zI (LI p1.toNat)), .int (zI (FD p1.toNat))]) := by rw [hE1, hk0]; rfl
            obtain ⟨k9, hk9⟩ := va_pl_get (X := gFx cy ad jf u) (f := u.2.2.2.2) ha1
            refine g_instNo hx hb hown (hts (.classLink RX11 226 "StraitSwim$Row") (List.mem_cons_of_mem _ (List.mem_append_left _ (List.mem_append_left _ (List.mem_of_getElem? (i := 1) rfl))))) hC.2.2.2.2.2.2.2.2.2.2.1 (va_recv (q := (RX4, TX4, 4)) hC.1 hG.1 rfl (hk9.trans (by rw [hE17]))) dX11_copy_47 ?_
            refine z_if_eq (tgt := 96) hx hb dX11_copy_50 (by decide) (by omega) (by omega) (fun c_18 => ?_) (fun c_18 => ?_)
            · refine z_bipush hx hb dX11_copy_96 (by decide) ?_
              exact W.iret (v := zI ((-12))) hx hb hr (fun t9 ht9_ hW => ⟨⟨zI ((-12)), u, rfl, (by dsimp only; (repeat (first | rw [if_pos (by omega)] | rw [if_neg (by omega)])); exact ⟨rfl, (by skip; rfl)⟩), gB.mk' hG hC hS ht9_ hW⟩, hS.F ht9_⟩) hS.2.2 dX11_copy_98
            · exfalso; omega
          · have hE19 : u.2.2.2.2 a1 = .inr (5, [.int (zI (NM p1.toNat)), .int (zI (SP p1.toNat)), .int (zI (LI p1.toNat)), .int (zI (FD p1.toNat))]) := by rw [hE1, hk0]; rfl
            obtain ⟨k9, hk9⟩ := va_pl_get (X := gFx cy ad jf u) (f := u.2.2.2.2) ha1
            refine g_instNo hx hb hown (hts (.classLink RX11 226 "StraitSwim$Row") (List.mem_cons_of_mem _ (List.mem_append_left _ (List.mem_append_left _ (List.mem_of_getElem? (i := 1) rfl))))) hC.2.2.2.2.2.2.2.2.2.2.2 (va_recv (q := (RX6, TX6, 4)) hC.1 hG.1 rfl (hk9.trans (by rw [hE19]))) dX11_copy_47 ?_
            refine z_if_eq (tgt := 96) hx hb dX11_copy_50 (by decide) (by omega) (by omega) (fun c_20 => ?_) (fun c_20 => ?_)
            · refine z_bipush hx hb dX11_copy_96 (by decide) ?_
              exact W.iret (v := zI ((-12))) hx hb hr (fun t9 ht9_ hW => ⟨⟨zI ((-12)), u, rfl, (by dsimp only; (repeat (first | rw [if_pos (by omega)] | rw [if_neg (by omega)])); exact ⟨rfl, (by skip; rfl)⟩), gB.mk' hG hC hS ht9_ hW⟩, hS.F ht9_⟩) hS.2.2 dX11_copy_98
            · exfalso; omega
        · rw [hs2]
          simp only [va_rf]
          refine lv_ifnonnull (tgt := 37) hx hb dX11_copy_31 (by decide) ?_
          refine lv_aload_n hx hb dX11_copy_37 rfl (lv_at hl 0 rfl) ?_
          refine g_get (C := RX11) (T := TX11) (N := 14) (ci := 10) hx hb hts (fun _ h => (List.mem_cons_of_mem _ (List.mem_append_left _ (List.mem_append_right _ h)))) hown hC.1 hG 0 (by decide) rfl rfl 13 (by decide) (hts (.fieldLink RX11 75 "StraitSwim" "shelves" "[LStraitSwim$Held;") (List.mem_cons_of_mem _ (List.mem_append_left _ (List.mem_append_left _ (List.mem_of_getElem? (i := 0) rfl))))) (fun _ h9 => h9) rfl dX11_copy_38 ?_
          refine lv_iload_n hx hb dX11_copy_41 rfl (lv_at hl 1 rfl) ?_
          refine g_aald (n := 8) hx hb hC.1 hG 30 3 (by decide) rfl rfl (by omega) (by omega) (by decide) dX11_copy_42 ?_
          rw [hs1]
          simp only [va_rf]
          refine lv_astore (lv' := [(8, .ref a1), (0, .ref (ad 0)), (1, .int (zI p1)), (2, .int (zI p2)), (3, .int (zI p3)), (4, .int (zI p4)), (5, .int (zI p5))]) hx hb dX11_copy_43 hl (by decide) rfl (fun ls hl => ?_)
          refine lv_aload hx hb dX11_copy_45 (lv_at hl 0 rfl) ?_
          rcases (show KD p1.toNat = 0 ∨ KD p1.toNat = 1 ∨ KD p1.toNat = 2 ∨ KD p1.toNat = 3 by omega) with hk0 | hk0 | hk0 | hk0
          · have hE21 : u.2.2.2.2 a1 = .inr (2, [.int (zI (NM p1.toNat)), .int (zI (SP p1.toNat)), .int (zI (LI p1.toNat)), .int (zI (FD p1.toNat))]) := by rw [hE1, hk0]; rfl
            obtain ⟨k9, hk9⟩ := va_pl_get (X := gFx cy ad jf u) (f := u.2.2.2.2) ha1
            refine g_instNo hx hb hown (hts (.classLink RX11 226 "StraitSwim$Row") (List.mem_cons_of_mem _ (List.mem_append_left _ (List.mem_append_left _ (List.mem_of_getElem? (i := 1) rfl))))) hC.2.2.2.2.2.2.2.2.2.1 (va_recv (q := (RX3, TX3, 4)) hC.1 hG.1 rfl (hk9.trans (by rw [hE21]))) dX11_copy_47 ?_
            refine z_if_eq (tgt := 96) hx hb dX11_copy_50 (by decide) (by omega) (by omega) (fun c_22 => ?_) (fun c_22 => ?_)
            · refine z_bipush hx hb dX11_copy_96 (by decide) ?_
              exact W.iret (v := zI ((-12))) hx hb hr (fun t9 ht9_ hW => ⟨⟨zI ((-12)), u, rfl, (by dsimp only; (repeat (first | rw [if_pos (by omega)] | rw [if_neg (by omega)])); exact ⟨rfl, (by skip; rfl)⟩), gB.mk' hG hC hS ht9_ hW⟩, hS.F ht9_⟩) hS.2.2 dX11_copy_98
            · exfalso; omega
          · have hE23 : u.2.2.2.2 a1 = .inr (0, [.int (zI (NM p1.toNat)), .int (zI (SP p1.toNat)), .int (zI (LI p1.toNat)), .int (zI (FD p1.toNat))]) := by rw [hE1, hk0]; rfl
            obtain ⟨k9, hk9⟩ := va_pl_get (X := gFx cy ad jf u) (f := u.2.2.2.2) ha1
            refine g_instNo hx hb hown (hts (.classLink RX11 226 "StraitSwim$Row") (List.mem_cons_of_mem _ (List.mem_append_left _ (List.mem_append_left _ (List.mem_of_getElem? (i := 1) rfl))))) hC.2.2.2.2.2.2.2.2.1 (va_recv (q := (RX0, TX0, 4)) hC.1 hG.1 rfl (hk9.trans (by rw [hE23]))) dX11_copy_47 ?_
            refine z_if_eq (tgt := 96) hx hb dX11_copy_50 (by decide) (by omega) (by omega) (fun c_24 => ?_) (fun c_24 => ?_)
            · refine z_bipush hx hb dX11_copy_96 (by decide) ?_
              exact W.iret (v := zI ((-12))) hx hb hr (fun t9 ht9_ hW => ⟨⟨zI ((-12)), u, rfl, (by dsimp only; (repeat (first | rw [if_pos (by omega)] | rw [if_neg (by omega)])); exact ⟨rfl, (by skip; rfl)⟩), gB.mk' hG hC hS ht9_ hW⟩, hS.F ht9_⟩) hS.2.2 dX11_copy_98
            · exfalso; omega
          · have hE25 : u.2.2.2.2 a1 = .inr (3, [.int (zI (NM p1.toNat)), .int (zI (SP p1.toNat)), .int (zI (LI p1.toNat)), .int (zI (FD p1.toNat))]) := by rw [hE1, hk0]; rfl
            obtain ⟨k9, hk9⟩ := va_pl_get (X := gFx cy ad jf u) (f := u.2.2.2.2) ha1
            refine g_instNo hx hb hown (hts (.classLink RX11 226 "StraitSwim$Row") (List.mem_cons_of_mem _ (List.mem_append_left _ (List.mem_append_left _ (List.mem_of_getElem? (i := 1) rfl))))) hC.2.2.2.2.2.2.2.2.2.2.1 (va_recv (q := (RX4, TX4, 4)) hC.1 hG.1 rfl (hk9.trans (by rw [hE25]))) dX11_copy_47 ?_
            refine z_if_eq (tgt := 96) hx hb dX11_copy_50 (by decide) (by omega) (by omega) (fun c_26 => ?_) (fun c_26 => ?_)
            · refine z_bipush hx hb dX11_copy_96 (by decide) ?_
              exact W.iret (v := zI ((-12))) hx hb hr (fun t9 ht9_ hW => ⟨⟨zI ((-12)), u, rfl, (by dsimp only; (repeat (first | rw [if_pos (by omega)] | rw [if_neg (by omega)])); exact ⟨rfl, (by skip; rfl)⟩), gB.mk' hG hC hS ht9_ hW⟩, hS.F ht9_⟩) hS.2.2 dX11_copy_98
            · exfalso; omega
          · have hE27 : u.2.2.2.2 a1 = .inr (5, [.int (zI (NM p1.toNat)), .int (zI (SP p1.toNat)), .int (zI (LI p1.toNat)), .int (zI (FD p1.toNat))]) := by rw [hE1, hk0]; rfl
            obtain ⟨k9, hk9⟩ := va_pl_get (X := gFx cy ad jf u) (f := u.2.2.2.2) ha1
            refine g_instNo hx hb hown (hts (.classLink RX11 226 "StraitSwim$Row") (List.mem_cons_of_mem _ (List.mem_append_left _ (List.mem_append_left _ (List.mem_of_getElem? (i := 1) rfl))))) hC.2.2.2.2.2.2.2.2.2.2.2 (va_recv (q := (RX6, TX6, 4)) hC.1 hG.1 rfl (hk9.trans (by rw [hE27]))) dX11_copy_47 ?_
            refine z_if_eq (tgt := 96) hx hb dX11_copy_50 (by decide) (by omega) (by omega) (fun c_28 => ?_) (fun c_28 => ?_)
            · refine z_bipush hx hb dX11_copy_96 (by decide) ?_
              exact W.iret (v := zI ((-12))) hx hb hr (fun t9 ht9_ hW => ⟨⟨zI ((-12)), u, rfl, (by dsimp only; (repeat (first | rw [if_pos (by omega)] | rw [if_neg (by omega)])); exact ⟨rfl, (by skip; rfl)⟩), gB.mk' hG hC hS ht9_ hW⟩, hS.F ht9_⟩) hS.2.2 dX11_copy_98
            · exfalso; omega
      · rw [hs1]
        simp only [va_rf]
        refine lv_ifnull hx hb dX11_copy_22 ?_
        refine lv_aload_n hx hb dX11_copy_25 rfl (lv_at hl 0 rfl) ?_
        refine g_get (C := RX11) (T := TX11) (N := 14) (ci := 10) hx hb hts (fun _ h => (List.mem_cons_of_mem _ (List.mem_append_left _ (List.mem_append_right _ h)))) hown hC.1 hG 0 (by decide) rfl rfl 13 (by decide) (hts (.fieldLink RX11 75 "StraitSwim" "shelves" "[LStraitSwim$Held;") (List.mem_cons_of_mem _ (List.mem_append_left _ (List.mem_append_left _ (List.mem_of_getElem? (i := 0) rfl))))) (fun _ h9 => h9) rfl dX11_copy_26 ?_
        refine lv_iload_n hx hb dX11_copy_29 rfl (lv_at hl 3 rfl) ?_
        refine g_aald (n := 8) hx hb hC.1 hG 30 3 (by decide) rfl rfl (by omega) (by omega) (by decide) dX11_copy_30 ?_
        rcases hsl p3.toNat (by omega) with ⟨hs2, hk2⟩ | ⟨a2, hs2, ha2, hk2, hkd2, hsp2, hli2, hfd2, hE2⟩ | ⟨a2, hs2, ha2, hk2, hE2, hb2, hEb2, hn2, hg2⟩
        · rw [hs2]
          simp only [va_rf]
          refine lv_ifnonnullN hx hb dX11_copy_31 ?_
          refine z_bipush hx hb dX11_copy_34 (by decide) ?_
          exact W.iret (v := zI ((-11))) hx hb hr (fun t9 ht9_ hW => ⟨⟨zI ((-11)), u, rfl, (by dsimp only; (repeat (first | rw [if_pos (by omega)] | rw [if_neg (by omega)])); exact ⟨rfl, (by skip; rfl)⟩), gB.mk' hG hC hS ht9_ hW⟩, hS.F ht9_⟩) hS.2.2 dX11_copy_36
        · rw [hs2]
          simp only [va_rf]
          refine lv_ifnonnull (tgt := 37) hx hb dX11_copy_31 (by decide) ?_
          refine lv_aload_n hx hb dX11_copy_37 rfl (lv_at hl 0 rfl) ?_
          refine g_get (C := RX11) (T := TX11) (N := 14) (ci := 10) hx hb hts (fun _ h => (List.mem_cons_of_mem _ (List.mem_append_left _ (List.mem_append_right _ h)))) hown hC.1 hG 0 (by decide) rfl rfl 13 (by decide) (hts (.fieldLink RX11 75 "StraitSwim" "shelves" "[LStraitSwim$Held;") (List.mem_cons_of_mem _ (List.mem_append_left _ (List.mem_append_left _ (List.mem_of_getElem? (i := 0) rfl))))) (fun _ h9 => h9) rfl dX11_copy_38 ?_
          refine lv_iload_n hx hb dX11_copy_41 rfl (lv_at hl 1 rfl) ?_
          refine g_aald (n := 8) hx hb hC.1 hG 30 3 (by decide) rfl rfl (by omega) (by omega) (by decide) dX11_copy_42 ?_
          rw [hs1]
          simp only [va_rf]
          refine lv_astore (lv' := [(8, .ref a1), (0, .ref (ad 0)), (1, .int (zI p1)), (2, .int (zI p2)), (3, .int (zI p3)), (4, .int (zI p4)), (5, .int (zI p5))]) hx hb dX11_copy_43 hl (by decide) rfl (fun ls hl => ?_)
          refine lv_aload hx hb dX11_copy_45 (lv_at hl 0 rfl) ?_
          obtain ⟨k9, hk9⟩ := va_pl_get (X := gFx cy ad jf u) (f := u.2.2.2.2) ha1
          refine g_instS hx hb hown (hts (.classLink RX11 226 "StraitSwim$Row") (List.mem_cons_of_mem _ (List.mem_append_left _ (List.mem_append_left _ (List.mem_of_getElem? (i := 1) rfl))))) (hC.1.1 4 _ rfl).2 (va_recv (q := (RX5, TX5, 2)) hC.1 hG.1 rfl (hk9.trans (by rw [hE1]))) dX11_copy_47 ?_
          refine z_if_eq (tgt := 96) hx hb dX11_copy_50 (by decide) (by omega) (by omega) (fun c_29 => ?_) (fun c_29 => ?_)
          · exfalso; omega
          · refine lv_aload hx hb dX11_copy_53 (lv_at hl 0 rfl) ?_
            obtain ⟨k9, hk9⟩ := va_pl_get (X := gFx cy ad jf u) (f := u.2.2.2.2) ha1
            refine va_castS hx hb hown (hts (.classLink RX11 226 "StraitSwim$Row") (List.mem_cons_of_mem _ (List.mem_append_left _ (List.mem_append_left _ (List.mem_of_getElem? (i := 1) rfl))))) (hC.1.1 4 _ rfl).2 (va_recv (q := (RX5, TX5, 2)) hC.1 hG.1 rfl (hk9.trans (by rw [hE1]))) dX11_copy_55 ?_
            refine lv_astore (lv' := [(6, .ref a1), (8, .ref a1), (0, .ref (ad 0)), (1, .int (zI p1)), (2, .int (zI p2)), (3, .int (zI p3)), (4, .int (zI p4)), (5, .int (zI p5))]) hx hb dX11_copy_58 hl (by decide) rfl (fun ls hl => ?_)
            refine lv_aload_n hx hb dX11_copy_60 rfl (lv_at hl 2 rfl) ?_
            refine g_get (C := RX11) (T := TX11) (N := 14) (ci := 10) hx hb hts (fun _ h => (List.mem_cons_of_mem _ (List.mem_append_left _ (List.mem_append_right _ h)))) hown hC.1 hG 0 (by decide) rfl rfl 13 (by decide) (hts (.fieldLink RX11 75 "StraitSwim" "shelves" "[LStraitSwim$Held;") (List.mem_cons_of_mem _ (List.mem_append_left _ (List.mem_append_left _ (List.mem_of_getElem? (i := 0) rfl))))) (fun _ h9 => h9) rfl dX11_copy_61 ?_
            refine lv_iload_n hx hb dX11_copy_64 rfl (lv_at hl 5 rfl) ?_
            refine g_aald (n := 8) hx hb hC.1 hG 30 3 (by decide) rfl rfl (by omega) (by omega) (by decide) dX11_copy_65 ?_
            rw [hs2]
            simp only [va_rf]
            refine lv_astore (lv' := [(8, .ref a2), (6, .ref a1), (0, .ref (ad 0)), (1, .int (zI p1)), (2, .int (zI p2)), (3, .int (zI p3)), (4, .int (zI p4)), (5, .int (zI p5))]) hx hb dX11_copy_66 hl (by decide) rfl (fun ls hl => ?_)
            refine lv_aload hx hb dX11_copy_68 (lv_at hl 0 rfl) ?_
            rcases (show KD p3.toNat = 0 ∨ KD p3.toNat = 1 ∨ KD p3.toNat = 2 ∨ KD p3.toNat = 3 by omega) with hk0 | hk0 | hk0 | hk0
            · have hE30 : u.2.2.2.2 a2 = .inr (2, [.int (zI (NM p3.toNat)), .int (zI (SP p3.toNat)), .int (zI (LI p3.toNat)), .int (zI (FD p3.toNat))]) := by rw [hE2, hk0]; rfl
              obtain ⟨k9, hk9⟩ := va_pl_get (X := gFx cy ad jf u) (f := u.2.2.2.2) ha2
              refine g_instNo hx hb hown (hts (.classLink RX11 226 "StraitSwim$Row") (List.mem_cons_of_mem _ (List.mem_append_left _ (List.mem_append_left _ (List.mem_of_getElem? (i := 1) rfl))))) hC.2.2.2.2.2.2.2.2.2.1 (va_recv (q := (RX3, TX3, 4)) hC.1 hG.1 rfl (hk9.trans (by rw [hE30]))) dX11_copy_70 ?_
              refine z_if_eq (tgt := 96) hx hb dX11_copy_73 (by decide) (by omega) (by omega) (fun c_31 => ?_) (fun c_31 => ?_)
              · refine z_bipush hx hb dX11_copy_96 (by decide) ?_
                exact W.iret (v := zI ((-12))) hx hb hr (fun t9 ht9_ hW => ⟨⟨zI ((-12)), u, rfl, (by dsimp only; (repeat (first | rw [if_pos (by omega)] | rw [if_neg (by omega)])); exact ⟨rfl, (by skip; rfl)⟩), gB.mk' hG hC hS ht9_ hW⟩, hS.F ht9_⟩) hS.2.2 dX11_copy_98
              · exfalso; omega
            · have hE32 : u.2.2.2.2 a2 = .inr (0, [.int (zI (NM p3.toNat)), .int (zI (SP p3.toNat)), .int (zI (LI p3.toNat)), .int (zI (FD p3.toNat))]) := by rw [hE2, hk0]; rfl
              obtain ⟨k9, hk9⟩ := va_pl_get (X := gFx cy ad jf u) (f := u.2.2.2.2) ha2
              refine g_instNo hx hb hown (hts (.classLink RX11 226 "StraitSwim$Row") (List.mem_cons_of_mem _ (List.mem_append_left _ (List.mem_append_left _ (List.mem_of_getElem? (i := 1) rfl))))) hC.2.2.2.2.2.2.2.2.1 (va_recv (q := (RX0, TX0, 4)) hC.1 hG.1 rfl (hk9.trans (by rw [hE32]))) dX11_copy_70 ?_
              refine z_if_eq (tgt := 96) hx hb dX11_copy_73 (by decide) (by omega) (by omega) (fun c_33 => ?_) (fun c_33 => ?_)
              · refine z_bipush hx hb dX11_copy_96 (by decide) ?_
                exact W.iret (v := zI ((-12))) hx hb hr (fun t9 ht9_ hW => ⟨⟨zI ((-12)), u, rfl, (by dsimp only; (repeat (first | rw [if_pos (by omega)] | rw [if_neg (by omega)])); exact ⟨rfl, (by skip; rfl)⟩), gB.mk' hG hC hS ht9_ hW⟩, hS.F ht9_⟩) hS.2.2 dX11_copy_98
              · exfalso; omega
            · have hE34 : u.2.2.2.2 a2 = .inr (3, [.int (zI (NM p3.toNat)), .int (zI (SP p3.toNat)), .int (zI (LI p3.toNat)), .int (zI (FD p3.toNat))]) := by rw [hE2, hk0]; rfl
              obtain ⟨k9, hk9⟩ := va_pl_get (X := gFx cy ad jf u) (f := u.2.2.2.2) ha2
              refine g_instNo hx hb hown (hts (.classLink RX11 226 "StraitSwim$Row") (List.mem_cons_of_mem _ (List.mem_append_left _ (List.mem_append_left _ (List.mem_of_getElem? (i := 1) rfl))))) hC.2.2.2.2.2.2.2.2.2.2.1 (va_recv (q := (RX4, TX4, 4)) hC.1 hG.1 rfl (hk9.trans (by rw [hE34]))) dX11_copy_70 ?_
              refine z_if_eq (tgt := 96) hx hb dX11_copy_73 (by decide) (by omega) (by omega) (fun c_35 => ?_) (fun c_35 => ?_)
              · refine z_bipush hx hb dX11_copy_96 (by decide) ?_
                exact W.iret (v := zI ((-12))) hx hb hr (fun t9 ht9_ hW => ⟨⟨zI ((-12)), u, rfl, (by dsimp only; (repeat (first | rw [if_pos (by omega)] | rw [if_neg (by omega)])); exact ⟨rfl, (by skip; rfl)⟩), gB.mk' hG hC hS ht9_ hW⟩, hS.F ht9_⟩) hS.2.2 dX11_copy_98
              · exfalso; omega
            · have hE36 : u.2.2.2.2 a2 = .inr (5, [.int (zI (NM p3.toNat)), .int (zI (SP p3.toNat)), .int (zI (LI p3.toNat)), .int (zI (FD p3.toNat))]) := by rw [hE2, hk0]; rfl
              obtain ⟨k9, hk9⟩ := va_pl_get (X := gFx cy ad jf u) (f := u.2.2.2.2) ha2
              refine g_instNo hx hb hown (hts (.classLink RX11 226 "StraitSwim$Row") (List.mem_cons_of_mem _ (List.mem_append_left _ (List.mem_append_left _ (List.mem_of_getElem? (i := 1) rfl))))) hC.2.2.2.2.2.2.2.2.2.2.2 (va_recv (q := (RX6, TX6, 4)) hC.1 hG.1 rfl (hk9.trans (by rw [hE36]))) dX11_copy_70 ?_
              refine z_if_eq (tgt := 96) hx hb dX11_copy_73 (by decide) (by omega) (by omega) (fun c_37 => ?_) (fun c_37 => ?_)
              · refine z_bipush hx hb dX11_copy_96 (by decide) ?_
                exact W.iret (v := zI ((-12))) hx hb hr (fun t9 ht9_ hW => ⟨⟨zI ((-12)), u, rfl, (by dsimp only; (repeat (first | rw [if_pos (by omega)] | rw [if_neg (by omega)])); exact ⟨rfl, (by skip; rfl)⟩), gB.mk' hG hC hS ht9_ hW⟩, hS.F ht9_⟩) hS.2.2 dX11_copy_98
              · exfalso; omega
        · rw [hs2]
          simp only [va_rf]
          refine lv_ifnonnull (tgt := 37) hx hb dX11_copy_31 (by decide) ?_
          refine lv_aload_n hx hb dX11_copy_37 rfl (lv_at hl 0 rfl) ?_
          refine g_get (C := RX11) (T := TX11) (N := 14) (ci := 10) hx hb hts (fun _ h => (List.mem_cons_of_mem _ (List.mem_append_left _ (List.mem_append_right _ h)))) hown hC.1 hG 0 (by decide) rfl rfl 13 (by decide) (hts (.fieldLink RX11 75 "StraitSwim" "shelves" "[LStraitSwim$Held;") (List.mem_cons_of_mem _ (List.mem_append_left _ (List.mem_append_left _ (List.mem_of_getElem? (i := 0) rfl))))) (fun _ h9 => h9) rfl dX11_copy_38 ?_
          refine lv_iload_n hx hb dX11_copy_41 rfl (lv_at hl 1 rfl) ?_
          refine g_aald (n := 8) hx hb hC.1 hG 30 3 (by decide) rfl rfl (by omega) (by omega) (by decide) dX11_copy_42 ?_
          rw [hs1]
          simp only [va_rf]
          refine lv_astore (lv' := [(8, .ref a1), (0, .ref (ad 0)), (1, .int (zI p1)), (2, .int (zI p2)), (3, .int (zI p3)), (4, .int (zI p4)), (5, .int (zI p5))]) hx hb dX11_copy_43 hl (by decide) rfl (fun ls hl => ?_)
          refine lv_aload hx hb dX11_copy_45 (lv_at hl 0 rfl) ?_
          obtain ⟨k9, hk9⟩ := va_pl_get (X := gFx cy ad jf u) (f := u.2.2.2.2) ha1
          refine g_instS hx hb hown (hts (.classLink RX11 226 "StraitSwim$Row") (List.mem_cons_of_mem _ (List.mem_append_left _ (List.mem_append_left _ (List.mem_of_getElem? (i := 1) rfl))))) (hC.1.1 4 _ rfl).2 (va_recv (q := (RX5, TX5, 2)) hC.1 hG.1 rfl (hk9.trans (by rw [hE1]))) dX11_copy_47 ?_
          refine z_if_eq (tgt := 96) hx hb dX11_copy_50 (by decide) (by omega) (by omega) (fun c_38 => ?_) (fun c_38 => ?_)
          · exfalso; omega
          · refine lv_aload hx hb dX11_copy_53 (lv_at hl 0 rfl) ?_
            obtain ⟨k9, hk9⟩ := va_pl_get (X := gFx cy ad jf u) (f := u.2.2.2.2) ha1
            refine va_castS hx hb hown (hts (.classLink RX11 226 "StraitSwim$Row") (List.mem_cons_of_mem _ (List.mem_append_left _ (List.mem_append_left _ (List.mem_of_getElem? (i := 1) rfl))))) (hC.1.1 4 _ rfl).2 (va_recv (q := (RX5, TX5, 2)) hC.1 hG.1 rfl (hk9.trans (by rw [hE1]))) dX11_copy_55 ?_
            refine lv_astore (lv' := [(6, .ref a1), (8, .ref a1), (0, .ref (ad 0)), (1, .int (zI p1)), (2, .int (zI p2)), (3, .int (zI p3)), (4, .int (zI p4)), (5, .int (zI p5))]) hx hb dX11_copy_58 hl (by decide) rfl (fun ls hl => ?_)
            refine lv_aload_n hx hb dX11_copy_60 rfl (lv_at hl 2 rfl) ?_
            refine g_get (C := RX11) (T := TX11) (N := 14) (ci := 10) hx hb hts (fun _ h => (List.mem_cons_of_mem _ (List.mem_append_left _ (List.mem_append_right _ h)))) hown hC.1 hG 0 (by decide) rfl rfl 13 (by decide) (hts (.fieldLink RX11 75 "StraitSwim" "shelves" "[LStraitSwim$Held;") (List.mem_cons_of_mem _ (List.mem_append_left _ (List.mem_append_left _ (List.mem_of_getElem? (i := 0) rfl))))) (fun _ h9 => h9) rfl dX11_copy_61 ?_
            refine lv_iload_n hx hb dX11_copy_64 rfl (lv_at hl 5 rfl) ?_
            refine g_aald (n := 8) hx hb hC.1 hG 30 3 (by decide) rfl rfl (by omega) (by omega) (by decide) dX11_copy_65 ?_
            rw [hs2]
            simp only [va_rf]
            refine lv_astore (lv' := [(8, .ref a2), (6, .ref a1), (0, .ref (ad 0)), (1, .int (zI p1)), (2, .int (zI p2)), (3, .int (zI p3)), (4, .int (zI p4)), (5, .int (zI p5))]) hx hb dX11_copy_66 hl (by decide) rfl (fun ls hl => ?_)
            refine lv_aload hx hb dX11_copy_68 (lv_at hl 0 rfl) ?_
            obtain ⟨k9, hk9⟩ := va_pl_get (X := gFx cy ad jf u) (f := u.2.2.2.2) ha2
            refine g_instS hx hb hown (hts (.classLink RX11 226 "StraitSwim$Row") (List.mem_cons_of_mem _ (List.mem_append_left _ (List.mem_append_left _ (List.mem_of_getElem? (i := 1) rfl))))) (hC.1.1 4 _ rfl).2 (va_recv (q := (RX5, TX5, 2)) hC.1 hG.1 rfl (hk9.trans (by rw [hE2]))) dX11_copy_70 ?_
            refine z_if_eq (tgt := 96) hx hb dX11_copy_73 (by decide) (by omega) (by omega) (fun c_39 => ?_) (fun c_39 => ?_)
            · exfalso; omega
            · refine lv_aload hx hb dX11_copy_76 (lv_at hl 0 rfl) ?_
              obtain ⟨k9, hk9⟩ := va_pl_get (X := gFx cy ad jf u) (f := u.2.2.2.2) ha2
              refine va_castS hx hb hown (hts (.classLink RX11 226 "StraitSwim$Row") (List.mem_cons_of_mem _ (List.mem_append_left _ (List.mem_append_left _ (List.mem_of_getElem? (i := 1) rfl))))) (hC.1.1 4 _ rfl).2 (va_recv (q := (RX5, TX5, 2)) hC.1 hG.1 rfl (hk9.trans (by rw [hE2]))) dX11_copy_78 ?_
              refine lv_astore (lv' := [(7, .ref a2), (8, .ref a2), (6, .ref a1), (0, .ref (ad 0)), (1, .int (zI p1)), (2, .int (zI p2)), (3, .int (zI p3)), (4, .int (zI p4)), (5, .int (zI p5))]) hx hb dX11_copy_81 hl (by decide) rfl (fun ls hl => ?_)
              refine lv_aload hx hb dX11_copy_83 (lv_at hl 2 rfl) ?_
              obtain ⟨k9, hk9⟩ := va_pl_get (X := gFx cy ad jf u) (f := u.2.2.2.2) ha1
              refine va_get (C := RX5) (T := TX5) (N := 2) (ci := 4) hx hb hts (fun _ h => (List.mem_cons_of_mem _ (List.mem_append_right _ h))) hown hC.1 hG.1 k9 (hk9.trans (by rw [hE1])) rfl 0 (by decide) (hts (.fieldLink RX11 241 "StraitSwim$Row" "kind" "I") (List.mem_cons_of_mem _ (List.mem_append_left _ (List.mem_append_left _ (List.mem_of_getElem? (i := 2) rfl))))) (fun _ h9 => h9) rfl dX11_copy_85 ?_
              refine lv_aload hx hb dX11_copy_88 (lv_at hl 0 rfl) ?_
              obtain ⟨k9, hk9⟩ := va_pl_get (X := gFx cy ad jf u) (f := u.2.2.2.2) ha2
              refine va_get (C := RX5) (T := TX5) (N := 2) (ci := 4) hx hb hts (fun _ h => (List.mem_cons_of_mem _ (List.mem_append_right _ h))) hown hC.1 hG.1 k9 (hk9.trans (by rw [hE2])) rfl 0 (by decide) (hts (.fieldLink RX11 241 "StraitSwim$Row" "kind" "I") (List.mem_cons_of_mem _ (List.mem_append_left _ (List.mem_append_left _ (List.mem_of_getElem? (i := 2) rfl))))) (fun _ h9 => h9) rfl dX11_copy_90 ?_
              refine z_icmp_eq (tgt := 99) hx hb dX11_copy_93 (by decide) (by omega) (by omega) (by omega) (by omega) (fun c_40 => ?_) (fun c_40 => ?_)
              · refine lv_aload hx hb dX11_copy_99 (lv_at hl 2 rfl) ?_
                refine lv_iload_n hx hb dX11_copy_101 rfl (lv_at hl 5 rfl) ?_
                refine lv_iload hx hb dX11_copy_102 (lv_at hl 8 rfl) ?_
                obtain ⟨k9, hk9⟩ := va_pl_get (X := gFx cy ad jf u) (f := u.2.2.2.2) ha1
                refine g_calli (va_runV (As := [.int (zI p2), .int (zI p5)]) (rest := []) ⟨hx, hb, hml, hown, hts⟩ (kX5_spans_X5 l D cy ad jf A u a1 (BA p1.toNat) (NN p1.toNat) (HK p1.toNat) (GG p1.toNat) p2 p5 ha1 hE1 hb1 hEb1 (by omega) (by omega) (by omega)) (cwV 2 hts gX11_copy_X5_spans rfl rfl rfl (by decide +kernel) ⟨by decide, by decide⟩) (g_preD (C := RX5) hG hC hS (hk9.trans (by rw [hE1])) rfl) rfl rfl hl.1 rfl (lv_room (Nat.le_of_ble_eq_true rfl)) dX11_copy_104 ⟨Nat.le_of_ble_eq_true rfl, Nat.le_of_ble_eq_true rfl⟩) hS (fun r41 u42 H locs p_43 hG hS => ?_)
                obtain ⟨⟨b44, rfl, q_45⟩, he_⟩ := p_43
                rw [he_] at hG; clear he_
                have hbb44 : 0 ≤ b44 ∧ b44 ≤ 1 := by rcases q_45 with ⟨h, _⟩ | ⟨h, _⟩ <;> omega
                refine z_if_eq (tgt := 122) hx hb dX11_copy_107 (by decide) (by omega) (by omega) (fun c_46 => ?_) (fun c_46 => ?_)
                · refine z_bipush hx hb dX11_copy_122 (by decide) ?_
                  exact W.iret (v := zI ((-13))) hx hb hr (fun t9 ht9_ hW => ⟨⟨zI ((-13)), u, rfl, (by dsimp only; (repeat (first | rw [if_pos (by omega)] | rw [if_neg (by omega)])); exact ⟨rfl, (by skip; rfl)⟩), gB.mk' hG hC hS ht9_ hW⟩, hS.F ht9_⟩) hS.2.2 dX11_copy_124
                · refine lv_aload hx hb dX11_copy_110 (lv_at hl 0 rfl) ?_
                  refine lv_iload hx hb dX11_copy_112 (lv_at hl 7 rfl) ?_
                  refine lv_iload hx hb dX11_copy_114 (lv_at hl 8 rfl) ?_
                  obtain ⟨k9, hk9⟩ := va_pl_get (X := gFx cy ad jf u) (f := u.2.2.2.2) ha2
                  refine g_calli (va_runV (As := [.int (zI p4), .int (zI p5)]) (rest := []) ⟨hx, hb, hml, hown, hts⟩ (kX5_spans_X5 l D cy ad jf A u a2 (BA p3.toNat) (NN p3.toNat) (HK p3.toNat) (GG p3.toNat) p4 p5 ha2 hE2 hb2 hEb2 (by omega) (by omega) (by omega)) (cwV 2 hts gX11_copy_X5_spans rfl rfl rfl (by decide +kernel) ⟨by decide, by decide⟩) (g_preD (C := RX5) hG hC hS (hk9.trans (by rw [hE2])) rfl) rfl rfl hl.1 rfl (lv_room (Nat.le_of_ble_eq_true rfl)) dX11_copy_116 ⟨Nat.le_of_ble_eq_true rfl, Nat.le_of_ble_eq_true rfl⟩) hS (fun r47 u48 H locs p_49 hG hS => ?_)
                  obtain ⟨⟨b50, rfl, q_51⟩, he_⟩ := p_49
                  rw [he_] at hG; clear he_
                  have hbb50 : 0 ≤ b50 ∧ b50 ≤ 1 := by rcases q_51 with ⟨h, _⟩ | ⟨h, _⟩ <;> omega
                  refine z_if_ne (tgt := 125) hx hb dX11_copy_119 (by decide) (by omega) (by omega) (fun c_52 => ?_) (fun c_52 => ?_)
                  · refine lv_aload hx hb dX11_copy_125 (lv_at hl 2 rfl) ?_
                    obtain ⟨k9, hk9⟩ := va_pl_get (X := gFx cy ad jf u) (f := u.2.2.2.2) ha1
                    refine va_get (C := RX5) (T := TX5) (N := 2) (ci := 4) hx hb hts (fun _ h => (List.mem_cons_of_mem _ (List.mem_append_right _ h))) hown hC.1 hG.1 k9 (hk9.trans (by rw [hE1])) rfl 1 (by decide) (hts (.fieldLink RX11 233 "StraitSwim$Row" "items" "[S") (List.mem_cons_of_mem _ (List.mem_append_left _ (List.mem_append_left _ (List.mem_of_getElem? (i := 3) rfl))))) (fun _ h9 => h9) rfl dX11_copy_127 ?_
                    refine lv_iload_n hx hb dX11_copy_130 rfl (lv_at hl 5 rfl) ?_
                    refine lv_aload hx hb dX11_copy_131 (lv_at hl 0 rfl) ?_
                    obtain ⟨k9, hk9⟩ := va_pl_get (X := gFx cy ad jf u) (f := u.2.2.2.2) ha2
                    refine va_get (C := RX5) (T := TX5) (N := 2) (ci := 4) hx hb hts (fun _ h => (List.mem_cons_of_mem _ (List.mem_append_right _ h))) hown hC.1 hG.1 k9 (hk9.trans (by rw [hE2])) rfl 1 (by decide) (hts (.fieldLink RX11 233 "StraitSwim$Row" "items" "[S") (List.mem_cons_of_mem _ (List.mem_append_left _ (List.mem_append_left _ (List.mem_of_getElem? (i := 3) rfl))))) (fun _ h9 => h9) rfl dX11_copy_133 ?_
                    refine lv_iload hx hb dX11_copy_136 (lv_at hl 7 rfl) ?_
                    refine lv_iload hx hb dX11_copy_138 (lv_at hl 8 rfl) ?_
                    refine g_copyP hx hb (hml.trans hl.1.symm) hown (hts (.methodLink RX11 247 arraycopyName) (List.mem_cons_of_mem _ (List.mem_append_left _ (List.mem_append_left _ (List.mem_of_getElem? (i := 4) rfl))))) (hts (.native arraycopyName) (List.mem_cons_of_mem _ (List.mem_append_left _ (List.mem_append_left _ (List.mem_of_getElem? (i := 5) rfl))))) (hts (.static arraycopyName) (List.mem_cons_of_mem _ (List.mem_append_left _ (List.mem_append_left _ (List.mem_of_getElem? (i := 6) rfl))))) (hts (.initialized "java/lang/System") (List.mem_cons_of_mem _ (List.mem_append_left _ (List.mem_append_left _ (List.mem_of_getElem? (i := 7) rfl))))) hC.1 hG hS hb1 hEb1 hb2 hEb2 (by omega) (by omega) (by omega) (by omega) (by omega) (by omega) (by omega) hg1 (Nat.le_of_ble_eq_true rfl) (Nat.le_of_ble_eq_true rfl) dX11_copy_140 (fun u53 H locs hu53 hG hS => ?_)
                    refine lv_iload hx hb dX11_copy_143 (lv_at hl 8 rfl) ?_
                    exact W.iret (v := zI p5) hx hb hr (fun t9 ht9_ hW => ⟨⟨zI p5, u53, rfl, (by dsimp only; (repeat (first | rw [if_pos (by omega)] | rw [if_neg (by omega)])); exact ⟨rfl, (by subst hu53; rfl)⟩), gB.mk' hG hC hS ht9_ hW⟩, hS.F ht9_⟩) hS.2.2 dX11_copy_145
                  · refine z_bipush hx hb dX11_copy_122 (by decide) ?_
                    exact W.iret (v := zI ((-13))) hx hb hr (fun t9 ht9_ hW => ⟨⟨zI ((-13)), u, rfl, (by dsimp only; (repeat (first | rw [if_pos (by omega)] | rw [if_neg (by omega)])); exact ⟨rfl, (by skip; rfl)⟩), gB.mk' hG hC hS ht9_ hW⟩, hS.F ht9_⟩) hS.2.2 dX11_copy_124
              · refine z_bipush hx hb dX11_copy_96 (by decide) ?_
                exact W.iret (v := zI ((-12))) hx hb hr (fun t9 ht9_ hW => ⟨⟨zI ((-12)), u, rfl, (by dsimp only; (repeat (first | rw [if_pos (by omega)] | rw [if_neg (by omega)])); exact ⟨rfl, (by skip; rfl)⟩), gB.mk' hG hC hS ht9_ hW⟩, hS.F ht9_⟩) hS.2.2 dX11_copy_98
    · refine z_iconst hx hb dX11_copy_14 ?_
      exact W.iret (v := zI ((-1))) hx hb hr (fun t9 ht9_ hW => ⟨⟨zI ((-1)), u, rfl, (by dsimp only; (repeat (first | rw [if_pos (by omega)] | rw [if_neg (by omega)])); exact ⟨rfl, (by skip; rfl)⟩), gB.mk' hG hC hS ht9_ hW⟩, hS.F ht9_⟩) hS.2.2 dX11_copy_15
set_option maxHeartbeats 4000000 in
set_option maxRecDepth 100000 in
theorem kJ6_bitCount_0f7a4 (l : Launch) (D : va_G) (cy : Nat → ClassId) (ad : Nat → Nat) (jf : Nat → Int64) (A : Nat → Prop) (u : gS) (p1 : Int) (j_p1 : -2147483648 ≤ p1 ∧ p1 < 2147483648) : Met l yJ6_bitCount_0f7a4 wsJ6_bitCount_0f7a4 ({ frames := 0, cells := 0, slots := 0, locals := 0 }) (va_Pc [.int (zI p1)] (gB D cy ad jf A u)) (va_Qi (fun (r : Int32) (v : gS) => r = zI (jBit p1) ∧ v = u) (gB D cy ad jf A) A) 0 0 A := by
  refine Met.ofW (cc := cJ6_bitCount_0f7a4) (maxL := 1) (ret := (some .int)) (by decide) rfl ?_
  intro p e s m args below meth c s₁ B hml hv
  obtain ⟨rfl, hG, hC⟩ := hv
  have hx := B.exec
  have hb := B.bytes
  have hr := B.returns
  have hts := atoms_spec (ws := wsJ6_bitCount_0f7a4) B.pre
  have hown : s.vm.findClass RJ6 = some m.cls := findClass_of_methodNamed B.named
  have hlocks := B.notSynchronized
  have hS : va_S A s.heap s.heap [] := va_S.rf
  have hl := lv_entry ([.int (zI p1)]) (n := 1) (Nat.le_of_ble_eq_true rfl)
  rw [lg_entry_eq]
  generalize (lg_sl ([.int (zI p1)]) ++ List.replicate (1 - (lg_sl ([.int (zI p1)])).length) Slot.unset).toArray = ls at hl ⊢
  have hl : lv_has ls 1 [(0, .int (zI p1))] := hl
  refine lv_iload_n hx hb dJ6_bitCount_0f7a4_0 rfl (lv_at hl 0 rfl) ?_
  refine lv_iload_n hx hb dJ6_bitCount_0f7a4_1 rfl (lv_at hl 0 rfl) ?_
  refine z_iconst hx hb dJ6_bitCount_0f7a4_2 ?_
  have q_1 := bUshr_bnd p1 1
  refine z_iushr hx hb dJ6_bitCount_0f7a4_3 ?_
  refine lv_ldcw (v := zI 1431655765) hx hb hown (by rw [show zI 1431655765 = (1431655765 : Int32) by decide]; exact (hts (.constant RJ6 265 (1431655765)) (List.mem_cons_of_mem _ (List.mem_of_getElem? (i := 0) rfl)))) dJ6_bitCount_0f7a4_4 ?_
  have q_2 := bAnd_bnd (bUshr p1 1) 1431655765
  refine z_iand hx hb dJ6_bitCount_0f7a4_7 ?_
  refine z_isub hx hb dJ6_bitCount_0f7a4_8 ?_
  refine lv_istore_n (lv' := [(0, .int (zI (p1 - (bAnd (bUshr p1 1) 1431655765))))]) hx hb dJ6_bitCount_0f7a4_9 rfl hl (by decide) rfl (fun ls hl => ?_)
  refine lv_iload_n hx hb dJ6_bitCount_0f7a4_10 rfl (lv_at hl 0 rfl) ?_
  refine lv_ldcw (v := zI 858993459) hx hb hown (by rw [show zI 858993459 = (858993459 : Int32) by decide]; exact (hts (.constant RJ6 266 (858993459)) (List.mem_cons_of_mem _ (List.mem_of_getElem? (i := 1) rfl)))) dJ6_bitCount_0f7a4_11 ?_
  have q_3 := bAnd_bnd (p1 - (bAnd (bUshr p1 1) 1431655765)) 858993459
  refine z_iand hx hb dJ6_bitCount_0f7a4_14 ?_
  refine lv_iload_n hx hb dJ6_bitCount_0f7a4_15 rfl (lv_at hl 0 rfl) ?_
  refine z_iconst hx hb dJ6_bitCount_0f7a4_16 ?_
  have q_4 := bUshr_bnd (p1 - (bAnd (bUshr p1 1) 1431655765)) 2
  refine z_iushr hx hb dJ6_bitCount_0f7a4_17 ?_
  refine lv_ldcw (v := zI 858993459) hx hb hown (by rw [show zI 858993459 = (858993459 : Int32) by decide]; exact (hts (.constant RJ6 266 (858993459)) (List.mem_cons_of_mem _ (List.mem_of_getElem? (i := 1) rfl)))) dJ6_bitCount_0f7a4_18 ?_
  have q_5 := bAnd_bnd (bUshr (p1 - (bAnd (bUshr p1 1) 1431655765)) 2) 858993459
  refine z_iand hx hb dJ6_bitCount_0f7a4_21 ?_
  refine z_iadd hx hb dJ6_bitCount_0f7a4_22 ?_
  refine lv_istore_n (lv' := [(0, .int (zI ((bAnd (p1 - (bAnd (bUshr p1 1) 1431655765)) 858993459) + (bAnd (bUshr (p1 - (bAnd (bUshr p1 1) 1431655765)) 2) 858993459))))]) hx hb dJ6_bitCount_0f7a4_23 rfl hl (by decide) rfl (fun ls hl => ?_)
  refine lv_iload_n hx hb dJ6_bitCount_0f7a4_24 rfl (lv_at hl 0 rfl) ?_
  refine lv_iload_n hx hb dJ6_bitCount_0f7a4_25 rfl (lv_at hl 0 rfl) ?_
  refine z_iconst hx hb dJ6_bitCount_0f7a4_26 ?_
  have q_6 := bUshr_bnd ((bAnd (p1 - (bAnd (bUshr p1 1) 1431655765)) 858993459) + (bAnd (bUshr (p1 - (bAnd (bUshr p1 1) 1431655765)) 2) 858993459)) 4
  refine z_iushr hx hb dJ6_bitCount_0f7a4_27 ?_
  refine z_iadd hx hb dJ6_bitCount_0f7a4_28 ?_
  refine lv_ldcw (v := zI 252645135) hx hb hown (by rw [show zI 252645135 = (252645135 : Int32) by decide]; exact (hts (.constant RJ6 267 (252645135)) (List.mem_cons_of_mem _ (List.mem_of_getElem? (i := 2) rfl)))) dJ6_bitCount_0f7a4_29 ?_
  have q_7 := bAnd_bnd (((bAnd (p1 - (bAnd (bUshr p1 1) 1431655765)) 858993459) + (bAnd (bUshr (p1 - (bAnd (bUshr p1 1) 1431655765)) 2) 858993459)) + (bUshr ((bAnd (p1 - (bAnd (bUshr p1 1) 1431655765)) 858993459) + (bAnd (bUshr (p1 - (bAnd (bUshr p1 1) 1431655765)) 2) 858993459)) 4)) 252645135
  refine z_iand hx hb dJ6_bitCount_0f7a4_32 ?_
  refine lv_istore_n (lv' := [(0, .int (zI (bAnd (((bAnd (p1 - (bAnd (bUshr p1 1) 1431655765)) 858993459) + (bAnd (bUshr (p1 - (bAnd (bUshr p1 1) 1431655765)) 2) 858993459)) + (bUshr ((bAnd (p1 - (bAnd (bUshr p1 1) 1431655765)) 858993459) + (bAnd (bUshr (p1 - (bAnd (bUshr p1 1) 1431655765)) 2) 858993459)) 4)) 252645135)))]) hx hb dJ6_bitCount_0f7a4_33 rfl hl (by decide) rfl (fun ls hl => ?_)
  refine lv_iload_n hx hb dJ6_bitCount_0f7a4_34 rfl (lv_at hl 0 rfl) ?_
  refine lv_iload_n hx hb dJ6_bitCount_0f7a4_35 rfl (lv_at hl 0 rfl) ?_
  refine z_bipush hx hb dJ6_bitCount_0f7a4_36 (by decide) ?_
  have q_8 := bUshr_bnd (bAnd (((bAnd (p1 - (bAnd (bUshr p1 1) 1431655765)) 858993459) + (bAnd (bUshr (p1 - (bAnd (bUshr p1 1) 1431655765)) 2) 858993459)) + (bUshr ((bAnd (p1 - (bAnd (bUshr p1 1) 1431655765)) 858993459) + (bAnd (bUshr (p1 - (bAnd (bUshr p1 1) 1431655765)) 2) 858993459)) 4)) 252645135) 8
  refine z_iushr hx hb dJ6_bitCount_0f7a4_38 ?_
  refine z_iadd hx hb dJ6_bitCount_0f7a4_39 ?_
  refine lv_istore_n (lv' := [(0, .int (zI ((bAnd (((bAnd (p1 - (bAnd (bUshr p1 1) 1431655765)) 858993459) + (bAnd (bUshr (p1 - (bAnd (bUshr p1 1) 1431655765)) 2) 858993459)) + (bUshr ((bAnd (p1 - (bAnd (bUshr p1 1) 1431655765)) 858993459) + (bAnd (bUshr (p1 - (bAnd (bUshr p1 1) 1431655765)) 2) 858993459)) 4)) 252645135) + (bUshr (bAnd (((bAnd (p1 - (bAnd (bUshr p1 1) 1431655765)) 858993459) + (bAnd (bUshr (p1 - (bAnd (bUshr p1 1) 1431655765)) 2) 858993459)) + (bUshr ((bAnd (p1 - (bAnd (bUshr p1 1) 1431655765)) 858993459) + (bAnd (bUshr (p1 - (bAnd (bUshr p1 1) 1431655765)) 2) 858993459)) 4)) 252645135) 8))))]) hx hb dJ6_bitCount_0f7a4_40 rfl hl (by decide) rfl (fun ls hl => ?_)
  refine lv_iload_n hx hb dJ6_bitCount_0f7a4_41 rfl (lv_at hl 0 rfl) ?_
  refine lv_iload_n hx hb dJ6_bitCount_0f7a4_42 rfl (lv_at hl 0 rfl) ?_
  refine z_bipush hx hb dJ6_bitCount_0f7a4_43 (by decide) ?_
  have q_9 := bUshr_bnd ((bAnd (((bAnd (p1 - (bAnd (bUshr p1 1) 1431655765)) 858993459) + (bAnd (bUshr (p1 - (bAnd (bUshr p1 1) 1431655765)) 2) 858993459)) + (bUshr ((bAnd (p1 - (bAnd (bUshr p1 1) 1431655765)) 858993459) + (bAnd (bUshr (p1 - (bAnd (bUshr p1 1) 1431655765)) 2) 858993459)) 4)) 252645135) + (bUshr (bAnd (((bAnd (p1 - (bAnd (bUshr p1 1) 1431655765)) 858993459) + (bAnd (bUshr (p1 - (bAnd (bUshr p1 1) 1431655765)) 2) 858993459)) + (bUshr ((bAnd (p1 - (bAnd (bUshr p1 1) 1431655765)) 858993459) + (bAnd (bUshr (p1 - (bAnd (bUshr p1 1) 1431655765)) 2) 858993459)) 4)) 252645135) 8)) 16
  refine z_iushr hx hb dJ6_bitCount_0f7a4_45 ?_
  refine z_iadd hx hb dJ6_bitCount_0f7a4_46 ?_
  refine lv_istore_n (lv' := [(0, .int (zI (((bAnd (((bAnd (p1 - (bAnd (bUshr p1 1) 1431655765)) 858993459) + (bAnd (bUshr (p1 - (bAnd (bUshr p1 1) 1431655765)) 2) 858993459)) + (bUshr ((bAnd (p1 - (bAnd (bUshr p1 1) 1431655765)) 858993459) + (bAnd (bUshr (p1 - (bAnd (bUshr p1 1) 1431655765)) 2) 858993459)) 4)) 252645135) + (bUshr (bAnd (((bAnd (p1 - (bAnd (bUshr p1 1) 1431655765)) 858993459) + (bAnd (bUshr (p1 - (bAnd (bUshr p1 1) 1431655765)) 2) 858993459)) + (bUshr ((bAnd (p1 - (bAnd (bUshr p1 1) 1431655765)) 858993459) + (bAnd (bUshr (p1 - (bAnd (bUshr p1 1) 1431655765)) 2) 858993459)) 4)) 252645135) 8)) + (bUshr ((bAnd (((bAnd (p1 - (bAnd (bUshr p1 1) 1431655765)) 858993459) + (bAnd (bUshr (p1 - (bAnd (bUshr p1 1) 1431655765)) 2) 858993459)) + (bUshr ((bAnd (p1 - (bAnd (bUshr p1 1) 1431655765)) 858993459) + (bAnd (bUshr (p1 - (bAnd (bUshr p1 1) 1431655765)) 2) 858993459)) 4)) 252645135) + (bUshr (bAnd (((bAnd (p1 - (bAnd (bUshr p1 1) 1431655765)) 858993459) + (bAnd (bUshr (p1 - (bAnd (bUshr p1 1) 1431655765)) 2) 858993459)) + (bUshr ((bAnd (p1 - (bAnd (bUshr p1 1) 1431655765)) 858993459) + (bAnd (bUshr (p1 - (bAnd (bUshr p1 1) 1431655765)) 2) 858993459)) 4)) 252645135) 8)) 16))))]) hx hb dJ6_bitCount_0f7a4_47 rfl hl (by decide) rfl (fun ls hl => ?_)
  refine lv_iload_n hx hb dJ6_bitCount_0f7a4_48 rfl (lv_at hl 0 rfl) ?_
  refine z_bipush hx hb dJ6_bitCount_0f7a4_49 (by decide) ?_
  have q_10 := bAnd_bnd (((bAnd (((bAnd (p1 - (bAnd (bUshr p1 1) 1431655765)) 858993459) + (bAnd (bUshr (p1 - (bAnd (bUshr p1 1) 1431655765)) 2) 858993459)) + (bUshr ((bAnd (p1 - (bAnd (bUshr p1 1) 1431655765)) 858993459) + (bAnd (bUshr (p1 - (bAnd (bUshr p1 1) 1431655765)) 2) 858993459)) 4)) 252645135) + (bUshr (bAnd (((bAnd (p1 - (bAnd (bUshr p1 1) 1431655765)) 858993459) + (bAnd (bUshr (p1 - (bAnd (bUshr p1 1) 1431655765)) 2) 858993459)) + (bUshr ((bAnd (p1 - (bAnd (bUshr p1 1) 1431655765)) 858993459) + (bAnd (bUshr (p1 - (bAnd (bUshr p1 1) 1431655765)) 2) 858993459)) 4)) 252645135) 8)) + (bUshr ((bAnd (((bAnd (p1 - (bAnd (bUshr p1 1) 1431655765)) 858993459) + (bAnd (bUshr (p1 - (bAnd (bUshr p1 1) 1431655765)) 2) 858993459)) + (bUshr ((bAnd (p1 - (bAnd (bUshr p1 1) 1431655765)) 858993459) + (bAnd (bUshr (p1 - (bAnd (bUshr p1 1) 1431655765)) 2) 858993459)) 4)) 252645135) + (bUshr (bAnd (((bAnd (p1 - (bAnd (bUshr p1 1) 1431655765)) 858993459) + (bAnd (bUshr (p1 - (bAnd (bUshr p1 1) 1431655765)) 2) 858993459)) + (bUshr ((bAnd (p1 - (bAnd (bUshr p1 1) 1431655765)) 858993459) + (bAnd (bUshr (p1 - (bAnd (bUshr p1 1) 1431655765)) 2) 858993459)) 4)) 252645135) 8)) 16)) 63
  have q_11 := bAnd_63 (((bAnd (((bAnd (p1 - (bAnd (bUshr p1 1) 1431655765)) 858993459) + (bAnd (bUshr (p1 - (bAnd (bUshr p1 1) 1431655765)) 2) 858993459)) + (bUshr ((bAnd (p1 - (bAnd (bUshr p1 1) 1431655765)) 858993459) + (bAnd (bUshr (p1 - (bAnd (bUshr p1 1) 1431655765)) 2) 858993459)) 4)) 252645135) + (bUshr (bAnd (((bAnd (p1 - (bAnd (bUshr p1 1) 1431655765)) 858993459) + (bAnd (bUshr (p1 - (bAnd (bUshr p1 1) 1431655765)) 2) 858993459)) + (bUshr ((bAnd (p1 - (bAnd (bUshr p1 1) 1431655765)) 858993459) + (bAnd (bUshr (p1 - (bAnd (bUshr p1 1) 1431655765)) 2) 858993459)) 4)) 252645135) 8)) + (bUshr ((bAnd (((bAnd (p1 - (bAnd (bUshr p1 1) 1431655765)) 858993459) + (bAnd (bUshr (p1 - (bAnd (bUshr p1 1) 1431655765)) 2) 858993459)) + (bUshr ((bAnd (p1 - (bAnd (bUshr p1 1) 1431655765)) 858993459) + (bAnd (bUshr (p1 - (bAnd (bUshr p1 1) 1431655765)) 2) 858993459)) 4)) 252645135) + (bUshr (bAnd (((bAnd (p1 - (bAnd (bUshr p1 1) 1431655765)) 858993459) + (bAnd (bUshr (p1 - (bAnd (bUshr p1 1) 1431655765)) 2) 858993459)) + (bUshr ((bAnd (p1 - (bAnd (bUshr p1 1) 1431655765)) 858993459) + (bAnd (bUshr (p1 - (bAnd (bUshr p1 1) 1431655765)) 2) 858993459)) 4)) 252645135) 8)) 16))
  refine z_iand hx hb dJ6_bitCount_0f7a4_51 ?_
  exact W.iret (v := zI (bAnd (((bAnd (((bAnd (p1 - (bAnd (bUshr p1 1) 1431655765)) 858993459) + (bAnd (bUshr (p1 - (bAnd (bUshr p1 1) 1431655765)) 2) 858993459)) + (bUshr ((bAnd (p1 - (bAnd (bUshr p1 1) 1431655765)) 858993459) + (bAnd (bUshr (p1 - (bAnd (bUshr p1 1) 1431655765)) 2) 858993459)) 4)) 252645135) + (bUshr (bAnd (((bAnd (p1 - (bAnd (bUshr p1 1) 1431655765)) 858993459) + (bAnd (bUshr (p1 - (bAnd (bUshr p1 1) 1431655765)) 2) 858993459)) + (bUshr ((bAnd (p1 - (bAnd (bUshr p1 1) 1431655765)) 858993459) + (bAnd (bUshr (p1 - (bAnd (bUshr p1 1) 1431655765)) 2) 858993459)) 4)) 252645135) 8)) + (bUshr ((bAnd (((bAnd (p1 - (bAnd (bUshr p1 1) 1431655765)) 858993459) + (bAnd (bUshr (p1 - (bAnd (bUshr p1 1) 1431655765)) 2) 858993459)) + (bUshr ((bAnd (p1 - (bAnd (bUshr p1 1) 1431655765)) 858993459) + (bAnd (bUshr (p1 - (bAnd (bUshr p1 1) 1431655765)) 2) 858993459)) 4)) 252645135) + (bUshr (bAnd (((bAnd (p1 - (bAnd (bUshr p1 1) 1431655765)) 858993459) + (bAnd (bUshr (p1 - (bAnd (bUshr p1 1) 1431655765)) 2) 858993459)) + (bUshr ((bAnd (p1 - (bAnd (bUshr p1 1) 1431655765)) 858993459) + (bAnd (bUshr (p1 - (bAnd (bUshr p1 1) 1431655765)) 2) 858993459)) 4)) 252645135) 8)) 16)) 63)) hx hb hr (fun t9 ht9_ hW => ⟨⟨zI (bAnd (((bAnd (((bAnd (p1 - (bAnd (bUshr p1 1) 1431655765)) 858993459) + (bAnd (bUshr (p1 - (bAnd (bUshr p1 1) 1431655765)) 2) 858993459)) + (bUshr ((bAnd (p1 - (bAnd (bUshr p1 1) 1431655765)) 858993459) + (bAnd (bUshr (p1 - (bAnd (bUshr p1 1) 1431655765)) 2) 858993459)) 4)) 252645135) + (bUshr (bAnd (((bAnd (p1 - (bAnd (bUshr p1 1) 1431655765)) 858993459) + (bAnd (bUshr (p1 - (bAnd (bUshr p1 1) 1431655765)) 2) 858993459)) + (bUshr ((bAnd (p1 - (bAnd (bUshr p1 1) 1431655765)) 858993459) + (bAnd (bUshr (p1 - (bAnd (bUshr p1 1) 1431655765)) 2) 858993459)) 4)) 252645135) 8)) + (bUshr ((bAnd (((bAnd (p1 - (bAnd (bUshr p1 1) 1431655765)) 858993459) + (bAnd (bUshr (p1 - (bAnd (bUshr p1 1) 1431655765)) 2) 858993459)) + (bUshr ((bAnd (p1 - (bAnd (bUshr p1 1) 1431655765)) 858993459) + (bAnd (bUshr (p1 - (bAnd (bUshr p1 1) 1431655765)) 2) 858993459)) 4)) 252645135) + (bUshr (bAnd (((bAnd (p1 - (bAnd (bUshr p1 1) 1431655765)) 858993459) + (bAnd (bUshr (p1 - (bAnd (bUshr p1 1) 1431655765)) 2) 858993459)) + (bUshr ((bAnd (p1 - (bAnd (bUshr p1 1) 1431655765)) 858993459) + (bAnd (bUshr (p1 - (bAnd (bUshr p1 1) 1431655765)) 2) 858993459)) 4)) 252645135) 8)) 16)) 63), u, rfl, (by exact ⟨rfl, rfl⟩), gB.mk' hG hC hS ht9_ hW⟩, hS.F ht9_⟩) hS.2.2 dJ6_bitCount_0f7a4_52
set_option maxHeartbeats 4000000 in
set_option maxRecDepth 100000 in
theorem kX11_count (l : Launch) (D : va_G) (cy : Nat → ClassId) (ad : Nat → Nat) (jf : Nat → Int64) (A : Nat → Prop) (u : gS) (p1 : Int) (j_p1 : -2147483648 ≤ p1 ∧ p1 < 2147483648) (i18 : 0 ≤ u.1 18 ∧ u.1 18 ≤ 65535) : Met l yX11_count wsX11_count ({ frames := 1, cells := 0, slots := 0, locals := 20 }) (va_Pc [.ref (ad 0), .int (zI p1)] (gB D cy ad jf A u)) (va_Qi (fun (r : Int32) (v : gS) => r = zI (cCount u p1) ∧ v = u) (gB D cy ad jf A) A) 0 0 A := by
  refine Met.ofW (cc := cX11_count) (maxL := 2) (ret := (some .int)) (by decide) rfl ?_
  intro p e s m args below meth c s₁ B hml hv
  obtain ⟨rfl, hG, hC⟩ := hv
  have hx := B.exec
  have hb := B.bytes
  have hr := B.returns
  have hts := atoms_spec (ws := wsX11_count) B.pre
  have hown : s.vm.findClass RX11 = some m.cls := findClass_of_methodNamed B.named
  have hlocks := B.notSynchronized
  have hS : va_S A s.heap s.heap [] := va_S.rf
  have hl := lv_entry ([.ref (ad 0), .int (zI p1)]) (n := 2) (Nat.le_of_ble_eq_true rfl)
  rw [lg_entry_eq]
  generalize (lg_sl ([.ref (ad 0), .int (zI p1)]) ++ List.replicate (2 - (lg_sl ([.ref (ad 0), .int (zI p1)])).length) Slot.unset).toArray = ls at hl ⊢
  have hl : lv_has ls 2 [(0, .ref (ad 0)), (1, .int (zI p1))] := hl
  refine lv_iload_n hx hb dX11_count_0 rfl (lv_at hl 1 rfl) ?_
  rcases (show (p1 < 0 ∨ 5 < p1) ∨ p1 = 0 ∨ p1 = 1 ∨ p1 = 2 ∨ p1 = 3 ∨ p1 = 4 ∨ p1 = 5 by omega) with c_1 | c_1 | c_1 | c_1 | c_1 | c_1 | c_1
  · refine lv_tableOut (tgt := 85) hx hb dX11_count_1 (by rw [zI_toInt (by omega) (by omega)]; omega) (by decide) ?_
    refine z_iconst hx hb dX11_count_85 ?_
    exact W.iret (v := zI ((-1))) hx hb hr (fun t9 ht9_ hW => ⟨⟨zI ((-1)), u, rfl, (by refine ⟨?_, rfl⟩; unfold cCount; (repeat (first | rw [if_pos (by omega)] | rw [if_neg (by omega)])); all_goals rfl), gB.mk' hG hC hS ht9_ hW⟩, hS.F ht9_⟩) hS.2.2 dX11_count_86
  · refine lv_tableIn (off := 39) (tgt := 40) hx hb dX11_count_1 (by rw [c_1]; decide) (by rw [c_1]; decide) (by rw [c_1]; decide) (by decide) ?_
    refine lv_aload_n hx hb dX11_count_40 rfl (lv_at hl 0 rfl) ?_
    refine g_get (C := RX11) (T := TX11) (N := 14) (ci := 10) hx hb hts (fun _ h => (List.mem_cons_of_mem _ (List.mem_append_left _ (List.mem_append_left _ (List.mem_append_left _ (List.mem_append_right _ h)))))) hown hC.1 hG 0 (by decide) rfl rfl 2 (by decide) (hts (.fieldLink RX11 22 "StraitSwim" "swimmerCount" "I") (List.mem_cons_of_mem _ (List.mem_append_left _ (List.mem_append_left _ (List.mem_append_left _ (List.mem_append_left _ (List.mem_of_getElem? (i := 0) rfl))))))) (fun _ h9 => h9) rfl dX11_count_41 ?_
    exact W.iret (v := zI (u.1 0)) hx hb hr (fun t9 ht9_ hW => ⟨⟨zI (u.1 0), u, rfl, (by refine ⟨?_, rfl⟩; unfold cCount; (repeat (first | rw [if_pos (by omega)] | rw [if_neg (by omega)])); all_goals rfl), gB.mk' hG hC hS ht9_ hW⟩, hS.F ht9_⟩) hS.2.2 dX11_count_44
  · refine lv_tableIn (off := 44) (tgt := 45) hx hb dX11_count_1 (by rw [c_1]; decide) (by rw [c_1]; decide) (by rw [c_1]; decide) (by decide) ?_
    refine lv_aload_n hx hb dX11_count_45 rfl (lv_at hl 0 rfl) ?_
    refine g_get (C := RX11) (T := TX11) (N := 14) (ci := 10) hx hb hts (fun _ h => (List.mem_cons_of_mem _ (List.mem_append_left _ (List.mem_append_left _ (List.mem_append_left _ (List.mem_append_right _ h)))))) hown hC.1 hG 0 (by decide) rfl rfl 0 (by decide) (hts (.fieldLink RX11 10 "StraitSwim" "strait" "LStraitSwim$Strait;") (List.mem_cons_of_mem _ (List.mem_append_left _ (List.mem_append_left _ (List.mem_append_left _ (List.mem_append_left _ (List.mem_of_getElem? (i := 1) rfl))))))) (fun _ h9 => h9) rfl dX11_count_46 ?_
    refine g_get (C := RX8) (T := TX8) (N := 4) (ci := 7) hx hb hts (fun _ h => (List.mem_cons_of_mem _ (List.mem_append_left _ (List.mem_append_left _ (List.mem_append_right _ h))))) hown hC.1 hG 1 (by decide) rfl rfl 1 (by decide) (hts (.fieldLink RX11 203 "StraitSwim$Strait" "dryCells" "I") (List.mem_cons_of_mem _ (List.mem_append_left _ (List.mem_append_left _ (List.mem_append_left _ (List.mem_append_left _ (List.mem_of_getElem? (i := 2) rfl))))))) (fun _ h9 => h9) rfl dX11_count_49 ?_
    exact W.iret (v := zI (u.1 4)) hx hb hr (fun t9 ht9_ hW => ⟨⟨zI (u.1 4), u, rfl, (by refine ⟨?_, rfl⟩; unfold cCount; (repeat (first | rw [if_pos (by omega)] | rw [if_neg (by omega)])); all_goals rfl), gB.mk' hG hC hS ht9_ hW⟩, hS.F ht9_⟩) hS.2.2 dX11_count_52
  · refine lv_tableIn (off := 52) (tgt := 53) hx hb dX11_count_1 (by rw [c_1]; decide) (by rw [c_1]; decide) (by rw [c_1]; decide) (by decide) ?_
    refine lv_aload_n hx hb dX11_count_53 rfl (lv_at hl 0 rfl) ?_
    refine g_get (C := RX11) (T := TX11) (N := 14) (ci := 10) hx hb hts (fun _ h => (List.mem_cons_of_mem _ (List.mem_append_left _ (List.mem_append_left _ (List.mem_append_left _ (List.mem_append_right _ h)))))) hown hC.1 hG 0 (by decide) rfl rfl 8 (by decide) (hts (.fieldLink RX11 48 "StraitSwim" "shipCount" "I") (List.mem_cons_of_mem _ (List.mem_append_left _ (List.mem_append_left _ (List.mem_append_left _ (List.mem_append_left _ (List.mem_of_getElem? (i := 3) rfl))))))) (fun _ h9 => h9) rfl dX11_count_54 ?_
    exact W.iret (v := zI (u.1 3)) hx hb hr (fun t9 ht9_ hW => ⟨⟨zI (u.1 3), u, rfl, (by refine ⟨?_, rfl⟩; unfold cCount; (repeat (first | rw [if_pos (by omega)] | rw [if_neg (by omega)])); all_goals rfl), gB.mk' hG hC hS ht9_ hW⟩, hS.F ht9_⟩) hS.2.2 dX11_count_57
  · refine lv_tableIn (off := 57) (tgt := 58) hx hb dX11_count_1 (by rw [c_1]; decide) (by rw [c_1]; decide) (by rw [c_1]; decide) (by decide) ?_
    refine lv_aload_n hx hb dX11_count_58 rfl (lv_at hl 0 rfl) ?_
    refine g_get (C := RX11) (T := TX11) (N := 14) (ci := 10) hx hb hts (fun _ h => (List.mem_cons_of_mem _ (List.mem_append_left _ (List.mem_append_left _ (List.mem_append_left _ (List.mem_append_right _ h)))))) hown hC.1 hG 0 (by decide) rfl rfl 9 (by decide) (hts (.fieldLink RX11 56 "StraitSwim" "counts" "LStraitSwim$Tally;") (List.mem_cons_of_mem _ (List.mem_append_left _ (List.mem_append_left _ (List.mem_append_left _ (List.mem_append_left _ (List.mem_of_getElem? (i := 4) rfl))))))) (fun _ h9 => h9) rfl dX11_count_59 ?_
    refine g_get (C := RX10) (T := TX10) (N := 2) (ci := 9) hx hb hts (fun _ h => (List.mem_cons_of_mem _ (List.mem_append_left _ (List.mem_append_right _ h)))) hown hC.1 hG 4 (by decide) rfl rfl 1 (by decide) (hts (.fieldLink RX11 173 "StraitSwim$Tally" "size" "I") (List.mem_cons_of_mem _ (List.mem_append_left _ (List.mem_append_left _ (List.mem_append_left _ (List.mem_append_left _ (List.mem_of_getElem? (i := 5) rfl))))))) (fun _ h9 => h9) rfl dX11_count_62 ?_
    exact W.iret (v := zI (u.1 15)) hx hb hr (fun t9 ht9_ hW => ⟨⟨zI (u.1 15), u, rfl, (by refine ⟨?_, rfl⟩; unfold cCount; (repeat (first | rw [if_pos (by omega)] | rw [if_neg (by omega)])); all_goals rfl), gB.mk' hG hC hS ht9_ hW⟩, hS.F ht9_⟩) hS.2.2 dX11_count_65
  · refine lv_tableIn (off := 65) (tgt := 66) hx hb dX11_count_1 (by rw [c_1]; decide) (by rw [c_1]; decide) (by rw [c_1]; decide) (by decide) ?_
    refine lv_aload_n hx hb dX11_count_66 rfl (lv_at hl 0 rfl) ?_
    refine g_get (C := RX11) (T := TX11) (N := 14) (ci := 10) hx hb hts (fun _ h => (List.mem_cons_of_mem _ (List.mem_append_left _ (List.mem_append_left _ (List.mem_append_left _ (List.mem_append_right _ h)))))) hown hC.1 hG 0 (by decide) rfl rfl 11 (by decide) (hts (.fieldLink RX11 63 "StraitSwim" "turns" "LStraitSwim$Tally;") (List.mem_cons_of_mem _ (List.mem_append_left _ (List.mem_append_left _ (List.mem_append_left _ (List.mem_append_left _ (List.mem_of_getElem? (i := 6) rfl))))))) (fun _ h9 => h9) rfl dX11_count_67 ?_
    refine g_get (C := RX10) (T := TX10) (N := 2) (ci := 9) hx hb hts (fun _ h => (List.mem_cons_of_mem _ (List.mem_append_left _ (List.mem_append_right _ h)))) hown hC.1 hG 6 (by decide) rfl rfl 1 (by decide) (hts (.fieldLink RX11 173 "StraitSwim$Tally" "size" "I") (List.mem_cons_of_mem _ (List.mem_append_left _ (List.mem_append_left _ (List.mem_append_left _ (List.mem_append_left _ (List.mem_of_getElem? (i := 5) rfl))))))) (fun _ h9 => h9) rfl dX11_count_70 ?_
    exact W.iret (v := zI (u.1 17)) hx hb hr (fun t9 ht9_ hW => ⟨⟨zI (u.1 17), u, rfl, (by refine ⟨?_, rfl⟩; unfold cCount; (repeat (first | rw [if_pos (by omega)] | rw [if_neg (by omega)])); all_goals rfl), gB.mk' hG hC hS ht9_ hW⟩, hS.F ht9_⟩) hS.2.2 dX11_count_73
  · refine lv_tableIn (off := 73) (tgt := 74) hx hb dX11_count_1 (by rw [c_1]; decide) (by rw [c_1]; decide) (by rw [c_1]; decide) (by decide) ?_
    refine lv_aload_n hx hb dX11_count_74 rfl (lv_at hl 0 rfl) ?_
    refine g_get (C := RX11) (T := TX11) (N := 14) (ci := 10) hx hb hts (fun _ h => (List.mem_cons_of_mem _ (List.mem_append_left _ (List.mem_append_left _ (List.mem_append_left _ (List.mem_append_right _ h)))))) hown hC.1 hG 0 (by decide) rfl rfl 12 (by decide) (hts (.fieldLink RX11 69 "StraitSwim" "neap" "LStraitSwim$Neap;") (List.mem_cons_of_mem _ (List.mem_append_left _ (List.mem_append_left _ (List.mem_append_left _ (List.mem_append_left _ (List.mem_of_getElem? (i := 7) rfl))))))) (fun _ h9 => h9) rfl dX11_count_75 ?_
    refine g_get (C := RX2) (T := TX2) (N := 7) (ci := 1) hx hb hts (fun _ h => (List.mem_cons_of_mem _ (List.mem_append_right _ h))) hown hC.1 hG 7 (by decide) rfl rfl 0 (by decide) (hts (.fieldLink RX11 188 "StraitSwim$Neap" "calmDays" "I") (List.mem_cons_of_mem _ (List.mem_append_left _ (List.mem_append_left _ (List.mem_append_left _ (List.mem_append_left _ (List.mem_of_getElem? (i := 8) rfl))))))) (fun _ h9 => h9) rfl dX11_count_78 ?_
    refine g_calli (va_runS (As := [.int (zI (u.1 18))]) (rest := []) ⟨hx, hb, hml, hown, hts⟩ (kJ6_bitCount_0f7a4 l D cy ad jf A u (u.1 18) (by omega)) (va_cwS 1 hts gX11_count_J6_bitCount_0f7a4 rfl rfl rfl (by decide +kernel) ⟨by decide, by decide⟩) (g_preS hG hC hS) rfl rfl hl.1 rfl (lv_room (Nat.le_of_ble_eq_true rfl)) dX11_count_81 ⟨Nat.le_of_ble_eq_true rfl, Nat.le_of_ble_eq_true rfl⟩) hS (fun r2 u3 H locs p_4 hG hS => ?_)
    obtain ⟨rfl, he_⟩ := p_4
    rw [he_] at hG; clear he_
    exact W.iret (v := zI (jBit (u.1 18))) hx hb hr (fun t9 ht9_ hW => ⟨⟨zI (jBit (u.1 18)), u, rfl, (by refine ⟨?_, rfl⟩; unfold cCount; (repeat (first | rw [if_pos (by omega)] | rw [if_neg (by omega)])); all_goals rfl), gB.mk' hG hC hS ht9_ hW⟩, hS.F ht9_⟩) hS.2.2 dX11_count_84
