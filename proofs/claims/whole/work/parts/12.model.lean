set_option maxHeartbeats 4000000 in
set_option maxRecDepth 100000 in
theorem kX12_isSwimmer (l : Launch) (D : va_G) (cy : Nat → ClassId) (ad : Nat → Nat) (jf : Nat → Int64) (A : Nat → Prop) (u : gS) (p1 : Int) (j_p1 : -2147483648 ≤ p1 ∧ p1 < 2147483648) (i23 : 0 ≤ u.1 23 ∧ u.1 23 ≤ 10) : Met l yX12_isSwimmer wsX12_isSwimmer ({ frames := 1, cells := 0, slots := 0, locals := 22 }) (va_Pc [.ref (ad 8), .int (zI p1)] (gB D cy ad jf A u)) (va_Qi (fun (r : Int32) (v : gS) => (∃ b : Int, r = zI b ∧ (b = 1 ∧ 0 ≤ p1 ∧ p1 ≤ u.1 23 - 1 ∨ b = 0 ∧ ¬ (0 ≤ p1 ∧ p1 ≤ u.1 23 - 1))) ∧ v = u) (gB D cy ad jf A) A) 0 0 A := by
  refine Met.ofW (cc := cX12_isSwimmer) (maxL := 2) (ret := (some .boolean)) (by decide) rfl ?_
  intro p e s m args below meth c s₁ B hml hv
  obtain ⟨rfl, hG, hC⟩ := hv
  have hx := B.exec
  have hb := B.bytes
  have hr := B.returns
  have hts := atoms_spec (ws := wsX12_isSwimmer) B.pre
  have hown : s.vm.findClass RX12 = some m.cls := findClass_of_methodNamed B.named
  have hlocks := B.notSynchronized
  have hS : va_S A s.heap s.heap [] := va_S.rf
  have hl := lv_entry ([.ref (ad 8), .int (zI p1)]) (n := 2) (Nat.le_of_ble_eq_true rfl)
  rw [lg_entry_eq]
  generalize (lg_sl ([.ref (ad 8), .int (zI p1)]) ++ List.replicate (2 - (lg_sl ([.ref (ad 8), .int (zI p1)])).length) Slot.unset).toArray = ls at hl ⊢
  have hl : lv_has ls 2 [(0, .ref (ad 8)), (1, .int (zI p1))] := hl
  refine lv_iload_n hx hb dX12_isSwimmer_0 rfl (lv_at hl 1 rfl) ?_
  refine z_iconst hx hb dX12_isSwimmer_1 ?_
  refine lv_aload_n hx hb dX12_isSwimmer_2 rfl (lv_at hl 0 rfl) ?_
  refine g_get (C := RX12) (T := TX12) (N := 42) (ci := 11) hx hb hts (fun _ h => (List.mem_cons_of_mem _ (List.mem_append_right _ h))) hown hC.1 hG 8 (by decide) rfl rfl 6 (by decide) (hts (.fieldLink RX12 138 "StraitSwimModel" "swimmers" "I") (List.mem_cons_of_mem _ (List.mem_append_left _ (List.mem_of_getElem? (i := 0) rfl)))) (fun _ h9 => h9) rfl dX12_isSwimmer_3 ?_
  refine z_iconst hx hb dX12_isSwimmer_6 ?_
  refine z_isub hx hb dX12_isSwimmer_7 ?_
  refine g_calli (va_runS (As := [.int (zI p1), .int (zI 0), .int (zI ((u.1 23) - 1))]) (rest := []) ⟨hx, hb, hml, hown, hts⟩ (kX12_in l D cy ad jf A u p1 0 ((u.1 23) - 1) (by omega) (by omega) (by omega)) (va_cwS 3 hts gX12_isSwimmer_X12_in rfl rfl rfl (by decide +kernel) ⟨by decide, by decide⟩) (g_preS hG hC hS) rfl rfl hl.1 rfl (lv_room (Nat.le_of_ble_eq_true rfl)) dX12_isSwimmer_8 ⟨Nat.le_of_ble_eq_true rfl, Nat.le_of_ble_eq_true rfl⟩) hS (fun r1 u2 H locs p_3 hG hS => ?_)
  obtain ⟨⟨b4, rfl, q_5⟩, he_⟩ := p_3
  rw [he_] at hG; clear he_
  have hbb4 : 0 ≤ b4 ∧ b4 ≤ 1 := by rcases q_5 with ⟨h, _⟩ | ⟨h, _⟩ <;> omega
  exact W.zret (ty := .boolean) (v := zI b4) hx hb hr (nar_b (by omega)) (fun t9 ht9_ hW => ⟨⟨zI b4, u, rfl, (by exact ⟨⟨b4, rfl, by omega⟩, rfl⟩), gB.mk' hG hC hS ht9_ hW⟩, hS.F ht9_⟩) hS.2.2 dX12_isSwimmer_11
set_option maxHeartbeats 4000000 in
set_option maxRecDepth 100000 in
theorem kX12_swimmer (l : Launch) (D : va_G) (cy : Nat → ClassId) (ad : Nat → Nat) (jf : Nat → Int64) (A : Nat → Prop) (u : gS) (p1 p2 p3 : Int) (j_p1 : -2147483648 ≤ p1 ∧ p1 < 2147483648) (j_p2 : -2147483648 ≤ p2 ∧ p2 < 2147483648) (j_p3 : -2147483648 ≤ p3 ∧ p3 < 2147483648) (i23 : 0 ≤ u.1 23 ∧ u.1 23 ≤ 10) : Met l yX12_swimmer wsX12_swimmer ({ frames := 1, cells := 0, slots := 0, locals := 22 }) (va_Pc [.ref (ad 8), .int (zI p1), .int (zI p2), .int (zI p3)] (gB D cy ad jf A u)) (va_Qi (fun (r : Int32) (v : gS) => r = zI (mSwimmer u p1 p2 p3).1 ∧ v = (mSwimmer u p1 p2 p3).2) (gB D cy ad jf A) A) 0 0 A := by
  refine Met.ofW (cc := cX12_swimmer) (maxL := 4) (ret := (some .int)) (by decide) rfl ?_
  intro p e s m args below meth c s₁ B hml hv
  obtain ⟨rfl, hG, hC⟩ := hv
  have hx := B.exec
  have hb := B.bytes
  have hr := B.returns
  have hts := atoms_spec (ws := wsX12_swimmer) B.pre
  have hown : s.vm.findClass RX12 = some m.cls := findClass_of_methodNamed B.named
  have hlocks := B.notSynchronized
  have hS : va_S A s.heap s.heap [] := va_S.rf
  have hl := lv_entry ([.ref (ad 8), .int (zI p1), .int (zI p2), .int (zI p3)]) (n := 4) (Nat.le_of_ble_eq_true rfl)
  rw [lg_entry_eq]
  generalize (lg_sl ([.ref (ad 8), .int (zI p1), .int (zI p2), .int (zI p3)]) ++ List.replicate (4 - (lg_sl ([.ref (ad 8), .int (zI p1), .int (zI p2), .int (zI p3)])).length) Slot.unset).toArray = ls at hl ⊢
  have hl : lv_has ls 4 [(0, .ref (ad 8)), (1, .int (zI p1)), (2, .int (zI p2)), (3, .int (zI p3))] := hl
  refine lv_iload_n hx hb dX12_swimmer_0 rfl (lv_at hl 1 rfl) ?_
  refine z_iconst hx hb dX12_swimmer_1 ?_
  refine z_iconst hx hb dX12_swimmer_2 ?_
  refine g_calli (va_runS (As := [.int (zI p1), .int (zI 0), .int (zI 3)]) (rest := []) ⟨hx, hb, hml, hown, hts⟩ (kX12_in l D cy ad jf A u p1 0 3 (by omega) (by omega) (by omega)) (va_cwS 3 hts gX12_swimmer_X12_in rfl rfl rfl (by decide +kernel) ⟨by decide, by decide⟩) (g_preS hG hC hS) rfl rfl hl.1 rfl (lv_room (Nat.le_of_ble_eq_true rfl)) dX12_swimmer_3 ⟨Nat.le_of_ble_eq_true rfl, Nat.le_of_ble_eq_true rfl⟩) hS (fun r1 u2 H locs p_3 hG hS => ?_)
  obtain ⟨⟨b4, rfl, q_5⟩, he_⟩ := p_3
  rw [he_] at hG; clear he_
  have hbb4 : 0 ≤ b4 ∧ b4 ≤ 1 := by rcases q_5 with ⟨h, _⟩ | ⟨h, _⟩ <;> omega
  refine z_if_eq (tgt := 30) hx hb dX12_swimmer_6 (by decide) (by omega) (by omega) (fun c_6 => ?_) (fun c_6 => ?_)
  · refine z_iconst hx hb dX12_swimmer_30 ?_
    exact W.iret (v := zI ((-1))) hx hb hr (fun t9 ht9_ hW => ⟨⟨zI ((-1)), u, rfl, (by skip; refine ⟨?_, ?_⟩ <;> unfold mSwimmer <;> (repeat (first | rw [if_pos (by omega)] | rw [if_neg (by omega)])) <;> first | done | rfl | (congr 1; omega) | (subst_vars; rfl)), gB.mk' hG hC hS ht9_ hW⟩, hS.F ht9_⟩) hS.2.2 dX12_swimmer_31
  · refine lv_iload_n hx hb dX12_swimmer_9 rfl (lv_at hl 2 rfl) ?_
    refine z_iconst hx hb dX12_swimmer_10 ?_
    refine z_bipush hx hb dX12_swimmer_11 (by decide) ?_
    refine g_calli (va_runS (As := [.int (zI p2), .int (zI 1), .int (zI 20)]) (rest := []) ⟨hx, hb, hml, hown, hts⟩ (kX12_in l D cy ad jf A u p2 1 20 (by omega) (by omega) (by omega)) (va_cwS 3 hts gX12_swimmer_X12_in rfl rfl rfl (by decide +kernel) ⟨by decide, by decide⟩) (g_preS hG hC hS) rfl rfl hl.1 rfl (lv_room (Nat.le_of_ble_eq_true rfl)) dX12_swimmer_13 ⟨Nat.le_of_ble_eq_true rfl, Nat.le_of_ble_eq_true rfl⟩) hS (fun r7 u8 H locs p_9 hG hS => ?_)
    obtain ⟨⟨b10, rfl, q_11⟩, he_⟩ := p_9
    rw [he_] at hG; clear he_
    have hbb10 : 0 ≤ b10 ∧ b10 ≤ 1 := by rcases q_11 with ⟨h, _⟩ | ⟨h, _⟩ <;> omega
    refine z_if_eq (tgt := 30) hx hb dX12_swimmer_16 (by decide) (by omega) (by omega) (fun c_12 => ?_) (fun c_12 => ?_)
    · refine z_iconst hx hb dX12_swimmer_30 ?_
      exact W.iret (v := zI ((-1))) hx hb hr (fun t9 ht9_ hW => ⟨⟨zI ((-1)), u, rfl, (by skip; refine ⟨?_, ?_⟩ <;> unfold mSwimmer <;> (repeat (first | rw [if_pos (by omega)] | rw [if_neg (by omega)])) <;> first | done | rfl | (congr 1; omega) | (subst_vars; rfl)), gB.mk' hG hC hS ht9_ hW⟩, hS.F ht9_⟩) hS.2.2 dX12_swimmer_31
    · refine lv_iload_n hx hb dX12_swimmer_19 rfl (lv_at hl 3 rfl) ?_
      refine z_iconst hx hb dX12_swimmer_20 ?_
      refine z_sipush hx hb dX12_swimmer_21 (by decide) ?_
      refine g_calli (va_runS (As := [.int (zI p3), .int (zI 1), .int (zI 400)]) (rest := []) ⟨hx, hb, hml, hown, hts⟩ (kX12_in l D cy ad jf A u p3 1 400 (by omega) (by omega) (by omega)) (va_cwS 3 hts gX12_swimmer_X12_in rfl rfl rfl (by decide +kernel) ⟨by decide, by decide⟩) (g_preS hG hC hS) rfl rfl hl.1 rfl (lv_room (Nat.le_of_ble_eq_true rfl)) dX12_swimmer_24 ⟨Nat.le_of_ble_eq_true rfl, Nat.le_of_ble_eq_true rfl⟩) hS (fun r13 u14 H locs p_15 hG hS => ?_)
      obtain ⟨⟨b16, rfl, q_17⟩, he_⟩ := p_15
      rw [he_] at hG; clear he_
      have hbb16 : 0 ≤ b16 ∧ b16 ≤ 1 := by rcases q_17 with ⟨h, _⟩ | ⟨h, _⟩ <;> omega
      refine z_if_ne (tgt := 32) hx hb dX12_swimmer_27 (by decide) (by omega) (by omega) (fun c_18 => ?_) (fun c_18 => ?_)
      · refine lv_aload_n hx hb dX12_swimmer_32 rfl (lv_at hl 0 rfl) ?_
        refine g_get (C := RX12) (T := TX12) (N := 42) (ci := 11) hx hb hts (fun _ h => (List.mem_cons_of_mem _ (List.mem_append_right _ h))) hown hC.1 hG 8 (by decide) rfl rfl 6 (by decide) (hts (.fieldLink RX12 138 "StraitSwimModel" "swimmers" "I") (List.mem_cons_of_mem _ (List.mem_append_left _ (List.mem_of_getElem? (i := 0) rfl)))) (fun _ h9 => h9) rfl dX12_swimmer_33 ?_
        refine z_bipush hx hb dX12_swimmer_36 (by decide) ?_
        refine z_icmp_ne (tgt := 44) hx hb dX12_swimmer_38 (by decide) (by omega) (by omega) (by omega) (by omega) (fun c_19 => ?_) (fun c_19 => ?_)
        · refine lv_aload_n hx hb dX12_swimmer_44 rfl (lv_at hl 0 rfl) ?_
          refine g_get (C := RX12) (T := TX12) (N := 42) (ci := 11) hx hb hts (fun _ h => (List.mem_cons_of_mem _ (List.mem_append_right _ h))) hown hC.1 hG 8 (by decide) rfl rfl 7 (by decide) (hts (.fieldLink RX12 27 "StraitSwimModel" "kind" "[I") (List.mem_cons_of_mem _ (List.mem_append_left _ (List.mem_of_getElem? (i := 1) rfl)))) (fun _ h9 => h9) rfl dX12_swimmer_45 ?_
          refine lv_aload_n hx hb dX12_swimmer_48 rfl (lv_at hl 0 rfl) ?_
          refine g_get (C := RX12) (T := TX12) (N := 42) (ci := 11) hx hb hts (fun _ h => (List.mem_cons_of_mem _ (List.mem_append_right _ h))) hown hC.1 hG 8 (by decide) rfl rfl 6 (by decide) (hts (.fieldLink RX12 138 "StraitSwimModel" "swimmers" "I") (List.mem_cons_of_mem _ (List.mem_append_left _ (List.mem_of_getElem? (i := 0) rfl)))) (fun _ h9 => h9) rfl dX12_swimmer_49 ?_
          refine lv_iload_n hx hb dX12_swimmer_52 rfl (lv_at hl 1 rfl) ?_
          refine g_iast (n := 10) hx hb hC.1 hG hS 34 (by decide) rfl rfl (by omega) (by omega) (by decide) dX12_swimmer_53 (fun u20 H locs hu20 hG hS => ?_)
          refine lv_aload_n hx hb dX12_swimmer_54 rfl (lv_at hl 0 rfl) ?_
          refine g_get (C := RX12) (T := TX12) (N := 42) (ci := 11) hx hb hts (fun _ h => (List.mem_cons_of_mem _ (List.mem_append_right _ h))) hown hC.1 hG 8 (by decide) rfl rfl 8 (by decide) (hts (.fieldLink RX12 30 "StraitSwimModel" "speed" "[I") (List.mem_cons_of_mem _ (List.mem_append_left _ (List.mem_of_getElem? (i := 2) rfl)))) (fun _ h9 => h9) rfl dX12_swimmer_55 ?_
          refine lv_aload_n hx hb dX12_swimmer_58 rfl (lv_at hl 0 rfl) ?_
          refine g_get (C := RX12) (T := TX12) (N := 42) (ci := 11) hx hb hts (fun _ h => (List.mem_cons_of_mem _ (List.mem_append_right _ h))) hown hC.1 hG 8 (by decide) rfl rfl 6 (by decide) (hts (.fieldLink RX12 138 "StraitSwimModel" "swimmers" "I") (List.mem_cons_of_mem _ (List.mem_append_left _ (List.mem_of_getElem? (i := 0) rfl)))) (fun _ h9 => h9) rfl dX12_swimmer_59 ?_
          have e_21 : u20.1 23 = u.1 23 := by subst hu20; rfl
          rw [e_21]
          refine lv_iload_n hx hb dX12_swimmer_62 rfl (lv_at hl 2 rfl) ?_
          refine g_iast (n := 10) hx hb hC.1 hG hS 35 (by decide) rfl rfl (by omega) (by omega) (by decide) dX12_swimmer_63 (fun u22 H locs hu22 hG hS => ?_)
          refine lv_aload_n hx hb dX12_swimmer_64 rfl (lv_at hl 0 rfl) ?_
          refine g_get (C := RX12) (T := TX12) (N := 42) (ci := 11) hx hb hts (fun _ h => (List.mem_cons_of_mem _ (List.mem_append_right _ h))) hown hC.1 hG 8 (by decide) rfl rfl 9 (by decide) (hts (.fieldLink RX12 33 "StraitSwimModel" "limit" "[I") (List.mem_cons_of_mem _ (List.mem_append_left _ (List.mem_of_getElem? (i := 3) rfl)))) (fun _ h9 => h9) rfl dX12_swimmer_65 ?_
          refine lv_aload_n hx hb dX12_swimmer_68 rfl (lv_at hl 0 rfl) ?_
          refine g_get (C := RX12) (T := TX12) (N := 42) (ci := 11) hx hb hts (fun _ h => (List.mem_cons_of_mem _ (List.mem_append_right _ h))) hown hC.1 hG 8 (by decide) rfl rfl 6 (by decide) (hts (.fieldLink RX12 138 "StraitSwimModel" "swimmers" "I") (List.mem_cons_of_mem _ (List.mem_append_left _ (List.mem_of_getElem? (i := 0) rfl)))) (fun _ h9 => h9) rfl dX12_swimmer_69 ?_
          have e_23 : u22.1 23 = u.1 23 := by subst hu22; subst hu20; rfl
          rw [e_23]
          refine lv_iload_n hx hb dX12_swimmer_72 rfl (lv_at hl 3 rfl) ?_
          refine g_iast (n := 10) hx hb hC.1 hG hS 36 (by decide) rfl rfl (by omega) (by omega) (by decide) dX12_swimmer_73 (fun u24 H locs hu24 hG hS => ?_)
          refine lv_aload_n hx hb dX12_swimmer_74 rfl (lv_at hl 0 rfl) ?_
          refine g_get (C := RX12) (T := TX12) (N := 42) (ci := 11) hx hb hts (fun _ h => (List.mem_cons_of_mem _ (List.mem_append_right _ h))) hown hC.1 hG 8 (by decide) rfl rfl 10 (by decide) (hts (.fieldLink RX12 36 "StraitSwimModel" "feeds" "[I") (List.mem_cons_of_mem _ (List.mem_append_left _ (List.mem_of_getElem? (i := 4) rfl)))) (fun _ h9 => h9) rfl dX12_swimmer_75 ?_
          refine lv_aload_n hx hb dX12_swimmer_78 rfl (lv_at hl 0 rfl) ?_
          refine g_get (C := RX12) (T := TX12) (N := 42) (ci := 11) hx hb hts (fun _ h => (List.mem_cons_of_mem _ (List.mem_append_right _ h))) hown hC.1 hG 8 (by decide) rfl rfl 6 (by decide) (hts (.fieldLink RX12 138 "StraitSwimModel" "swimmers" "I") (List.mem_cons_of_mem _ (List.mem_append_left _ (List.mem_of_getElem? (i := 0) rfl)))) (fun _ h9 => h9) rfl dX12_swimmer_79 ?_
          have e_25 : u24.1 23 = u.1 23 := by subst hu24; subst hu22; subst hu20; rfl
          rw [e_25]
          refine z_iconst hx hb dX12_swimmer_82 ?_
          refine g_iast (n := 10) hx hb hC.1 hG hS 37 (by decide) rfl rfl (by omega) (by omega) (by decide) dX12_swimmer_83 (fun u26 H locs hu26 hG hS => ?_)
          refine lv_aload_n hx hb dX12_swimmer_84 rfl (lv_at hl 0 rfl) ?_
          refine g_get (C := RX12) (T := TX12) (N := 42) (ci := 11) hx hb hts (fun _ h => (List.mem_cons_of_mem _ (List.mem_append_right _ h))) hown hC.1 hG 8 (by decide) rfl rfl 29 (by decide) (hts (.fieldLink RX12 81 "StraitSwimModel" "slots" "[I") (List.mem_cons_of_mem _ (List.mem_append_left _ (List.mem_of_getElem? (i := 5) rfl)))) (fun _ h9 => h9) rfl dX12_swimmer_85 ?_
          refine lv_aload_n hx hb dX12_swimmer_88 rfl (lv_at hl 0 rfl) ?_
          refine g_get (C := RX12) (T := TX12) (N := 42) (ci := 11) hx hb hts (fun _ h => (List.mem_cons_of_mem _ (List.mem_append_right _ h))) hown hC.1 hG 8 (by decide) rfl rfl 6 (by decide) (hts (.fieldLink RX12 138 "StraitSwimModel" "swimmers" "I") (List.mem_cons_of_mem _ (List.mem_append_left _ (List.mem_of_getElem? (i := 0) rfl)))) (fun _ h9 => h9) rfl dX12_swimmer_89 ?_
          have e_27 : u26.1 23 = u.1 23 := by subst hu26; subst hu24; subst hu22; subst hu20; rfl
          rw [e_27]
          refine z_iconst hx hb dX12_swimmer_92 ?_
          refine g_iast (n := 10) hx hb hC.1 hG hS 51 (by decide) rfl rfl (by omega) (by omega) (by decide) dX12_swimmer_93 (fun u28 H locs hu28 hG hS => ?_)
          refine lv_aload_n hx hb dX12_swimmer_94 rfl (lv_at hl 0 rfl) ?_
          refine lv_dup hx hb dX12_swimmer_95 rfl ?_
          refine g_get (C := RX12) (T := TX12) (N := 42) (ci := 11) hx hb hts (fun _ h => (List.mem_cons_of_mem _ (List.mem_append_right _ h))) hown hC.1 hG 8 (by decide) rfl rfl 6 (by decide) (hts (.fieldLink RX12 138 "StraitSwimModel" "swimmers" "I") (List.mem_cons_of_mem _ (List.mem_append_left _ (List.mem_of_getElem? (i := 0) rfl)))) (fun _ h9 => h9) rfl dX12_swimmer_96 ?_
          have e_29 : u28.1 23 = u.1 23 := by subst hu28; subst hu26; subst hu24; subst hu22; subst hu20; rfl
          rw [e_29]
          refine z_iconst hx hb dX12_swimmer_99 ?_
          refine z_iadd hx hb dX12_swimmer_100 ?_
          refine g_put (C := RX12) (T := TX12) (N := 42) (ci := 11) (ty := .int) hx hb hts (fun _ h => (List.mem_cons_of_mem _ (List.mem_append_right _ h))) tyX12 tyX12_ok nmX12 hown hC.1 hG hS 8 (by decide) rfl rfl 6 23 (by decide) (hts (.fieldLink RX12 138 "StraitSwimModel" "swimmers" "I") (List.mem_cons_of_mem _ (List.mem_append_left _ (List.mem_of_getElem? (i := 0) rfl)))) (fun _ h9 => h9) rfl (by decide +kernel) rfl rfl (Nat.le_of_ble_eq_true rfl) rfl (gO_23 ad _ _) dX12_swimmer_101 (fun u30 H locs hu30 hG hS => ?_)
          refine lv_aload_n hx hb dX12_swimmer_104 rfl (lv_at hl 0 rfl) ?_
          refine g_get (C := RX12) (T := TX12) (N := 42) (ci := 11) hx hb hts (fun _ h => (List.mem_cons_of_mem _ (List.mem_append_right _ h))) hown hC.1 hG 8 (by decide) rfl rfl 6 (by decide) (hts (.fieldLink RX12 138 "StraitSwimModel" "swimmers" "I") (List.mem_cons_of_mem _ (List.mem_append_left _ (List.mem_of_getElem? (i := 0) rfl)))) (fun _ h9 => h9) rfl dX12_swimmer_105 ?_
          have e_31 : u30.1 23 = (u.1 23) + 1 := by subst hu30; subst hu28; subst hu26; subst hu24; subst hu22; subst hu20; rfl
          rw [e_31]
          refine z_iconst hx hb dX12_swimmer_108 ?_
          refine z_isub hx hb dX12_swimmer_109 ?_
          exact W.iret (v := zI (((u.1 23) + 1) - 1)) hx hb hr (fun t9 ht9_ hW => ⟨⟨zI (((u.1 23) + 1) - 1), u30, rfl, (by subst hu30; subst hu28; subst hu26; subst hu24; subst hu22; subst hu20; refine ⟨?_, ?_⟩ <;> unfold mSwimmer <;> (repeat (first | rw [if_pos (by omega)] | rw [if_neg (by omega)])) <;> first | done | rfl | (congr 1; omega) | (subst_vars; rfl)), gB.mk' hG hC hS ht9_ hW⟩, hS.F ht9_⟩) hS.2.2 dX12_swimmer_110
        · refine z_bipush hx hb dX12_swimmer_41 (by decide) ?_
          exact W.iret (v := zI ((-2))) hx hb hr (fun t9 ht9_ hW => ⟨⟨zI ((-2)), u, rfl, (by skip; refine ⟨?_, ?_⟩ <;> unfold mSwimmer <;> (repeat (first | rw [if_pos (by omega)] | rw [if_neg (by omega)])) <;> first | done | rfl | (congr 1; omega) | (subst_vars; rfl)), gB.mk' hG hC hS ht9_ hW⟩, hS.F ht9_⟩) hS.2.2 dX12_swimmer_43
      · refine z_iconst hx hb dX12_swimmer_30 ?_
        exact W.iret (v := zI ((-1))) hx hb hr (fun t9 ht9_ hW => ⟨⟨zI ((-1)), u, rfl, (by skip; refine ⟨?_, ?_⟩ <;> unfold mSwimmer <;> (repeat (first | rw [if_pos (by omega)] | rw [if_neg (by omega)])) <;> first | done | rfl | (congr 1; omega) | (subst_vars; rfl)), gB.mk' hG hC hS ht9_ hW⟩, hS.F ht9_⟩) hS.2.2 dX12_swimmer_31
set_option maxHeartbeats 4000000 in
set_option maxRecDepth 100000 in
theorem kX12_feed (l : Launch) (D : va_G) (cy : Nat → ClassId) (ad : Nat → Nat) (jf : Nat → Int64) (A : Nat → Prop) (u : gS) (p1 p2 : Int) (j_p1 : -2147483648 ≤ p1 ∧ p1 < 2147483648) (j_p2 : -2147483648 ≤ p2 ∧ p2 < 2147483648) (i23 : 0 ≤ u.1 23 ∧ u.1 23 ≤ 10) (i37 : ∀ j, j < 10 → 0 ≤ u.2.1 37 j ∧ u.2.1 37 j ≤ 40) : Met l yX12_feed wsX12_feed ({ frames := 2, cells := 0, slots := 0, locals := 43 }) (va_Pc [.ref (ad 8), .int (zI p1), .int (zI p2)] (gB D cy ad jf A u)) (va_Qi (fun (r : Int32) (v : gS) => r = zI (mFeed u p1 p2).1 ∧ v = (mFeed u p1 p2).2) (gB D cy ad jf A) A) 0 0 A := by
  refine Met.ofW (cc := cX12_feed) (maxL := 4) (ret := (some .int)) (by decide) rfl ?_
  intro p e s m args below meth c s₁ B hml hv
  obtain ⟨rfl, hG, hC⟩ := hv
  have hx := B.exec
  have hb := B.bytes
  have hr := B.returns
  have hts := atoms_spec (ws := wsX12_feed) B.pre
  have hown : s.vm.findClass RX12 = some m.cls := findClass_of_methodNamed B.named
  have hlocks := B.notSynchronized
  have hS : va_S A s.heap s.heap [] := va_S.rf
  have hl := lv_entry ([.ref (ad 8), .int (zI p1), .int (zI p2)]) (n := 4) (Nat.le_of_ble_eq_true rfl)
  rw [lg_entry_eq]
  generalize (lg_sl ([.ref (ad 8), .int (zI p1), .int (zI p2)]) ++ List.replicate (4 - (lg_sl ([.ref (ad 8), .int (zI p1), .int (zI p2)])).length) Slot.unset).toArray = ls at hl ⊢
  have hl : lv_has ls 4 [(0, .ref (ad 8)), (1, .int (zI p1)), (2, .int (zI p2))] := hl
  refine lv_aload_n hx hb dX12_feed_0 rfl (lv_at hl 0 rfl) ?_
  refine lv_iload_n hx hb dX12_feed_1 rfl (lv_at hl 1 rfl) ?_
  refine g_calli (va_runV (As := [.int (zI p1)]) (rest := []) ⟨hx, hb, hml, hown, hts⟩ (kX12_isSwimmer l D cy ad jf A u p1 (by omega) i23) (cwV 1 hts gX12_feed_X12_isSwimmer rfl rfl rfl (by decide +kernel) ⟨by decide, by decide⟩) (g_preV (C := RX12) hG hC hS 8 (by decide) rfl rfl) rfl rfl hl.1 rfl (lv_room (Nat.le_of_ble_eq_true rfl)) dX12_feed_2 ⟨Nat.le_of_ble_eq_true rfl, Nat.le_of_ble_eq_true rfl⟩) hS (fun r1 u2 H locs p_3 hG hS => ?_)
  obtain ⟨⟨b4, rfl, q_5⟩, he_⟩ := p_3
  rw [he_] at hG; clear he_
  have hbb4 : 0 ≤ b4 ∧ b4 ≤ 1 := by rcases q_5 with ⟨h, _⟩ | ⟨h, _⟩ <;> omega
  refine z_if_eq (tgt := 18) hx hb dX12_feed_5 (by decide) (by omega) (by omega) (fun c_6 => ?_) (fun c_6 => ?_)
  · refine z_iconst hx hb dX12_feed_18 ?_
    exact W.iret (v := zI ((-1))) hx hb hr (fun t9 ht9_ hW => ⟨⟨zI ((-1)), u, rfl, (by skip; refine ⟨?_, ?_⟩ <;> unfold mFeed <;> (repeat (first | rw [if_pos (by omega)] | rw [if_neg (by omega)])) <;> first | done | rfl | (congr 1; omega) | (subst_vars; rfl)), gB.mk' hG hC hS ht9_ hW⟩, hS.F ht9_⟩) hS.2.2 dX12_feed_19
  · refine lv_iload_n hx hb dX12_feed_8 rfl (lv_at hl 2 rfl) ?_
    refine z_iconst hx hb dX12_feed_9 ?_
    refine z_bipush hx hb dX12_feed_10 (by decide) ?_
    refine g_calli (va_runS (As := [.int (zI p2), .int (zI 0), .int (zI 40)]) (rest := []) ⟨hx, hb, hml, hown, hts⟩ (kX12_in l D cy ad jf A u p2 0 40 (by omega) (by omega) (by omega)) (va_cwS 3 hts gX12_feed_X12_in rfl rfl rfl (by decide +kernel) ⟨by decide, by decide⟩) (g_preS hG hC hS) rfl rfl hl.1 rfl (lv_room (Nat.le_of_ble_eq_true rfl)) dX12_feed_12 ⟨Nat.le_of_ble_eq_true rfl, Nat.le_of_ble_eq_true rfl⟩) hS (fun r7 u8 H locs p_9 hG hS => ?_)
    obtain ⟨⟨b10, rfl, q_11⟩, he_⟩ := p_9
    rw [he_] at hG; clear he_
    have hbb10 : 0 ≤ b10 ∧ b10 ≤ 1 := by rcases q_11 with ⟨h, _⟩ | ⟨h, _⟩ <;> omega
    refine z_if_ne (tgt := 20) hx hb dX12_feed_15 (by decide) (by omega) (by omega) (fun c_12 => ?_) (fun c_12 => ?_)
    · refine lv_aload_n hx hb dX12_feed_20 rfl (lv_at hl 0 rfl) ?_
      refine g_get (C := RX12) (T := TX12) (N := 42) (ci := 11) hx hb hts (fun _ h => (List.mem_cons_of_mem _ (List.mem_append_right _ h))) hown hC.1 hG 8 (by decide) rfl rfl 10 (by decide) (hts (.fieldLink RX12 36 "StraitSwimModel" "feeds" "[I") (List.mem_cons_of_mem _ (List.mem_append_left _ (List.mem_of_getElem? (i := 0) rfl)))) (fun _ h9 => h9) rfl dX12_feed_21 ?_
      refine lv_iload_n hx hb dX12_feed_24 rfl (lv_at hl 1 rfl) ?_
      refine g_iald (n := 10) hx hb hC.1 hG 37 (by decide) rfl (by omega) (by omega) (by decide) dX12_feed_25 ?_
      have q_13 := i37 p1.toNat (by omega)
      refine lv_istore_n (lv' := [(3, .int (zI (u.2.1 37 p1.toNat))), (0, .ref (ad 8)), (1, .int (zI p1)), (2, .int (zI p2))]) hx hb dX12_feed_26 rfl hl (by decide) rfl (fun ls hl => ?_)
      refine lv_aload_n hx hb dX12_feed_27 rfl (lv_at hl 1 rfl) ?_
      refine g_get (C := RX12) (T := TX12) (N := 42) (ci := 11) hx hb hts (fun _ h => (List.mem_cons_of_mem _ (List.mem_append_right _ h))) hown hC.1 hG 8 (by decide) rfl rfl 10 (by decide) (hts (.fieldLink RX12 36 "StraitSwimModel" "feeds" "[I") (List.mem_cons_of_mem _ (List.mem_append_left _ (List.mem_of_getElem? (i := 0) rfl)))) (fun _ h9 => h9) rfl dX12_feed_28 ?_
      refine lv_iload_n hx hb dX12_feed_31 rfl (lv_at hl 2 rfl) ?_
      refine lv_iload_n hx hb dX12_feed_32 rfl (lv_at hl 3 rfl) ?_
      refine g_iast (n := 10) hx hb hC.1 hG hS 37 (by decide) rfl rfl (by omega) (by omega) (by decide) dX12_feed_33 (fun u14 H locs hu14 hG hS => ?_)
      refine lv_iload_n hx hb dX12_feed_34 rfl (lv_at hl 0 rfl) ?_
      exact W.iret (v := zI (u.2.1 37 p1.toNat)) hx hb hr (fun t9 ht9_ hW => ⟨⟨zI (u.2.1 37 p1.toNat), u14, rfl, (by subst hu14; refine ⟨?_, ?_⟩ <;> unfold mFeed <;> (repeat (first | rw [if_pos (by omega)] | rw [if_neg (by omega)])) <;> first | done | rfl | (congr 1; omega) | (subst_vars; rfl)), gB.mk' hG hC hS ht9_ hW⟩, hS.F ht9_⟩) hS.2.2 dX12_feed_35
    · refine z_iconst hx hb dX12_feed_18 ?_
      exact W.iret (v := zI ((-1))) hx hb hr (fun t9 ht9_ hW => ⟨⟨zI ((-1)), u, rfl, (by skip; refine ⟨?_, ?_⟩ <;> unfold mFeed <;> (repeat (first | rw [if_pos (by omega)] | rw [if_neg (by omega)])) <;> first | done | rfl | (congr 1; omega) | (subst_vars; rfl)), gB.mk' hG hC hS ht9_ hW⟩, hS.F ht9_⟩) hS.2.2 dX12_feed_19
set_option maxHeartbeats 4000000 in
set_option maxRecDepth 100000 in
theorem kX12_atLeastOne (l : Launch) (D : va_G) (cy : Nat → ClassId) (ad : Nat → Nat) (jf : Nat → Int64) (A : Nat → Prop) (u : gS) (p1 : Int) (j_p1 : -2147483648 ≤ p1 ∧ p1 < 2147483648) : Met l yX12_atLeastOne wsX12_atLeastOne ({ frames := 0, cells := 0, slots := 0, locals := 0 }) (va_Pc [.int (zI p1)] (gB D cy ad jf A u)) (va_Qi (fun (r : Int32) (v : gS) => r = zI (spAt1 p1) ∧ v = u) (gB D cy ad jf A) A) 0 0 A := by
  refine Met.ofW (cc := cX12_atLeastOne) (maxL := 1) (ret := (some .int)) (by decide) rfl ?_
  intro p e s m args below meth c s₁ B hml hv
  obtain ⟨rfl, hG, hC⟩ := hv
  have hx := B.exec
  have hb := B.bytes
  have hr := B.returns
  have hts := atoms_spec (ws := wsX12_atLeastOne) B.pre
  have hown : s.vm.findClass RX12 = some m.cls := findClass_of_methodNamed B.named
  have hlocks := B.notSynchronized
  have hS : va_S A s.heap s.heap [] := va_S.rf
  have hl := lv_entry ([.int (zI p1)]) (n := 1) (Nat.le_of_ble_eq_true rfl)
  rw [lg_entry_eq]
  generalize (lg_sl ([.int (zI p1)]) ++ List.replicate (1 - (lg_sl ([.int (zI p1)])).length) Slot.unset).toArray = ls at hl ⊢
  have hl : lv_has ls 1 [(0, .int (zI p1))] := hl
  refine lv_iload_n hx hb dX12_atLeastOne_0 rfl (lv_at hl 0 rfl) ?_
  refine z_iconst hx hb dX12_atLeastOne_1 ?_
  refine z_icmp_ge (tgt := 9) hx hb dX12_atLeastOne_2 (by decide) (by omega) (by omega) (by omega) (by omega) (fun c_1 => ?_) (fun c_1 => ?_)
  · refine lv_iload_n hx hb dX12_atLeastOne_9 rfl (lv_at hl 0 rfl) ?_
    exact W.iret (v := zI p1) hx hb hr (fun t9 ht9_ hW => ⟨⟨zI p1, u, rfl, (by refine ⟨?_, rfl⟩; unfold spAt1; (repeat (first | rw [if_pos (by omega)] | rw [if_neg (by omega)])); all_goals (first | rfl | (congr 1; omega) | (subst_vars; rfl))), gB.mk' hG hC hS ht9_ hW⟩, hS.F ht9_⟩) hS.2.2 dX12_atLeastOne_10
  · refine z_iconst hx hb dX12_atLeastOne_5 ?_
    refine lv_goto (tgt := 10) hx hb dX12_atLeastOne_6 (by decide) ?_
    exact W.iret (v := zI 1) hx hb hr (fun t9 ht9_ hW => ⟨⟨zI 1, u, rfl, (by refine ⟨?_, rfl⟩; unfold spAt1; (repeat (first | rw [if_pos (by omega)] | rw [if_neg (by omega)])); all_goals (first | rfl | (congr 1; omega) | (subst_vars; rfl))), gB.mk' hG hC hS ht9_ hW⟩, hS.F ht9_⟩) hS.2.2 dX12_atLeastOne_10
set_option maxHeartbeats 4000000 in
set_option maxRecDepth 100000 in
theorem kX12_isFed (l : Launch) (D : va_G) (cy : Nat → ClassId) (ad : Nat → Nat) (jf : Nat → Int64) (A : Nat → Prop) (u : gS) (p1 p2 : Int) (j_s : 0 ≤ p1 ∧ p1 ≤ 9) (j_t : 0 ≤ p2 ∧ p2 ≤ 1000) (i37 : ∀ j, j < 10 → 0 ≤ u.2.1 37 j ∧ u.2.1 37 j ≤ 40) : Met l yX12_isFed wsX12_isFed ({ frames := 0, cells := 0, slots := 0, locals := 0 }) (va_Pc [.ref (ad 8), .int (zI p1), .int (zI p2)] (gB D cy ad jf A u)) (va_Qi (fun (r : Int32) (v : gS) => (∃ b : Int, r = zI b ∧ (b = 1 ∧ 0 < u.2.1 37 p1.toNat ∧ (p2 + 1) % u.2.1 37 p1.toNat = 0 ∨ b = 0 ∧ ¬ (0 < u.2.1 37 p1.toNat ∧ (p2 + 1) % u.2.1 37 p1.toNat = 0))) ∧ v = u) (gB D cy ad jf A) A) 0 0 A := by
  refine Met.ofW (cc := cX12_isFed) (maxL := 3) (ret := (some .boolean)) (by decide) rfl ?_
  intro p e s m args below meth c s₁ B hml hv
  obtain ⟨rfl, hG, hC⟩ := hv
  have hx := B.exec
  have hb := B.bytes
  have hr := B.returns
  have hts := atoms_spec (ws := wsX12_isFed) B.pre
  have hown : s.vm.findClass RX12 = some m.cls := findClass_of_methodNamed B.named
  have hlocks := B.notSynchronized
  have hS : va_S A s.heap s.heap [] := va_S.rf
  have hl := lv_entry ([.ref (ad 8), .int (zI p1), .int (zI p2)]) (n := 3) (Nat.le_of_ble_eq_true rfl)
  rw [lg_entry_eq]
  generalize (lg_sl ([.ref (ad 8), .int (zI p1), .int (zI p2)]) ++ List.replicate (3 - (lg_sl ([.ref (ad 8), .int (zI p1), .int (zI p2)])).length) Slot.unset).toArray = ls at hl ⊢
  have hl : lv_has ls 3 [(0, .ref (ad 8)), (1, .int (zI p1)), (2, .int (zI p2))] := hl
  refine lv_aload_n hx hb dX12_isFed_0 rfl (lv_at hl 0 rfl) ?_
  refine g_get (C := RX12) (T := TX12) (N := 42) (ci := 11) hx hb hts (fun _ h => (List.mem_cons_of_mem _ (List.mem_append_right _ h))) hown hC.1 hG 8 (by decide) rfl rfl 10 (by decide) (hts (.fieldLink RX12 36 "StraitSwimModel" "feeds" "[I") (List.mem_cons_of_mem _ (List.mem_append_left _ (List.mem_of_getElem? (i := 0) rfl)))) (fun _ h9 => h9) rfl dX12_isFed_1 ?_
  refine lv_iload_n hx hb dX12_isFed_4 rfl (lv_at hl 1 rfl) ?_
  refine g_iald (n := 10) hx hb hC.1 hG 37 (by decide) rfl (by omega) (by omega) (by decide) dX12_isFed_5 ?_
  have q_1 := i37 p1.toNat (by omega)
  refine z_if_le (tgt := 26) hx hb dX12_isFed_6 (by decide) (by omega) (by omega) (fun c_2 => ?_) (fun c_2 => ?_)
  · refine z_iconst hx hb dX12_isFed_26 ?_
    exact W.zret (ty := .boolean) (v := zI 0) hx hb hr (nar_b (by omega)) (fun t9 ht9_ hW => ⟨⟨zI 0, u, rfl, (by exact ⟨⟨0, rfl, by omega⟩, rfl⟩), gB.mk' hG hC hS ht9_ hW⟩, hS.F ht9_⟩) hS.2.2 dX12_isFed_27
  · refine lv_iload_n hx hb dX12_isFed_9 rfl (lv_at hl 2 rfl) ?_
    refine z_iconst hx hb dX12_isFed_10 ?_
    refine z_iadd hx hb dX12_isFed_11 ?_
    refine lv_aload_n hx hb dX12_isFed_12 rfl (lv_at hl 0 rfl) ?_
    refine g_get (C := RX12) (T := TX12) (N := 42) (ci := 11) hx hb hts (fun _ h => (List.mem_cons_of_mem _ (List.mem_append_right _ h))) hown hC.1 hG 8 (by decide) rfl rfl 10 (by decide) (hts (.fieldLink RX12 36 "StraitSwimModel" "feeds" "[I") (List.mem_cons_of_mem _ (List.mem_append_left _ (List.mem_of_getElem? (i := 0) rfl)))) (fun _ h9 => h9) rfl dX12_isFed_13 ?_
    refine lv_iload_n hx hb dX12_isFed_16 rfl (lv_at hl 1 rfl) ?_
    refine g_iald (n := 10) hx hb hC.1 hG 37 (by decide) rfl (by omega) (by omega) (by decide) dX12_isFed_17 ?_
    have q_3 := i37 p1.toNat (by omega)
    have q_4 : 0 ≤ (p2 + 1) % (u.2.1 37 p1.toNat) ∧ (p2 + 1) % (u.2.1 37 p1.toNat) < (u.2.1 37 p1.toNat) := ⟨Int.emod_nonneg _ (by omega), Int.emod_lt_of_pos _ (by omega)⟩
    refine z_irem hx hb dX12_isFed_18 (by omega) (by omega) (by omega) (by omega) ?_
    refine z_if_ne (tgt := 26) hx hb dX12_isFed_19 (by decide) (by omega) (by omega) (fun c_5 => ?_) (fun c_5 => ?_)
    · refine z_iconst hx hb dX12_isFed_26 ?_
      exact W.zret (ty := .boolean) (v := zI 0) hx hb hr (nar_b (by omega)) (fun t9 ht9_ hW => ⟨⟨zI 0, u, rfl, (by exact ⟨⟨0, rfl, by omega⟩, rfl⟩), gB.mk' hG hC hS ht9_ hW⟩, hS.F ht9_⟩) hS.2.2 dX12_isFed_27
    · refine z_iconst hx hb dX12_isFed_22 ?_
      refine lv_goto (tgt := 27) hx hb dX12_isFed_23 (by decide) ?_
      exact W.zret (ty := .boolean) (v := zI 1) hx hb hr (nar_b (by omega)) (fun t9 ht9_ hW => ⟨⟨zI 1, u, rfl, (by exact ⟨⟨1, rfl, by omega⟩, rfl⟩), gB.mk' hG hC hS ht9_ hW⟩, hS.F ht9_⟩) hS.2.2 dX12_isFed_27
set_option maxHeartbeats 4000000 in
set_option maxRecDepth 100000 in
theorem kX12_paceOf (l : Launch) (D : va_G) (cy : Nat → ClassId) (ad : Nat → Nat) (jf : Nat → Int64) (A : Nat → Prop) (u : gS) (p1 p2 : Int) (j_s : 0 ≤ p1 ∧ p1 ≤ 9) (j_t : 0 ≤ p2 ∧ p2 ≤ 1000) (i34 : ∀ j, j < 10 → 0 ≤ u.2.1 34 j ∧ u.2.1 34 j ≤ 3) (i35 : ∀ j, j < 10 → 0 ≤ u.2.1 35 j ∧ u.2.1 35 j ≤ 20) (i37 : ∀ j, j < 10 → 0 ≤ u.2.1 37 j ∧ u.2.1 37 j ≤ 40) : Met l yX12_paceOf wsX12_paceOf ({ frames := 1, cells := 0, slots := 0, locals := 24 }) (va_Pc [.ref (ad 8), .int (zI p1), .int (zI p2)] (gB D cy ad jf A u)) (va_Qi (fun (r : Int32) (v : gS) => r = zI (spPace (u.2.1 34 p1.toNat) (u.2.1 35 p1.toNat) (u.2.1 37 p1.toNat) p2) ∧ v = u) (gB D cy ad jf A) A) 0 0 A := by
  refine Met.ofW (cc := cX12_paceOf) (maxL := 4) (ret := (some .int)) (by decide) rfl ?_
  intro p e s m args below meth c s₁ B hml hv
  obtain ⟨rfl, hG, hC⟩ := hv
  have hx := B.exec
  have hb := B.bytes
  have hr := B.returns
  have hts := atoms_spec (ws := wsX12_paceOf) B.pre
  have hown : s.vm.findClass RX12 = some m.cls := findClass_of_methodNamed B.named
  have hlocks := B.notSynchronized
  have hS : va_S A s.heap s.heap [] := va_S.rf
  have hl := lv_entry ([.ref (ad 8), .int (zI p1), .int (zI p2)]) (n := 4) (Nat.le_of_ble_eq_true rfl)
  rw [lg_entry_eq]
  generalize (lg_sl ([.ref (ad 8), .int (zI p1), .int (zI p2)]) ++ List.replicate (4 - (lg_sl ([.ref (ad 8), .int (zI p1), .int (zI p2)])).length) Slot.unset).toArray = ls at hl ⊢
  have hl : lv_has ls 4 [(0, .ref (ad 8)), (1, .int (zI p1)), (2, .int (zI p2))] := hl
  refine lv_aload_n hx hb dX12_paceOf_0 rfl (lv_at hl 0 rfl) ?_
  refine g_get (C := RX12) (T := TX12) (N := 42) (ci := 11) hx hb hts (fun _ h => (List.mem_cons_of_mem _ (List.mem_append_right _ h))) hown hC.1 hG 8 (by decide) rfl rfl 7 (by decide) (hts (.fieldLink RX12 27 "StraitSwimModel" "kind" "[I") (List.mem_cons_of_mem _ (List.mem_append_left _ (List.mem_of_getElem? (i := 0) rfl)))) (fun _ h9 => h9) rfl dX12_paceOf_1 ?_
  refine lv_iload_n hx hb dX12_paceOf_4 rfl (lv_at hl 1 rfl) ?_
  refine g_iald (n := 10) hx hb hC.1 hG 34 (by decide) rfl (by omega) (by omega) (by decide) dX12_paceOf_5 ?_
  have q_1 := i34 p1.toNat (by omega)
  refine z_iconst hx hb dX12_paceOf_6 ?_
  refine z_icmp_ne (tgt := 27) hx hb dX12_paceOf_7 (by decide) (by omega) (by omega) (by omega) (by omega) (fun c_2 => ?_) (fun c_2 => ?_)
  · refine lv_aload_n hx hb dX12_paceOf_27 rfl (lv_at hl 0 rfl) ?_
    refine g_get (C := RX12) (T := TX12) (N := 42) (ci := 11) hx hb hts (fun _ h => (List.mem_cons_of_mem _ (List.mem_append_right _ h))) hown hC.1 hG 8 (by decide) rfl rfl 8 (by decide) (hts (.fieldLink RX12 30 "StraitSwimModel" "speed" "[I") (List.mem_cons_of_mem _ (List.mem_append_left _ (List.mem_of_getElem? (i := 1) rfl)))) (fun _ h9 => h9) rfl dX12_paceOf_28 ?_
    refine lv_iload_n hx hb dX12_paceOf_31 rfl (lv_at hl 1 rfl) ?_
    refine g_iald (n := 10) hx hb hC.1 hG 35 (by decide) rfl (by omega) (by omega) (by decide) dX12_paceOf_32 ?_
    have q_3 := i35 p1.toNat (by omega)
    refine lv_iload_n hx hb dX12_paceOf_33 rfl (lv_at hl 2 rfl) ?_
    refine lv_aload_n hx hb dX12_paceOf_34 rfl (lv_at hl 0 rfl) ?_
    refine g_get (C := RX12) (T := TX12) (N := 42) (ci := 11) hx hb hts (fun _ h => (List.mem_cons_of_mem _ (List.mem_append_right _ h))) hown hC.1 hG 8 (by decide) rfl rfl 7 (by decide) (hts (.fieldLink RX12 27 "StraitSwimModel" "kind" "[I") (List.mem_cons_of_mem _ (List.mem_append_left _ (List.mem_of_getElem? (i := 0) rfl)))) (fun _ h9 => h9) rfl dX12_paceOf_35 ?_
    refine lv_iload_n hx hb dX12_paceOf_38 rfl (lv_at hl 1 rfl) ?_
    refine g_iald (n := 10) hx hb hC.1 hG 34 (by decide) rfl (by omega) (by omega) (by decide) dX12_paceOf_39 ?_
    have q_4 := i34 p1.toNat (by omega)
    refine z_iconst hx hb dX12_paceOf_40 ?_
    refine z_icmp_ne (tgt := 48) hx hb dX12_paceOf_41 (by decide) (by omega) (by omega) (by omega) (by omega) (fun c_5 => ?_) (fun c_5 => ?_)
    · refine z_bipush hx hb dX12_paceOf_48 (by decide) ?_
      refine z_idiv hx hb dX12_paceOf_50 (by omega) (by omega) (by omega) (by omega) ?_
      refine z_isub hx hb dX12_paceOf_51 ?_
      refine g_calli (va_runS (As := [.int (zI ((u.2.1 35 p1.toNat) - (p2 / 6)))]) (rest := []) ⟨hx, hb, hml, hown, hts⟩ (kX12_atLeastOne l D cy ad jf A u ((u.2.1 35 p1.toNat) - (p2 / 6)) (by omega)) (va_cwS 1 hts gX12_paceOf_X12_atLeastOne rfl rfl rfl (by decide +kernel) ⟨by decide, by decide⟩) (g_preS hG hC hS) rfl rfl hl.1 rfl (lv_room (Nat.le_of_ble_eq_true rfl)) dX12_paceOf_52 ⟨Nat.le_of_ble_eq_true rfl, Nat.le_of_ble_eq_true rfl⟩) hS (fun r6 u7 H locs p_8 hG hS => ?_)
      obtain ⟨rfl, he_⟩ := p_8
      rw [he_] at hG; clear he_
      obtain ⟨z9, hz9⟩ : ∃ z : Int, z = spAt1 ((u.2.1 35 p1.toNat) - (p2 / 6)) := ⟨_, rfl⟩
      rw [← hz9]
      have qz9 : (((u.2.1 35 p1.toNat) - (p2 / 6)) < 1 ∧ z9 = 1) ∨ (1 ≤ ((u.2.1 35 p1.toNat) - (p2 / 6)) ∧ z9 = ((u.2.1 35 p1.toNat) - (p2 / 6))) := by rw [hz9]; unfold spAt1; split <;> omega
      refine lv_istore_n (lv' := [(3, .int (zI z9)), (0, .ref (ad 8)), (1, .int (zI p1)), (2, .int (zI p2))]) hx hb dX12_paceOf_55 rfl hl (by decide) rfl (fun ls hl => ?_)
      refine lv_aload_n hx hb dX12_paceOf_56 rfl (lv_at hl 1 rfl) ?_
      refine lv_iload_n hx hb dX12_paceOf_57 rfl (lv_at hl 2 rfl) ?_
      refine lv_iload_n hx hb dX12_paceOf_58 rfl (lv_at hl 3 rfl) ?_
      refine g_calli (va_runV (As := [.int (zI p1), .int (zI p2)]) (rest := []) ⟨hx, hb, hml, hown, hts⟩ (kX12_isFed l D cy ad jf A u p1 p2 (by omega) (by omega) i37) (cwV 2 hts gX12_paceOf_X12_isFed rfl rfl rfl (by decide +kernel) ⟨by decide, by decide⟩) (g_preV (C := RX12) hG hC hS 8 (by decide) rfl rfl) rfl rfl hl.1 rfl (lv_room (Nat.le_of_ble_eq_true rfl)) dX12_paceOf_59 ⟨Nat.le_of_ble_eq_true rfl, Nat.le_of_ble_eq_true rfl⟩) hS (fun r10 u11 H locs p_12 hG hS => ?_)
      obtain ⟨⟨b13, rfl, q_14⟩, he_⟩ := p_12
      rw [he_] at hG; clear he_
      have hbb13 : 0 ≤ b13 ∧ b13 ≤ 1 := by rcases q_14 with ⟨h, _⟩ | ⟨h, _⟩ <;> omega
      refine z_if_eq (tgt := 71) hx hb dX12_paceOf_62 (by decide) (by omega) (by omega) (fun c_15 => ?_) (fun c_15 => ?_)
      · refine lv_iload_n hx hb dX12_paceOf_71 rfl (lv_at hl 0 rfl) ?_
        exact W.iret (v := zI z9) hx hb hr (fun t9 ht9_ hW => ⟨⟨zI z9, u, rfl, (by refine ⟨?_, rfl⟩; unfold spPace spPc; (repeat (first | rw [if_pos (by omega)] | rw [if_neg (by omega)])); all_goals (first | rfl | (congr 1; omega) | (subst_vars; rfl))), gB.mk' hG hC hS ht9_ hW⟩, hS.F ht9_⟩) hS.2.2 dX12_paceOf_72
      · refine lv_iload_n hx hb dX12_paceOf_65 rfl (lv_at hl 0 rfl) ?_
        refine z_iconst hx hb dX12_paceOf_66 ?_
        refine z_idiv hx hb dX12_paceOf_67 (by omega) (by omega) (by omega) (by omega) ?_
        refine lv_goto (tgt := 72) hx hb dX12_paceOf_68 (by decide) ?_
        exact W.iret (v := zI (z9 / 2)) hx hb hr (fun t9 ht9_ hW => ⟨⟨zI (z9 / 2), u, rfl, (by refine ⟨?_, rfl⟩; unfold spPace spPc; (repeat (first | rw [if_pos (by omega)] | rw [if_neg (by omega)])); all_goals (first | rfl | (congr 1; omega) | (subst_vars; rfl))), gB.mk' hG hC hS ht9_ hW⟩, hS.F ht9_⟩) hS.2.2 dX12_paceOf_72
    · refine z_iconst hx hb dX12_paceOf_44 ?_
      refine lv_goto (tgt := 50) hx hb dX12_paceOf_45 (by decide) ?_
      refine z_idiv hx hb dX12_paceOf_50 (by omega) (by omega) (by omega) (by omega) ?_
      refine z_isub hx hb dX12_paceOf_51 ?_
      refine g_calli (va_runS (As := [.int (zI ((u.2.1 35 p1.toNat) - (p2 / 4)))]) (rest := []) ⟨hx, hb, hml, hown, hts⟩ (kX12_atLeastOne l D cy ad jf A u ((u.2.1 35 p1.toNat) - (p2 / 4)) (by omega)) (va_cwS 1 hts gX12_paceOf_X12_atLeastOne rfl rfl rfl (by decide +kernel) ⟨by decide, by decide⟩) (g_preS hG hC hS) rfl rfl hl.1 rfl (lv_room (Nat.le_of_ble_eq_true rfl)) dX12_paceOf_52 ⟨Nat.le_of_ble_eq_true rfl, Nat.le_of_ble_eq_true rfl⟩) hS (fun r16 u17 H locs p_18 hG hS => ?_)
      obtain ⟨rfl, he_⟩ := p_18
      rw [he_] at hG; clear he_
      obtain ⟨z19, hz19⟩ : ∃ z : Int, z = spAt1 ((u.2.1 35 p1.toNat) - (p2 / 4)) := ⟨_, rfl⟩
      rw [← hz19]
      have qz19 : (((u.2.1 35 p1.toNat) - (p2 / 4)) < 1 ∧ z19 = 1) ∨ (1 ≤ ((u.2.1 35 p1.toNat) - (p2 / 4)) ∧ z19 = ((u.2.1 35 p1.toNat) - (p2 / 4))) := by rw [hz19]; unfold spAt1; split <;> omega
      refine lv_istore_n (lv' := [(3, .int (zI z19)), (0, .ref (ad 8)), (1, .int (zI p1)), (2, .int (zI p2))]) hx hb dX12_paceOf_55 rfl hl (by decide) rfl (fun ls hl => ?_)
      refine lv_aload_n hx hb dX12_paceOf_56 rfl (lv_at hl 1 rfl) ?_
      refine lv_iload_n hx hb dX12_paceOf_57 rfl (lv_at hl 2 rfl) ?_
      refine lv_iload_n hx hb dX12_paceOf_58 rfl (lv_at hl 3 rfl) ?_
      refine g_calli (va_runV (As := [.int (zI p1), .int (zI p2)]) (rest := []) ⟨hx, hb, hml, hown, hts⟩ (kX12_isFed l D cy ad jf A u p1 p2 (by omega) (by omega) i37) (cwV 2 hts gX12_paceOf_X12_isFed rfl rfl rfl (by decide +kernel) ⟨by decide, by decide⟩) (g_preV (C := RX12) hG hC hS 8 (by decide) rfl rfl) rfl rfl hl.1 rfl (lv_room (Nat.le_of_ble_eq_true rfl)) dX12_paceOf_59 ⟨Nat.le_of_ble_eq_true rfl, Nat.le_of_ble_eq_true rfl⟩) hS (fun r20 u21 H locs p_22 hG hS => ?_)
      obtain ⟨⟨b23, rfl, q_24⟩, he_⟩ := p_22
      rw [he_] at hG; clear he_
      have hbb23 : 0 ≤ b23 ∧ b23 ≤ 1 := by rcases q_24 with ⟨h, _⟩ | ⟨h, _⟩ <;> omega
      refine z_if_eq (tgt := 71) hx hb dX12_paceOf_62 (by decide) (by omega) (by omega) (fun c_25 => ?_) (fun c_25 => ?_)
      · refine lv_iload_n hx hb dX12_paceOf_71 rfl (lv_at hl 0 rfl) ?_
        exact W.iret (v := zI z19) hx hb hr (fun t9 ht9_ hW => ⟨⟨zI z19, u, rfl, (by refine ⟨?_, rfl⟩; unfold spPace spPc; (repeat (first | rw [if_pos (by omega)] | rw [if_neg (by omega)])); all_goals (first | rfl | (congr 1; omega) | (subst_vars; rfl))), gB.mk' hG hC hS ht9_ hW⟩, hS.F ht9_⟩) hS.2.2 dX12_paceOf_72
      · refine lv_iload_n hx hb dX12_paceOf_65 rfl (lv_at hl 0 rfl) ?_
        refine z_iconst hx hb dX12_paceOf_66 ?_
        refine z_idiv hx hb dX12_paceOf_67 (by omega) (by omega) (by omega) (by omega) ?_
        refine lv_goto (tgt := 72) hx hb dX12_paceOf_68 (by decide) ?_
        exact W.iret (v := zI (z19 / 2)) hx hb hr (fun t9 ht9_ hW => ⟨⟨zI (z19 / 2), u, rfl, (by refine ⟨?_, rfl⟩; unfold spPace spPc; (repeat (first | rw [if_pos (by omega)] | rw [if_neg (by omega)])); all_goals (first | rfl | (congr 1; omega) | (subst_vars; rfl))), gB.mk' hG hC hS ht9_ hW⟩, hS.F ht9_⟩) hS.2.2 dX12_paceOf_72
  · refine lv_iload_n hx hb dX12_paceOf_10 rfl (lv_at hl 2 rfl) ?_
    refine z_bipush hx hb dX12_paceOf_11 (by decide) ?_
    refine z_icmp_ge (tgt := 27) hx hb dX12_paceOf_13 (by decide) (by omega) (by omega) (by omega) (by omega) (fun c_26 => ?_) (fun c_26 => ?_)
    · refine lv_aload_n hx hb dX12_paceOf_27 rfl (lv_at hl 0 rfl) ?_
      refine g_get (C := RX12) (T := TX12) (N := 42) (ci := 11) hx hb hts (fun _ h => (List.mem_cons_of_mem _ (List.mem_append_right _ h))) hown hC.1 hG 8 (by decide) rfl rfl 8 (by decide) (hts (.fieldLink RX12 30 "StraitSwimModel" "speed" "[I") (List.mem_cons_of_mem _ (List.mem_append_left _ (List.mem_of_getElem? (i := 1) rfl)))) (fun _ h9 => h9) rfl dX12_paceOf_28 ?_
      refine lv_iload_n hx hb dX12_paceOf_31 rfl (lv_at hl 1 rfl) ?_
      refine g_iald (n := 10) hx hb hC.1 hG 35 (by decide) rfl (by omega) (by omega) (by decide) dX12_paceOf_32 ?_
      have q_27 := i35 p1.toNat (by omega)
      refine lv_iload_n hx hb dX12_paceOf_33 rfl (lv_at hl 2 rfl) ?_
      refine lv_aload_n hx hb dX12_paceOf_34 rfl (lv_at hl 0 rfl) ?_
      refine g_get (C := RX12) (T := TX12) (N := 42) (ci := 11) hx hb hts (fun _ h => (List.mem_cons_of_mem _ (List.mem_append_right _ h))) hown hC.1 hG 8 (by decide) rfl rfl 7 (by decide) (hts (.fieldLink RX12 27 "StraitSwimModel" "kind" "[I") (List.mem_cons_of_mem _ (List.mem_append_left _ (List.mem_of_getElem? (i := 0) rfl)))) (fun _ h9 => h9) rfl dX12_paceOf_35 ?_
      refine lv_iload_n hx hb dX12_paceOf_38 rfl (lv_at hl 1 rfl) ?_
      refine g_iald (n := 10) hx hb hC.1 hG 34 (by decide) rfl (by omega) (by omega) (by decide) dX12_paceOf_39 ?_
      have q_28 := i34 p1.toNat (by omega)
      refine z_iconst hx hb dX12_paceOf_40 ?_
      refine z_icmp_ne (tgt := 48) hx hb dX12_paceOf_41 (by decide) (by omega) (by omega) (by omega) (by omega) (fun c_29 => ?_) (fun c_29 => ?_)
      · refine z_bipush hx hb dX12_paceOf_48 (by decide) ?_
        refine z_idiv hx hb dX12_paceOf_50 (by omega) (by omega) (by omega) (by omega) ?_
        refine z_isub hx hb dX12_paceOf_51 ?_
        refine g_calli (va_runS (As := [.int (zI ((u.2.1 35 p1.toNat) - (p2 / 6)))]) (rest := []) ⟨hx, hb, hml, hown, hts⟩ (kX12_atLeastOne l D cy ad jf A u ((u.2.1 35 p1.toNat) - (p2 / 6)) (by omega)) (va_cwS 1 hts gX12_paceOf_X12_atLeastOne rfl rfl rfl (by decide +kernel) ⟨by decide, by decide⟩) (g_preS hG hC hS) rfl rfl hl.1 rfl (lv_room (Nat.le_of_ble_eq_true rfl)) dX12_paceOf_52 ⟨Nat.le_of_ble_eq_true rfl, Nat.le_of_ble_eq_true rfl⟩) hS (fun r30 u31 H locs p_32 hG hS => ?_)
        obtain ⟨rfl, he_⟩ := p_32
        rw [he_] at hG; clear he_
        obtain ⟨z33, hz33⟩ : ∃ z : Int, z = spAt1 ((u.2.1 35 p1.toNat) - (p2 / 6)) := ⟨_, rfl⟩
        rw [← hz33]
        have qz33 : (((u.2.1 35 p1.toNat) - (p2 / 6)) < 1 ∧ z33 = 1) ∨ (1 ≤ ((u.2.1 35 p1.toNat) - (p2 / 6)) ∧ z33 = ((u.2.1 35 p1.toNat) - (p2 / 6))) := by rw [hz33]; unfold spAt1; split <;> omega
        refine lv_istore_n (lv' := [(3, .int (zI z33)), (0, .ref (ad 8)), (1, .int (zI p1)), (2, .int (zI p2))]) hx hb dX12_paceOf_55 rfl hl (by decide) rfl (fun ls hl => ?_)
        refine lv_aload_n hx hb dX12_paceOf_56 rfl (lv_at hl 1 rfl) ?_
        refine lv_iload_n hx hb dX12_paceOf_57 rfl (lv_at hl 2 rfl) ?_
        refine lv_iload_n hx hb dX12_paceOf_58 rfl (lv_at hl 3 rfl) ?_
        refine g_calli (va_runV (As := [.int (zI p1), .int (zI p2)]) (rest := []) ⟨hx, hb, hml, hown, hts⟩ (kX12_isFed l D cy ad jf A u p1 p2 (by omega) (by omega) i37) (cwV 2 hts gX12_paceOf_X12_isFed rfl rfl rfl (by decide +kernel) ⟨by decide, by decide⟩) (g_preV (C := RX12) hG hC hS 8 (by decide) rfl rfl) rfl rfl hl.1 rfl (lv_room (Nat.le_of_ble_eq_true rfl)) dX12_paceOf_59 ⟨Nat.le_of_ble_eq_true rfl, Nat.le_of_ble_eq_true rfl⟩) hS (fun r34 u35 H locs p_36 hG hS => ?_)
        obtain ⟨⟨b37, rfl, q_38⟩, he_⟩ := p_36
        rw [he_] at hG; clear he_
        have hbb37 : 0 ≤ b37 ∧ b37 ≤ 1 := by rcases q_38 with ⟨h, _⟩ | ⟨h, _⟩ <;> omega
        refine z_if_eq (tgt := 71) hx hb dX12_paceOf_62 (by decide) (by omega) (by omega) (fun c_39 => ?_) (fun c_39 => ?_)
        · refine lv_iload_n hx hb dX12_paceOf_71 rfl (lv_at hl 0 rfl) ?_
          exact W.iret (v := zI z33) hx hb hr (fun t9 ht9_ hW => ⟨⟨zI z33, u, rfl, (by refine ⟨?_, rfl⟩; unfold spPace spPc; (repeat (first | rw [if_pos (by omega)] | rw [if_neg (by omega)])); all_goals (first | rfl | (congr 1; omega) | (subst_vars; rfl))), gB.mk' hG hC hS ht9_ hW⟩, hS.F ht9_⟩) hS.2.2 dX12_paceOf_72
        · refine lv_iload_n hx hb dX12_paceOf_65 rfl (lv_at hl 0 rfl) ?_
          refine z_iconst hx hb dX12_paceOf_66 ?_
          refine z_idiv hx hb dX12_paceOf_67 (by omega) (by omega) (by omega) (by omega) ?_
          refine lv_goto (tgt := 72) hx hb dX12_paceOf_68 (by decide) ?_
          exact W.iret (v := zI (z33 / 2)) hx hb hr (fun t9 ht9_ hW => ⟨⟨zI (z33 / 2), u, rfl, (by refine ⟨?_, rfl⟩; unfold spPace spPc; (repeat (first | rw [if_pos (by omega)] | rw [if_neg (by omega)])); all_goals (first | rfl | (congr 1; omega) | (subst_vars; rfl))), gB.mk' hG hC hS ht9_ hW⟩, hS.F ht9_⟩) hS.2.2 dX12_paceOf_72
      · refine z_iconst hx hb dX12_paceOf_44 ?_
        refine lv_goto (tgt := 50) hx hb dX12_paceOf_45 (by decide) ?_
        refine z_idiv hx hb dX12_paceOf_50 (by omega) (by omega) (by omega) (by omega) ?_
        refine z_isub hx hb dX12_paceOf_51 ?_
        refine g_calli (va_runS (As := [.int (zI ((u.2.1 35 p1.toNat) - (p2 / 4)))]) (rest := []) ⟨hx, hb, hml, hown, hts⟩ (kX12_atLeastOne l D cy ad jf A u ((u.2.1 35 p1.toNat) - (p2 / 4)) (by omega)) (va_cwS 1 hts gX12_paceOf_X12_atLeastOne rfl rfl rfl (by decide +kernel) ⟨by decide, by decide⟩) (g_preS hG hC hS) rfl rfl hl.1 rfl (lv_room (Nat.le_of_ble_eq_true rfl)) dX12_paceOf_52 ⟨Nat.le_of_ble_eq_true rfl, Nat.le_of_ble_eq_true rfl⟩) hS (fun r40 u41 H locs p_42 hG hS => ?_)
        obtain ⟨rfl, he_⟩ := p_42
        rw [he_] at hG; clear he_
        obtain ⟨z43, hz43⟩ : ∃ z : Int, z = spAt1 ((u.2.1 35 p1.toNat) - (p2 / 4)) := ⟨_, rfl⟩
        rw [← hz43]
        have qz43 : (((u.2.1 35 p1.toNat) - (p2 / 4)) < 1 ∧ z43 = 1) ∨ (1 ≤ ((u.2.1 35 p1.toNat) - (p2 / 4)) ∧ z43 = ((u.2.1 35 p1.toNat) - (p2 / 4))) := by rw [hz43]; unfold spAt1; split <;> omega
        refine lv_istore_n (lv' := [(3, .int (zI z43)), (0, .ref (ad 8)), (1, .int (zI p1)), (2, .int (zI p2))]) hx hb dX12_paceOf_55 rfl hl (by decide) rfl (fun ls hl => ?_)
        refine lv_aload_n hx hb dX12_paceOf_56 rfl (lv_at hl 1 rfl) ?_
        refine lv_iload_n hx hb dX12_paceOf_57 rfl (lv_at hl 2 rfl) ?_
        refine lv_iload_n hx hb dX12_paceOf_58 rfl (lv_at hl 3 rfl) ?_
        refine g_calli (va_runV (As := [.int (zI p1), .int (zI p2)]) (rest := []) ⟨hx, hb, hml, hown, hts⟩ (kX12_isFed l D cy ad jf A u p1 p2 (by omega) (by omega) i37) (cwV 2 hts gX12_paceOf_X12_isFed rfl rfl rfl (by decide +kernel) ⟨by decide, by decide⟩) (g_preV (C := RX12) hG hC hS 8 (by decide) rfl rfl) rfl rfl hl.1 rfl (lv_room (Nat.le_of_ble_eq_true rfl)) dX12_paceOf_59 ⟨Nat.le_of_ble_eq_true rfl, Nat.le_of_ble_eq_true rfl⟩) hS (fun r44 u45 H locs p_46 hG hS => ?_)
        obtain ⟨⟨b47, rfl, q_48⟩, he_⟩ := p_46
        rw [he_] at hG; clear he_
        have hbb47 : 0 ≤ b47 ∧ b47 ≤ 1 := by rcases q_48 with ⟨h, _⟩ | ⟨h, _⟩ <;> omega
        refine z_if_eq (tgt := 71) hx hb dX12_paceOf_62 (by decide) (by omega) (by omega) (fun c_49 => ?_) (fun c_49 => ?_)
        · refine lv_iload_n hx hb dX12_paceOf_71 rfl (lv_at hl 0 rfl) ?_
          exact W.iret (v := zI z43) hx hb hr (fun t9 ht9_ hW => ⟨⟨zI z43, u, rfl, (by refine ⟨?_, rfl⟩; unfold spPace spPc; (repeat (first | rw [if_pos (by omega)] | rw [if_neg (by omega)])); all_goals (first | rfl | (congr 1; omega) | (subst_vars; rfl))), gB.mk' hG hC hS ht9_ hW⟩, hS.F ht9_⟩) hS.2.2 dX12_paceOf_72
        · refine lv_iload_n hx hb dX12_paceOf_65 rfl (lv_at hl 0 rfl) ?_
          refine z_iconst hx hb dX12_paceOf_66 ?_
          refine z_idiv hx hb dX12_paceOf_67 (by omega) (by omega) (by omega) (by omega) ?_
          refine lv_goto (tgt := 72) hx hb dX12_paceOf_68 (by decide) ?_
          exact W.iret (v := zI (z43 / 2)) hx hb hr (fun t9 ht9_ hW => ⟨⟨zI (z43 / 2), u, rfl, (by refine ⟨?_, rfl⟩; unfold spPace spPc; (repeat (first | rw [if_pos (by omega)] | rw [if_neg (by omega)])); all_goals (first | rfl | (congr 1; omega) | (subst_vars; rfl))), gB.mk' hG hC hS ht9_ hW⟩, hS.F ht9_⟩) hS.2.2 dX12_paceOf_72
    · refine lv_aload_n hx hb dX12_paceOf_16 rfl (lv_at hl 0 rfl) ?_
      refine g_get (C := RX12) (T := TX12) (N := 42) (ci := 11) hx hb hts (fun _ h => (List.mem_cons_of_mem _ (List.mem_append_right _ h))) hown hC.1 hG 8 (by decide) rfl rfl 8 (by decide) (hts (.fieldLink RX12 30 "StraitSwimModel" "speed" "[I") (List.mem_cons_of_mem _ (List.mem_append_left _ (List.mem_of_getElem? (i := 1) rfl)))) (fun _ h9 => h9) rfl dX12_paceOf_17 ?_
      refine lv_iload_n hx hb dX12_paceOf_20 rfl (lv_at hl 1 rfl) ?_
      refine g_iald (n := 10) hx hb hC.1 hG 35 (by decide) rfl (by omega) (by omega) (by decide) dX12_paceOf_21 ?_
      have q_50 := i35 p1.toNat (by omega)
      refine z_iconst hx hb dX12_paceOf_22 ?_
      refine z_iadd hx hb dX12_paceOf_23 ?_
      refine lv_goto (tgt := 55) hx hb dX12_paceOf_24 (by decide) ?_
      refine lv_istore_n (lv' := [(3, .int (zI ((u.2.1 35 p1.toNat) + 4))), (0, .ref (ad 8)), (1, .int (zI p1)), (2, .int (zI p2))]) hx hb dX12_paceOf_55 rfl hl (by decide) rfl (fun ls hl => ?_)
      refine lv_aload_n hx hb dX12_paceOf_56 rfl (lv_at hl 1 rfl) ?_
      refine lv_iload_n hx hb dX12_paceOf_57 rfl (lv_at hl 2 rfl) ?_
      refine lv_iload_n hx hb dX12_paceOf_58 rfl (lv_at hl 3 rfl) ?_
      refine g_calli (va_runV (As := [.int (zI p1), .int (zI p2)]) (rest := []) ⟨hx, hb, hml, hown, hts⟩ (kX12_isFed l D cy ad jf A u p1 p2 (by omega) (by omega) i37) (cwV 2 hts gX12_paceOf_X12_isFed rfl rfl rfl (by decide +kernel) ⟨by decide, by decide⟩) (g_preV (C := RX12) hG hC hS 8 (by decide) rfl rfl) rfl rfl hl.1 rfl (lv_room (Nat.le_of_ble_eq_true rfl)) dX12_paceOf_59 ⟨Nat.le_of_ble_eq_true rfl, Nat.le_of_ble_eq_true rfl⟩) hS (fun r51 u52 H locs p_53 hG hS => ?_)
      obtain ⟨⟨b54, rfl, q_55⟩, he_⟩ := p_53
      rw [he_] at hG; clear he_
      have hbb54 : 0 ≤ b54 ∧ b54 ≤ 1 := by rcases q_55 with ⟨h, _⟩ | ⟨h, _⟩ <;> omega
      refine z_if_eq (tgt := 71) hx hb dX12_paceOf_62 (by decide) (by omega) (by omega) (fun c_56 => ?_) (fun c_56 => ?_)
      · refine lv_iload_n hx hb dX12_paceOf_71 rfl (lv_at hl 0 rfl) ?_
        exact W.iret (v := zI ((u.2.1 35 p1.toNat) + 4)) hx hb hr (fun t9 ht9_ hW => ⟨⟨zI ((u.2.1 35 p1.toNat) + 4), u, rfl, (by refine ⟨?_, rfl⟩; unfold spPace spPc; (repeat (first | rw [if_pos (by omega)] | rw [if_neg (by omega)])); all_goals (first | rfl | (congr 1; omega) | (subst_vars; rfl))), gB.mk' hG hC hS ht9_ hW⟩, hS.F ht9_⟩) hS.2.2 dX12_paceOf_72
      · refine lv_iload_n hx hb dX12_paceOf_65 rfl (lv_at hl 0 rfl) ?_
        refine z_iconst hx hb dX12_paceOf_66 ?_
        refine z_idiv hx hb dX12_paceOf_67 (by omega) (by omega) (by omega) (by omega) ?_
        refine lv_goto (tgt := 72) hx hb dX12_paceOf_68 (by decide) ?_
        exact W.iret (v := zI (((u.2.1 35 p1.toNat) + 4) / 2)) hx hb hr (fun t9 ht9_ hW => ⟨⟨zI (((u.2.1 35 p1.toNat) + 4) / 2), u, rfl, (by refine ⟨?_, rfl⟩; unfold spPace spPc; (repeat (first | rw [if_pos (by omega)] | rw [if_neg (by omega)])); all_goals (first | rfl | (congr 1; omega) | (subst_vars; rfl))), gB.mk' hG hC hS ht9_ hW⟩, hS.F ht9_⟩) hS.2.2 dX12_paceOf_72
set_option maxHeartbeats 4000000 in
set_option maxRecDepth 100000 in
theorem kX12_coldOf (l : Launch) (D : va_G) (cy : Nat → ClassId) (ad : Nat → Nat) (jf : Nat → Int64) (A : Nat → Prop) (u : gS) (p1 p2 : Int) (j_s : 0 ≤ p1 ∧ p1 ≤ 9) (j_t : 0 ≤ p2 ∧ p2 ≤ 1000) (i21 : 0 ≤ u.1 21 ∧ u.1 21 ≤ 20) (i34 : ∀ j, j < 10 → 0 ≤ u.2.1 34 j ∧ u.2.1 34 j ≤ 3) : Met l yX12_coldOf wsX12_coldOf ({ frames := 1, cells := 0, slots := 0, locals := 22 }) (va_Pc [.ref (ad 8), .int (zI p1), .int (zI p2)] (gB D cy ad jf A u)) (va_Qi (fun (r : Int32) (v : gS) => r = zI (spCold (u.2.1 34 p1.toNat) (u.1 21) p2) ∧ v = u) (gB D cy ad jf A) A) 0 0 A := by
  refine Met.ofW (cc := cX12_coldOf) (maxL := 4) (ret := (some .int)) (by decide) rfl ?_
  intro p e s m args below meth c s₁ B hml hv
  obtain ⟨rfl, hG, hC⟩ := hv
  have hx := B.exec
  have hb := B.bytes
  have hr := B.returns
  have hts := atoms_spec (ws := wsX12_coldOf) B.pre
  have hown : s.vm.findClass RX12 = some m.cls := findClass_of_methodNamed B.named
  have hlocks := B.notSynchronized
  have hS : va_S A s.heap s.heap [] := va_S.rf
  have hl := lv_entry ([.ref (ad 8), .int (zI p1), .int (zI p2)]) (n := 4) (Nat.le_of_ble_eq_true rfl)
  rw [lg_entry_eq]
  generalize (lg_sl ([.ref (ad 8), .int (zI p1), .int (zI p2)]) ++ List.replicate (4 - (lg_sl ([.ref (ad 8), .int (zI p1), .int (zI p2)])).length) Slot.unset).toArray = ls at hl ⊢
  have hl : lv_has ls 4 [(0, .ref (ad 8)), (1, .int (zI p1)), (2, .int (zI p2))] := hl
  refine lv_aload_n hx hb dX12_coldOf_0 rfl (lv_at hl 0 rfl) ?_
  refine g_get (C := RX12) (T := TX12) (N := 42) (ci := 11) hx hb hts (fun _ h => (List.mem_cons_of_mem _ (List.mem_append_right _ h))) hown hC.1 hG 8 (by decide) rfl rfl 4 (by decide) (hts (.fieldLink RX12 20 "StraitSwimModel" "chill" "I") (List.mem_cons_of_mem _ (List.mem_append_left _ (List.mem_of_getElem? (i := 0) rfl)))) (fun _ h9 => h9) rfl dX12_coldOf_1 ?_
  refine lv_iload_n hx hb dX12_coldOf_4 rfl (lv_at hl 2 rfl) ?_
  refine z_bipush hx hb dX12_coldOf_5 (by decide) ?_
  refine z_idiv hx hb dX12_coldOf_7 (by omega) (by omega) (by omega) (by omega) ?_
  refine z_iadd hx hb dX12_coldOf_8 ?_
  refine lv_istore_n (lv' := [(3, .int (zI ((u.1 21) + (p2 / 8)))), (0, .ref (ad 8)), (1, .int (zI p1)), (2, .int (zI p2))]) hx hb dX12_coldOf_9 rfl hl (by decide) rfl (fun ls hl => ?_)
  refine lv_aload_n hx hb dX12_coldOf_10 rfl (lv_at hl 1 rfl) ?_
  refine g_get (C := RX12) (T := TX12) (N := 42) (ci := 11) hx hb hts (fun _ h => (List.mem_cons_of_mem _ (List.mem_append_right _ h))) hown hC.1 hG 8 (by decide) rfl rfl 7 (by decide) (hts (.fieldLink RX12 27 "StraitSwimModel" "kind" "[I") (List.mem_cons_of_mem _ (List.mem_append_left _ (List.mem_of_getElem? (i := 1) rfl)))) (fun _ h9 => h9) rfl dX12_coldOf_11 ?_
  refine lv_iload_n hx hb dX12_coldOf_14 rfl (lv_at hl 2 rfl) ?_
  refine g_iald (n := 10) hx hb hC.1 hG 34 (by decide) rfl (by omega) (by omega) (by decide) dX12_coldOf_15 ?_
  have q_1 := i34 p1.toNat (by omega)
  refine z_if_eq (tgt := 29) hx hb dX12_coldOf_16 (by decide) (by omega) (by omega) (fun c_2 => ?_) (fun c_2 => ?_)
  · refine lv_iload_n hx hb dX12_coldOf_29 rfl (lv_at hl 0 rfl) ?_
    exact W.iret (v := zI ((u.1 21) + (p2 / 8))) hx hb hr (fun t9 ht9_ hW => ⟨⟨zI ((u.1 21) + (p2 / 8)), u, rfl, (by refine ⟨?_, rfl⟩; unfold spCold; (repeat (first | rw [if_pos (by omega)] | rw [if_neg (by omega)])); all_goals (first | rfl | (congr 1; omega) | (subst_vars; rfl))), gB.mk' hG hC hS ht9_ hW⟩, hS.F ht9_⟩) hS.2.2 dX12_coldOf_30
  · refine lv_aload_n hx hb dX12_coldOf_19 rfl (lv_at hl 1 rfl) ?_
    refine g_get (C := RX12) (T := TX12) (N := 42) (ci := 11) hx hb hts (fun _ h => (List.mem_cons_of_mem _ (List.mem_append_right _ h))) hown hC.1 hG 8 (by decide) rfl rfl 7 (by decide) (hts (.fieldLink RX12 27 "StraitSwimModel" "kind" "[I") (List.mem_cons_of_mem _ (List.mem_append_left _ (List.mem_of_getElem? (i := 1) rfl)))) (fun _ h9 => h9) rfl dX12_coldOf_20 ?_
    refine lv_iload_n hx hb dX12_coldOf_23 rfl (lv_at hl 2 rfl) ?_
    refine g_iald (n := 10) hx hb hC.1 hG 34 (by decide) rfl (by omega) (by omega) (by decide) dX12_coldOf_24 ?_
    have q_3 := i34 p1.toNat (by omega)
    refine z_iconst hx hb dX12_coldOf_25 ?_
    refine z_icmp_ne (tgt := 31) hx hb dX12_coldOf_26 (by decide) (by omega) (by omega) (by omega) (by omega) (fun c_4 => ?_) (fun c_4 => ?_)
    · refine lv_iload_n hx hb dX12_coldOf_31 rfl (lv_at hl 0 rfl) ?_
      refine z_iconst hx hb dX12_coldOf_32 ?_
      refine z_isub hx hb dX12_coldOf_33 ?_
      refine g_calli (va_runS (As := [.int (zI (((u.1 21) + (p2 / 8)) - 2))]) (rest := []) ⟨hx, hb, hml, hown, hts⟩ (kX12_atLeastOne l D cy ad jf A u (((u.1 21) + (p2 / 8)) - 2) (by omega)) (va_cwS 1 hts gX12_coldOf_X12_atLeastOne rfl rfl rfl (by decide +kernel) ⟨by decide, by decide⟩) (g_preS hG hC hS) rfl rfl hl.1 rfl (lv_room (Nat.le_of_ble_eq_true rfl)) dX12_coldOf_34 ⟨Nat.le_of_ble_eq_true rfl, Nat.le_of_ble_eq_true rfl⟩) hS (fun r5 u6 H locs p_7 hG hS => ?_)
      obtain ⟨rfl, he_⟩ := p_7
      rw [he_] at hG; clear he_
      obtain ⟨z8, hz8⟩ : ∃ z : Int, z = spAt1 (((u.1 21) + (p2 / 8)) - 2) := ⟨_, rfl⟩
      rw [← hz8]
      have qz8 : ((((u.1 21) + (p2 / 8)) - 2) < 1 ∧ z8 = 1) ∨ (1 ≤ (((u.1 21) + (p2 / 8)) - 2) ∧ z8 = (((u.1 21) + (p2 / 8)) - 2)) := by rw [hz8]; unfold spAt1; split <;> omega
      refine lv_istore_n (lv' := [(3, .int (zI z8)), (0, .ref (ad 8)), (1, .int (zI p1)), (2, .int (zI p2))]) hx hb dX12_coldOf_37 rfl hl (by decide) rfl (fun ls hl => ?_)
      refine lv_aload_n hx hb dX12_coldOf_38 rfl (lv_at hl 1 rfl) ?_
      refine g_get (C := RX12) (T := TX12) (N := 42) (ci := 11) hx hb hts (fun _ h => (List.mem_cons_of_mem _ (List.mem_append_right _ h))) hown hC.1 hG 8 (by decide) rfl rfl 7 (by decide) (hts (.fieldLink RX12 27 "StraitSwimModel" "kind" "[I") (List.mem_cons_of_mem _ (List.mem_append_left _ (List.mem_of_getElem? (i := 1) rfl)))) (fun _ h9 => h9) rfl dX12_coldOf_39 ?_
      refine lv_iload_n hx hb dX12_coldOf_42 rfl (lv_at hl 2 rfl) ?_
      refine g_iald (n := 10) hx hb hC.1 hG 34 (by decide) rfl (by omega) (by omega) (by decide) dX12_coldOf_43 ?_
      have q_9 := i34 p1.toNat (by omega)
      refine z_iconst hx hb dX12_coldOf_44 ?_
      refine z_icmp_ne (tgt := 57) hx hb dX12_coldOf_45 (by decide) (by omega) (by omega) (by omega) (by omega) (fun c_10 => ?_) (fun c_10 => ?_)
      · refine lv_iload_n hx hb dX12_coldOf_57 rfl (lv_at hl 0 rfl) ?_
        exact W.iret (v := zI z8) hx hb hr (fun t9 ht9_ hW => ⟨⟨zI z8, u, rfl, (by refine ⟨?_, rfl⟩; unfold spCold; (repeat (first | rw [if_pos (by omega)] | rw [if_neg (by omega)])); all_goals (first | rfl | (congr 1; omega) | (subst_vars; rfl))), gB.mk' hG hC hS ht9_ hW⟩, hS.F ht9_⟩) hS.2.2 dX12_coldOf_58
      · refine lv_iload_n hx hb dX12_coldOf_48 rfl (lv_at hl 0 rfl) ?_
        refine z_iconst hx hb dX12_coldOf_49 ?_
        refine z_idiv hx hb dX12_coldOf_50 (by omega) (by omega) (by omega) (by omega) ?_
        refine g_calli (va_runS (As := [.int (zI (z8 / 2))]) (rest := []) ⟨hx, hb, hml, hown, hts⟩ (kX12_atLeastOne l D cy ad jf A u (z8 / 2) (by omega)) (va_cwS 1 hts gX12_coldOf_X12_atLeastOne rfl rfl rfl (by decide +kernel) ⟨by decide, by decide⟩) (g_preS hG hC hS) rfl rfl hl.1 rfl (lv_room (Nat.le_of_ble_eq_true rfl)) dX12_coldOf_51 ⟨Nat.le_of_ble_eq_true rfl, Nat.le_of_ble_eq_true rfl⟩) hS (fun r11 u12 H locs p_13 hG hS => ?_)
        obtain ⟨rfl, he_⟩ := p_13
        rw [he_] at hG; clear he_
        obtain ⟨z14, hz14⟩ : ∃ z : Int, z = spAt1 (z8 / 2) := ⟨_, rfl⟩
        rw [← hz14]
        have qz14 : ((z8 / 2) < 1 ∧ z14 = 1) ∨ (1 ≤ (z8 / 2) ∧ z14 = (z8 / 2)) := by rw [hz14]; unfold spAt1; split <;> omega
        refine lv_goto (tgt := 58) hx hb dX12_coldOf_54 (by decide) ?_
        exact W.iret (v := zI z14) hx hb hr (fun t9 ht9_ hW => ⟨⟨zI z14, u, rfl, (by refine ⟨?_, rfl⟩; unfold spCold; (repeat (first | rw [if_pos (by omega)] | rw [if_neg (by omega)])); all_goals (first | rfl | (congr 1; omega) | (subst_vars; rfl))), gB.mk' hG hC hS ht9_ hW⟩, hS.F ht9_⟩) hS.2.2 dX12_coldOf_58
    · refine lv_iload_n hx hb dX12_coldOf_29 rfl (lv_at hl 0 rfl) ?_
      exact W.iret (v := zI ((u.1 21) + (p2 / 8))) hx hb hr (fun t9 ht9_ hW => ⟨⟨zI ((u.1 21) + (p2 / 8)), u, rfl, (by refine ⟨?_, rfl⟩; unfold spCold; (repeat (first | rw [if_pos (by omega)] | rw [if_neg (by omega)])); all_goals (first | rfl | (congr 1; omega) | (subst_vars; rfl))), gB.mk' hG hC hS ht9_ hW⟩, hS.F ht9_⟩) hS.2.2 dX12_coldOf_30
set_option maxHeartbeats 4000000 in
set_option maxRecDepth 100000 in
theorem kX12_pace (l : Launch) (D : va_G) (cy : Nat → ClassId) (ad : Nat → Nat) (jf : Nat → Int64) (A : Nat → Prop) (u : gS) (p1 p2 p3 : Int) (j_p1 : -2147483648 ≤ p1 ∧ p1 < 2147483648) (j_p2 : -2147483648 ≤ p2 ∧ p2 < 2147483648) (j_p3 : -2147483648 ≤ p3 ∧ p3 < 2147483648) (i23 : 0 ≤ u.1 23 ∧ u.1 23 ≤ 10) (i21 : 0 ≤ u.1 21 ∧ u.1 21 ≤ 20) (i34 : ∀ j, j < 10 → 0 ≤ u.2.1 34 j ∧ u.2.1 34 j ≤ 3) (i35 : ∀ j, j < 10 → 0 ≤ u.2.1 35 j ∧ u.2.1 35 j ≤ 20) (i37 : ∀ j, j < 10 → 0 ≤ u.2.1 37 j ∧ u.2.1 37 j ≤ 40) : Met l yX12_pace wsX12_pace ({ frames := 2, cells := 0, slots := 0, locals := 47 }) (va_Pc [.ref (ad 8), .int (zI p1), .int (zI p2), .int (zI p3)] (gB D cy ad jf A u)) (va_Qi (fun (r : Int32) (v : gS) => r = zI (mPace u p1 p2 p3) ∧ v = u) (gB D cy ad jf A) A) 0 0 A := by
  refine Met.ofW (cc := cX12_pace) (maxL := 4) (ret := (some .int)) (by decide) rfl ?_
  intro p e s m args below meth c s₁ B hml hv
  obtain ⟨rfl, hG, hC⟩ := hv
  have hx := B.exec
  have hb := B.bytes
  have hr := B.returns
  have hts := atoms_spec (ws := wsX12_pace) B.pre
  have hown : s.vm.findClass RX12 = some m.cls := findClass_of_methodNamed B.named
  have hlocks := B.notSynchronized
  have hS : va_S A s.heap s.heap [] := va_S.rf
  have hl := lv_entry ([.ref (ad 8), .int (zI p1), .int (zI p2), .int (zI p3)]) (n := 4) (Nat.le_of_ble_eq_true rfl)
  rw [lg_entry_eq]
  generalize (lg_sl ([.ref (ad 8), .int (zI p1), .int (zI p2), .int (zI p3)]) ++ List.replicate (4 - (lg_sl ([.ref (ad 8), .int (zI p1), .int (zI p2), .int (zI p3)])).length) Slot.unset).toArray = ls at hl ⊢
  have hl : lv_has ls 4 [(0, .ref (ad 8)), (1, .int (zI p1)), (2, .int (zI p2)), (3, .int (zI p3))] := hl
  refine lv_aload_n hx hb dX12_pace_0 rfl (lv_at hl 0 rfl) ?_
  refine lv_iload_n hx hb dX12_pace_1 rfl (lv_at hl 1 rfl) ?_
  refine g_calli (va_runV (As := [.int (zI p1)]) (rest := []) ⟨hx, hb, hml, hown, hts⟩ (kX12_isSwimmer l D cy ad jf A u p1 (by omega) i23) (cwV 1 hts gX12_pace_X12_isSwimmer rfl rfl rfl (by decide +kernel) ⟨by decide, by decide⟩) (g_preV (C := RX12) hG hC hS 8 (by decide) rfl rfl) rfl rfl hl.1 rfl (lv_room (Nat.le_of_ble_eq_true rfl)) dX12_pace_2 ⟨Nat.le_of_ble_eq_true rfl, Nat.le_of_ble_eq_true rfl⟩) hS (fun r1 u2 H locs p_3 hG hS => ?_)
  obtain ⟨⟨b4, rfl, q_5⟩, he_⟩ := p_3
  rw [he_] at hG; clear he_
  have hbb4 : 0 ≤ b4 ∧ b4 ≤ 1 := by rcases q_5 with ⟨h, _⟩ | ⟨h, _⟩ <;> omega
  refine z_if_eq (tgt := 27) hx hb dX12_pace_5 (by decide) (by omega) (by omega) (fun c_6 => ?_) (fun c_6 => ?_)
  · refine z_iconst hx hb dX12_pace_27 ?_
    exact W.iret (v := zI ((-1))) hx hb hr (fun t9 ht9_ hW => ⟨⟨zI ((-1)), u, rfl, (by refine ⟨?_, rfl⟩; unfold mPace; (repeat (first | rw [if_pos (by omega)] | rw [if_neg (by omega)])); all_goals (first | rfl | (congr 1; assumption) | (subst_vars; rfl))), gB.mk' hG hC hS ht9_ hW⟩, hS.F ht9_⟩) hS.2.2 dX12_pace_28
  · refine lv_iload_n hx hb dX12_pace_8 rfl (lv_at hl 2 rfl) ?_
    refine z_iconst hx hb dX12_pace_9 ?_
    refine z_bipush hx hb dX12_pace_10 (by decide) ?_
    refine g_calli (va_runS (As := [.int (zI p2), .int (zI 0), .int (zI 99)]) (rest := []) ⟨hx, hb, hml, hown, hts⟩ (kX12_in l D cy ad jf A u p2 0 99 (by omega) (by omega) (by omega)) (va_cwS 3 hts gX12_pace_X12_in rfl rfl rfl (by decide +kernel) ⟨by decide, by decide⟩) (g_preS hG hC hS) rfl rfl hl.1 rfl (lv_room (Nat.le_of_ble_eq_true rfl)) dX12_pace_12 ⟨Nat.le_of_ble_eq_true rfl, Nat.le_of_ble_eq_true rfl⟩) hS (fun r7 u8 H locs p_9 hG hS => ?_)
    obtain ⟨⟨b10, rfl, q_11⟩, he_⟩ := p_9
    rw [he_] at hG; clear he_
    have hbb10 : 0 ≤ b10 ∧ b10 ≤ 1 := by rcases q_11 with ⟨h, _⟩ | ⟨h, _⟩ <;> omega
    refine z_if_eq (tgt := 27) hx hb dX12_pace_15 (by decide) (by omega) (by omega) (fun c_12 => ?_) (fun c_12 => ?_)
    · refine z_iconst hx hb dX12_pace_27 ?_
      exact W.iret (v := zI ((-1))) hx hb hr (fun t9 ht9_ hW => ⟨⟨zI ((-1)), u, rfl, (by refine ⟨?_, rfl⟩; unfold mPace; (repeat (first | rw [if_pos (by omega)] | rw [if_neg (by omega)])); all_goals (first | rfl | (congr 1; assumption) | (subst_vars; rfl))), gB.mk' hG hC hS ht9_ hW⟩, hS.F ht9_⟩) hS.2.2 dX12_pace_28
    · refine lv_iload_n hx hb dX12_pace_18 rfl (lv_at hl 3 rfl) ?_
      refine z_iconst hx hb dX12_pace_19 ?_
      refine z_iconst hx hb dX12_pace_20 ?_
      refine g_calli (va_runS (As := [.int (zI p3), .int (zI 0), .int (zI 1)]) (rest := []) ⟨hx, hb, hml, hown, hts⟩ (kX12_in l D cy ad jf A u p3 0 1 (by omega) (by omega) (by omega)) (va_cwS 3 hts gX12_pace_X12_in rfl rfl rfl (by decide +kernel) ⟨by decide, by decide⟩) (g_preS hG hC hS) rfl rfl hl.1 rfl (lv_room (Nat.le_of_ble_eq_true rfl)) dX12_pace_21 ⟨Nat.le_of_ble_eq_true rfl, Nat.le_of_ble_eq_true rfl⟩) hS (fun r13 u14 H locs p_15 hG hS => ?_)
      obtain ⟨⟨b16, rfl, q_17⟩, he_⟩ := p_15
      rw [he_] at hG; clear he_
      have hbb16 : 0 ≤ b16 ∧ b16 ≤ 1 := by rcases q_17 with ⟨h, _⟩ | ⟨h, _⟩ <;> omega
      refine z_if_ne (tgt := 29) hx hb dX12_pace_24 (by decide) (by omega) (by omega) (fun c_18 => ?_) (fun c_18 => ?_)
      · refine lv_iload_n hx hb dX12_pace_29 rfl (lv_at hl 3 rfl) ?_
        refine z_if_ne (tgt := 42) hx hb dX12_pace_30 (by decide) (by omega) (by omega) (fun c_19 => ?_) (fun c_19 => ?_)
        · refine lv_aload_n hx hb dX12_pace_42 rfl (lv_at hl 0 rfl) ?_
          refine lv_iload_n hx hb dX12_pace_43 rfl (lv_at hl 1 rfl) ?_
          refine lv_iload_n hx hb dX12_pace_44 rfl (lv_at hl 2 rfl) ?_
          refine g_calli (va_runV (As := [.int (zI p1), .int (zI p2)]) (rest := []) ⟨hx, hb, hml, hown, hts⟩ (kX12_coldOf l D cy ad jf A u p1 p2 (by omega) (by omega) i21 i34) (cwV 2 hts gX12_pace_X12_coldOf rfl rfl rfl (by decide +kernel) ⟨by decide, by decide⟩) (g_preV (C := RX12) hG hC hS 8 (by decide) rfl rfl) rfl rfl hl.1 rfl (lv_room (Nat.le_of_ble_eq_true rfl)) dX12_pace_45 ⟨Nat.le_of_ble_eq_true rfl, Nat.le_of_ble_eq_true rfl⟩) hS (fun r20 u21 H locs p_22 hG hS => ?_)
          obtain ⟨rfl, he_⟩ := p_22
          rw [he_] at hG; clear he_
          obtain ⟨z23, hz23⟩ : ∃ z : Int, z = spCold (u.2.1 34 p1.toNat) (u.1 21) p2 := ⟨_, rfl⟩
          rw [← hz23]
          have qz23 : 0 ≤ z23 ∧ z23 ≤ 145 := by rw [hz23]; exact spCold_bnd (i34 _ (by omega)) i21 (by omega)
          exact W.iret (v := zI z23) hx hb hr (fun t9 ht9_ hW => ⟨⟨zI z23, u, rfl, (by refine ⟨?_, rfl⟩; unfold mPace; (repeat (first | rw [if_pos (by omega)] | rw [if_neg (by omega)])); all_goals (first | rfl | (congr 1; assumption) | (subst_vars; rfl))), gB.mk' hG hC hS ht9_ hW⟩, hS.F ht9_⟩) hS.2.2 dX12_pace_48
        · refine lv_aload_n hx hb dX12_pace_33 rfl (lv_at hl 0 rfl) ?_
          refine lv_iload_n hx hb dX12_pace_34 rfl (lv_at hl 1 rfl) ?_
          refine lv_iload_n hx hb dX12_pace_35 rfl (lv_at hl 2 rfl) ?_
          refine g_calli (va_runV (As := [.int (zI p1), .int (zI p2)]) (rest := []) ⟨hx, hb, hml, hown, hts⟩ (kX12_paceOf l D cy ad jf A u p1 p2 (by omega) (by omega) i34 i35 i37) (cwV 2 hts gX12_pace_X12_paceOf rfl rfl rfl (by decide +kernel) ⟨by decide, by decide⟩) (g_preV (C := RX12) hG hC hS 8 (by decide) rfl rfl) rfl rfl hl.1 rfl (lv_room (Nat.le_of_ble_eq_true rfl)) dX12_pace_36 ⟨Nat.le_of_ble_eq_true rfl, Nat.le_of_ble_eq_true rfl⟩) hS (fun r24 u25 H locs p_26 hG hS => ?_)
          obtain ⟨rfl, he_⟩ := p_26
          rw [he_] at hG; clear he_
          obtain ⟨z27, hz27⟩ : ∃ z : Int, z = spPace (u.2.1 34 p1.toNat) (u.2.1 35 p1.toNat) (u.2.1 37 p1.toNat) p2 := ⟨_, rfl⟩
          rw [← hz27]
          have qz27 : 0 ≤ z27 ∧ z27 ≤ 24 := by rw [hz27]; exact spPace_bnd (i34 _ (by omega)) (i35 _ (by omega)) (by omega)
          refine lv_goto (tgt := 48) hx hb dX12_pace_39 (by decide) ?_
          exact W.iret (v := zI z27) hx hb hr (fun t9 ht9_ hW => ⟨⟨zI z27, u, rfl, (by refine ⟨?_, rfl⟩; unfold mPace; (repeat (first | rw [if_pos (by omega)] | rw [if_neg (by omega)])); all_goals (first | rfl | (congr 1; assumption) | (subst_vars; rfl))), gB.mk' hG hC hS ht9_ hW⟩, hS.F ht9_⟩) hS.2.2 dX12_pace_48
      · refine z_iconst hx hb dX12_pace_27 ?_
        exact W.iret (v := zI ((-1))) hx hb hr (fun t9 ht9_ hW => ⟨⟨zI ((-1)), u, rfl, (by refine ⟨?_, rfl⟩; unfold mPace; (repeat (first | rw [if_pos (by omega)] | rw [if_neg (by omega)])); all_goals (first | rfl | (congr 1; assumption) | (subst_vars; rfl))), gB.mk' hG hC hS ht9_ hW⟩, hS.F ht9_⟩) hS.2.2 dX12_pace_28
set_option maxHeartbeats 4000000 in
set_option maxRecDepth 100000 in
theorem kX12_eastOf (l : Launch) (D : va_G) (cy : Nat → ClassId) (ad : Nat → Nat) (jf : Nat → Int64) (A : Nat → Prop) (u : gS) (p1 : Int) (j_a : 0 ≤ p1 ∧ p1 ≤ 7) : Met l yX12_eastOf wsX12_eastOf ({ frames := 0, cells := 0, slots := 0, locals := 0 }) (va_Pc [.int (zI p1)] (gB D cy ad jf A u)) (va_Qi (fun (r : Int32) (v : gS) => r = zI (aimE p1.toNat) ∧ v = u) (gB D cy ad jf A) A) 0 0 A := by
  refine Met.ofW (cc := cX12_eastOf) (maxL := 1) (ret := (some .int)) (by decide) rfl ?_
  intro p e s m args below meth c s₁ B hml hv
  obtain ⟨rfl, hG, hC⟩ := hv
  have hx := B.exec
  have hb := B.bytes
  have hr := B.returns
  have hts := atoms_spec (ws := wsX12_eastOf) B.pre
  have hown : s.vm.findClass RX12 = some m.cls := findClass_of_methodNamed B.named
  have hlocks := B.notSynchronized
  have hS : va_S A s.heap s.heap [] := va_S.rf
  have hl := lv_entry ([.int (zI p1)]) (n := 1) (Nat.le_of_ble_eq_true rfl)
  rw [lg_entry_eq]
  generalize (lg_sl ([.int (zI p1)]) ++ List.replicate (1 - (lg_sl ([.int (zI p1)])).length) Slot.unset).toArray = ls at hl ⊢
  have hl : lv_has ls 1 [(0, .int (zI p1))] := hl
  refine lv_iload_n hx hb dX12_eastOf_0 rfl (lv_at hl 0 rfl) ?_
  refine z_if_eq (tgt := 15) hx hb dX12_eastOf_1 (by decide) (by omega) (by omega) (fun c_1 => ?_) (fun c_1 => ?_)
  · refine z_iconst hx hb dX12_eastOf_15 ?_
    refine lv_goto (tgt := 35) hx hb dX12_eastOf_16 (by decide) ?_
    exact W.iret (v := zI 1) hx hb hr (fun t9 ht9_ hW => ⟨⟨zI 1, u, rfl, (by refine ⟨?_, rfl⟩; rcases (show p1 = 0 ∨ p1 = 1 ∨ p1 = 2 ∨ p1 = 3 ∨ p1 = 4 ∨ p1 = 5 ∨ p1 = 6 ∨ p1 = 7 by omega) with h | h | h | h | h | h | h | h <;> first | (exfalso; omega) | (rw [h]; rfl)), gB.mk' hG hC hS ht9_ hW⟩, hS.F ht9_⟩) hS.2.2 dX12_eastOf_35
  · refine lv_iload_n hx hb dX12_eastOf_4 rfl (lv_at hl 0 rfl) ?_
    refine z_iconst hx hb dX12_eastOf_5 ?_
    refine z_icmp_eq (tgt := 15) hx hb dX12_eastOf_6 (by decide) (by omega) (by omega) (by omega) (by omega) (fun c_2 => ?_) (fun c_2 => ?_)
    · refine z_iconst hx hb dX12_eastOf_15 ?_
      refine lv_goto (tgt := 35) hx hb dX12_eastOf_16 (by decide) ?_
      exact W.iret (v := zI 1) hx hb hr (fun t9 ht9_ hW => ⟨⟨zI 1, u, rfl, (by refine ⟨?_, rfl⟩; rcases (show p1 = 0 ∨ p1 = 1 ∨ p1 = 2 ∨ p1 = 3 ∨ p1 = 4 ∨ p1 = 5 ∨ p1 = 6 ∨ p1 = 7 by omega) with h | h | h | h | h | h | h | h <;> first | (exfalso; omega) | (rw [h]; rfl)), gB.mk' hG hC hS ht9_ hW⟩, hS.F ht9_⟩) hS.2.2 dX12_eastOf_35
    · refine lv_iload_n hx hb dX12_eastOf_9 rfl (lv_at hl 0 rfl) ?_
      refine z_bipush hx hb dX12_eastOf_10 (by decide) ?_
      refine z_icmp_ne (tgt := 19) hx hb dX12_eastOf_12 (by decide) (by omega) (by omega) (by omega) (by omega) (fun c_3 => ?_) (fun c_3 => ?_)
      · refine lv_iload_n hx hb dX12_eastOf_19 rfl (lv_at hl 0 rfl) ?_
        refine z_iconst hx hb dX12_eastOf_20 ?_
        refine z_icmp_le (tgt := 34) hx hb dX12_eastOf_21 (by decide) (by omega) (by omega) (by omega) (by omega) (fun c_4 => ?_) (fun c_4 => ?_)
        · refine z_iconst hx hb dX12_eastOf_34 ?_
          exact W.iret (v := zI 0) hx hb hr (fun t9 ht9_ hW => ⟨⟨zI 0, u, rfl, (by refine ⟨?_, rfl⟩; rcases (show p1 = 0 ∨ p1 = 1 ∨ p1 = 2 ∨ p1 = 3 ∨ p1 = 4 ∨ p1 = 5 ∨ p1 = 6 ∨ p1 = 7 by omega) with h | h | h | h | h | h | h | h <;> first | (exfalso; omega) | (rw [h]; rfl)), gB.mk' hG hC hS ht9_ hW⟩, hS.F ht9_⟩) hS.2.2 dX12_eastOf_35
        · refine lv_iload_n hx hb dX12_eastOf_24 rfl (lv_at hl 0 rfl) ?_
          refine z_bipush hx hb dX12_eastOf_25 (by decide) ?_
          refine z_icmp_ge (tgt := 34) hx hb dX12_eastOf_27 (by decide) (by omega) (by omega) (by omega) (by omega) (fun c_5 => ?_) (fun c_5 => ?_)
          · refine z_iconst hx hb dX12_eastOf_34 ?_
            exact W.iret (v := zI 0) hx hb hr (fun t9 ht9_ hW => ⟨⟨zI 0, u, rfl, (by refine ⟨?_, rfl⟩; rcases (show p1 = 0 ∨ p1 = 1 ∨ p1 = 2 ∨ p1 = 3 ∨ p1 = 4 ∨ p1 = 5 ∨ p1 = 6 ∨ p1 = 7 by omega) with h | h | h | h | h | h | h | h <;> first | (exfalso; omega) | (rw [h]; rfl)), gB.mk' hG hC hS ht9_ hW⟩, hS.F ht9_⟩) hS.2.2 dX12_eastOf_35
          · refine z_iconst hx hb dX12_eastOf_30 ?_
            refine lv_goto (tgt := 35) hx hb dX12_eastOf_31 (by decide) ?_
            exact W.iret (v := zI ((-1))) hx hb hr (fun t9 ht9_ hW => ⟨⟨zI ((-1)), u, rfl, (by refine ⟨?_, rfl⟩; rcases (show p1 = 0 ∨ p1 = 1 ∨ p1 = 2 ∨ p1 = 3 ∨ p1 = 4 ∨ p1 = 5 ∨ p1 = 6 ∨ p1 = 7 by omega) with h | h | h | h | h | h | h | h <;> first | (exfalso; omega) | (rw [h]; rfl)), gB.mk' hG hC hS ht9_ hW⟩, hS.F ht9_⟩) hS.2.2 dX12_eastOf_35
      · refine z_iconst hx hb dX12_eastOf_15 ?_
        refine lv_goto (tgt := 35) hx hb dX12_eastOf_16 (by decide) ?_
        exact W.iret (v := zI 1) hx hb hr (fun t9 ht9_ hW => ⟨⟨zI 1, u, rfl, (by refine ⟨?_, rfl⟩; rcases (show p1 = 0 ∨ p1 = 1 ∨ p1 = 2 ∨ p1 = 3 ∨ p1 = 4 ∨ p1 = 5 ∨ p1 = 6 ∨ p1 = 7 by omega) with h | h | h | h | h | h | h | h <;> first | (exfalso; omega) | (rw [h]; rfl)), gB.mk' hG hC hS ht9_ hW⟩, hS.F ht9_⟩) hS.2.2 dX12_eastOf_35
set_option maxHeartbeats 4000000 in
set_option maxRecDepth 100000 in
theorem kX12_northOf (l : Launch) (D : va_G) (cy : Nat → ClassId) (ad : Nat → Nat) (jf : Nat → Int64) (A : Nat → Prop) (u : gS) (p1 : Int) (j_a : 0 ≤ p1 ∧ p1 ≤ 7) : Met l yX12_northOf wsX12_northOf ({ frames := 1, cells := 0, slots := 0, locals := 22 }) (va_Pc [.int (zI p1)] (gB D cy ad jf A u)) (va_Qi (fun (r : Int32) (v : gS) => r = zI (aimN p1.toNat) ∧ v = u) (gB D cy ad jf A) A) 0 0 A := by
  refine Met.ofW (cc := cX12_northOf) (maxL := 1) (ret := (some .int)) (by decide) rfl ?_
  intro p e s m args below meth c s₁ B hml hv
  obtain ⟨rfl, hG, hC⟩ := hv
  have hx := B.exec
  have hb := B.bytes
  have hr := B.returns
  have hts := atoms_spec (ws := wsX12_northOf) B.pre
  have hown : s.vm.findClass RX12 = some m.cls := findClass_of_methodNamed B.named
  have hlocks := B.notSynchronized
  have hS : va_S A s.heap s.heap [] := va_S.rf
  have hl := lv_entry ([.int (zI p1)]) (n := 1) (Nat.le_of_ble_eq_true rfl)
  rw [lg_entry_eq]
  generalize (lg_sl ([.int (zI p1)]) ++ List.replicate (1 - (lg_sl ([.int (zI p1)])).length) Slot.unset).toArray = ls at hl ⊢
  have hl : lv_has ls 1 [(0, .int (zI p1))] := hl
  refine lv_iload_n hx hb dX12_northOf_0 rfl (lv_at hl 0 rfl) ?_
  refine z_iconst hx hb dX12_northOf_1 ?_
  refine z_iconst hx hb dX12_northOf_2 ?_
  refine g_calli (va_runS (As := [.int (zI p1), .int (zI 1), .int (zI 3)]) (rest := []) ⟨hx, hb, hml, hown, hts⟩ (kX12_in l D cy ad jf A u p1 1 3 (by omega) (by omega) (by omega)) (va_cwS 3 hts gX12_northOf_X12_in rfl rfl rfl (by decide +kernel) ⟨by decide, by decide⟩) (g_preS hG hC hS) rfl rfl hl.1 rfl (lv_room (Nat.le_of_ble_eq_true rfl)) dX12_northOf_3 ⟨Nat.le_of_ble_eq_true rfl, Nat.le_of_ble_eq_true rfl⟩) hS (fun r1 u2 H locs p_3 hG hS => ?_)
  obtain ⟨⟨b4, rfl, q_5⟩, he_⟩ := p_3
  rw [he_] at hG; clear he_
  have hbb4 : 0 ≤ b4 ∧ b4 ≤ 1 := by rcases q_5 with ⟨h, _⟩ | ⟨h, _⟩ <;> omega
  refine z_if_eq (tgt := 13) hx hb dX12_northOf_6 (by decide) (by omega) (by omega) (fun c_6 => ?_) (fun c_6 => ?_)
  · refine lv_iload_n hx hb dX12_northOf_13 rfl (lv_at hl 0 rfl) ?_
    refine z_iconst hx hb dX12_northOf_14 ?_
    refine z_icmp_le (tgt := 22) hx hb dX12_northOf_15 (by decide) (by omega) (by omega) (by omega) (by omega) (fun c_7 => ?_) (fun c_7 => ?_)
    · refine z_iconst hx hb dX12_northOf_22 ?_
      exact W.iret (v := zI 0) hx hb hr (fun t9 ht9_ hW => ⟨⟨zI 0, u, rfl, (by refine ⟨?_, rfl⟩; rcases (show p1 = 0 ∨ p1 = 1 ∨ p1 = 2 ∨ p1 = 3 ∨ p1 = 4 ∨ p1 = 5 ∨ p1 = 6 ∨ p1 = 7 by omega) with h | h | h | h | h | h | h | h <;> first | (exfalso; omega) | (rw [h]; rfl)), gB.mk' hG hC hS ht9_ hW⟩, hS.F ht9_⟩) hS.2.2 dX12_northOf_23
    · refine z_iconst hx hb dX12_northOf_18 ?_
      refine lv_goto (tgt := 23) hx hb dX12_northOf_19 (by decide) ?_
      exact W.iret (v := zI ((-1))) hx hb hr (fun t9 ht9_ hW => ⟨⟨zI ((-1)), u, rfl, (by refine ⟨?_, rfl⟩; rcases (show p1 = 0 ∨ p1 = 1 ∨ p1 = 2 ∨ p1 = 3 ∨ p1 = 4 ∨ p1 = 5 ∨ p1 = 6 ∨ p1 = 7 by omega) with h | h | h | h | h | h | h | h <;> first | (exfalso; omega) | (rw [h]; rfl)), gB.mk' hG hC hS ht9_ hW⟩, hS.F ht9_⟩) hS.2.2 dX12_northOf_23
  · refine z_iconst hx hb dX12_northOf_9 ?_
    refine lv_goto (tgt := 23) hx hb dX12_northOf_10 (by decide) ?_
    exact W.iret (v := zI 1) hx hb hr (fun t9 ht9_ hW => ⟨⟨zI 1, u, rfl, (by refine ⟨?_, rfl⟩; rcases (show p1 = 0 ∨ p1 = 1 ∨ p1 = 2 ∨ p1 = 3 ∨ p1 = 4 ∨ p1 = 5 ∨ p1 = 6 ∨ p1 = 7 by omega) with h | h | h | h | h | h | h | h <;> first | (exfalso; omega) | (rw [h]; rfl)), gB.mk' hG hC hS ht9_ hW⟩, hS.F ht9_⟩) hS.2.2 dX12_northOf_23
set_option maxHeartbeats 4000000 in
set_option maxRecDepth 100000 in
theorem kX12_ended (l : Launch) (D : va_G) (cy : Nat → ClassId) (ad : Nat → Nat) (jf : Nat → Int64) (A : Nat → Prop) (u : gS) (p1 : Int) (j_p1 : -2147483648 ≤ p1 ∧ p1 < 2147483648) (i24 : -1 ≤ u.1 24 ∧ u.1 24 ≤ 9) (i38 : ∀ j, j < 202 → -1000 ≤ u.2.1 38 j ∧ u.2.1 38 j ≤ 1000) (i39 : ∀ j, j < 202 → -1000 ≤ u.2.1 39 j ∧ u.2.1 39 j ≤ 1000) (i40 : ∀ j, j < 2 → 0 ≤ u.2.1 40 j ∧ u.2.1 40 j ≤ 100) (i41 : ∀ j, j < 2 → 0 ≤ u.2.1 41 j ∧ u.2.1 41 j ≤ 100000) : Met l yX12_ended wsX12_ended ({ frames := 1, cells := 0, slots := 0, locals := 22 }) (va_Pc [.ref (ad 8), .int (zI p1)] (gB D cy ad jf A u)) (va_Qi (fun (r : Int32) (v : gS) => r = zI (mEnded u p1) ∧ v = u) (gB D cy ad jf A) A) 0 0 A := by
  refine Met.ofW (cc := cX12_ended) (maxL := 3) (ret := (some .int)) (by decide) rfl ?_
  intro p e s m args below meth c s₁ B hml hv
  obtain ⟨rfl, hG, hC⟩ := hv
  have hx := B.exec
  have hb := B.bytes
  have hr := B.returns
  have hts := atoms_spec (ws := wsX12_ended) B.pre
  have hown : s.vm.findClass RX12 = some m.cls := findClass_of_methodNamed B.named
  have hlocks := B.notSynchronized
  have hS : va_S A s.heap s.heap [] := va_S.rf
  have hl := lv_entry ([.ref (ad 8), .int (zI p1)]) (n := 3) (Nat.le_of_ble_eq_true rfl)
  rw [lg_entry_eq]
  generalize (lg_sl ([.ref (ad 8), .int (zI p1)]) ++ List.replicate (3 - (lg_sl ([.ref (ad 8), .int (zI p1)])).length) Slot.unset).toArray = ls at hl ⊢
  have hl : lv_has ls 3 [(0, .ref (ad 8)), (1, .int (zI p1))] := hl
  refine lv_iload_n hx hb dX12_ended_0 rfl (lv_at hl 1 rfl) ?_
  refine z_iconst hx hb dX12_ended_1 ?_
  refine z_iconst hx hb dX12_ended_2 ?_
  refine g_calli (va_runS (As := [.int (zI p1), .int (zI 0), .int (zI 4)]) (rest := []) ⟨hx, hb, hml, hown, hts⟩ (kX12_in l D cy ad jf A u p1 0 4 (by omega) (by omega) (by omega)) (va_cwS 3 hts gX12_ended_X12_in rfl rfl rfl (by decide +kernel) ⟨by decide, by decide⟩) (g_preS hG hC hS) rfl rfl hl.1 rfl (lv_room (Nat.le_of_ble_eq_true rfl)) dX12_ended_3 ⟨Nat.le_of_ble_eq_true rfl, Nat.le_of_ble_eq_true rfl⟩) hS (fun r1 u2 H locs p_3 hG hS => ?_)
  obtain ⟨⟨b4, rfl, q_5⟩, he_⟩ := p_3
  rw [he_] at hG; clear he_
  have hbb4 : 0 ≤ b4 ∧ b4 ≤ 1 := by rcases q_5 with ⟨h, _⟩ | ⟨h, _⟩ <;> omega
  refine z_if_ne (tgt := 11) hx hb dX12_ended_6 (by decide) (by omega) (by omega) (fun c_6 => ?_) (fun c_6 => ?_)
  · refine lv_aload_n hx hb dX12_ended_11 rfl (lv_at hl 0 rfl) ?_
    refine g_get (C := RX12) (T := TX12) (N := 42) (ci := 11) hx hb hts (fun _ h => (List.mem_cons_of_mem _ (List.mem_append_right _ h))) hown hC.1 hG 8 (by decide) rfl rfl 15 (by decide) (hts (.fieldLink RX12 51 "StraitSwimModel" "lastSwimmer" "I") (List.mem_cons_of_mem _ (List.mem_append_left _ (List.mem_of_getElem? (i := 0) rfl)))) (fun _ h9 => h9) rfl dX12_ended_12 ?_
    refine z_iconst hx hb dX12_ended_15 ?_
    refine z_icmp_ne (tgt := 22) hx hb dX12_ended_16 (by decide) (by omega) (by omega) (by omega) (by omega) (fun c_7 => ?_) (fun c_7 => ?_)
    · refine lv_aload_n hx hb dX12_ended_22 rfl (lv_at hl 0 rfl) ?_
      refine g_get (C := RX12) (T := TX12) (N := 42) (ci := 11) hx hb hts (fun _ h => (List.mem_cons_of_mem _ (List.mem_append_right _ h))) hown hC.1 hG 8 (by decide) rfl rfl 13 (by decide) (hts (.fieldLink RX12 45 "StraitSwimModel" "quarters" "[I") (List.mem_cons_of_mem _ (List.mem_append_left _ (List.mem_of_getElem? (i := 1) rfl)))) (fun _ h9 => h9) rfl dX12_ended_23 ?_
      refine z_iconst hx hb dX12_ended_26 ?_
      refine g_iald (n := 2) hx hb hC.1 hG 40 (by decide) rfl (by omega) (by omega) (by decide) dX12_ended_27 ?_
      rw [show Int.toNat 0 = 0 from rfl]
      have q_8 := i40 0 (by omega)
      refine lv_istore_n (lv' := [(2, .int (zI (u.2.1 40 0))), (0, .ref (ad 8)), (1, .int (zI p1))]) hx hb dX12_ended_28 rfl hl (by decide) rfl (fun ls hl => ?_)
      refine lv_iload_n hx hb dX12_ended_29 rfl (lv_at hl 2 rfl) ?_
      refine z_if_ne (tgt := 42) hx hb dX12_ended_30 (by decide) (by omega) (by omega) (fun c_9 => ?_) (fun c_9 => ?_)
      · refine lv_iload_n hx hb dX12_ended_42 rfl (lv_at hl 2 rfl) ?_
        refine z_iconst hx hb dX12_ended_43 ?_
        refine z_icmp_ne (tgt := 56) hx hb dX12_ended_44 (by decide) (by omega) (by omega) (by omega) (by omega) (fun c_10 => ?_) (fun c_10 => ?_)
        · refine lv_iload_n hx hb dX12_ended_56 rfl (lv_at hl 2 rfl) ?_
          refine z_iconst hx hb dX12_ended_57 ?_
          refine z_icmp_ne (tgt := 65) hx hb dX12_ended_58 (by decide) (by omega) (by omega) (by omega) (by omega) (fun c_11 => ?_) (fun c_11 => ?_)
          · refine lv_iload_n hx hb dX12_ended_65 rfl (lv_at hl 2 rfl) ?_
            refine z_iconst hx hb dX12_ended_66 ?_
            refine z_icmp_ne (tgt := 79) hx hb dX12_ended_67 (by decide) (by omega) (by omega) (by omega) (by omega) (fun c_12 => ?_) (fun c_12 => ?_)
            · refine lv_aload_n hx hb dX12_ended_79 rfl (lv_at hl 1 rfl) ?_
              refine g_get (C := RX12) (T := TX12) (N := 42) (ci := 11) hx hb hts (fun _ h => (List.mem_cons_of_mem _ (List.mem_append_right _ h))) hown hC.1 hG 8 (by decide) rfl rfl 15 (by decide) (hts (.fieldLink RX12 51 "StraitSwimModel" "lastSwimmer" "I") (List.mem_cons_of_mem _ (List.mem_append_left _ (List.mem_of_getElem? (i := 0) rfl)))) (fun _ h9 => h9) rfl dX12_ended_80 ?_
              exact W.iret (v := zI (u.1 24)) hx hb hr (fun t9 ht9_ hW => ⟨⟨zI (u.1 24), u, rfl, (by refine ⟨?_, rfl⟩; unfold mEnded; (repeat (first | rw [if_pos (by omega)] | rw [if_neg (by omega)])); all_goals (first | rfl | (congr 1; omega) | (subst_vars; rfl))), gB.mk' hG hC hS ht9_ hW⟩, hS.F ht9_⟩) hS.2.2 dX12_ended_83
            · refine lv_aload_n hx hb dX12_ended_70 rfl (lv_at hl 1 rfl) ?_
              refine g_get (C := RX12) (T := TX12) (N := 42) (ci := 11) hx hb hts (fun _ h => (List.mem_cons_of_mem _ (List.mem_append_right _ h))) hown hC.1 hG 8 (by decide) rfl rfl 14 (by decide) (hts (.fieldLink RX12 48 "StraitSwimModel" "colds" "[I") (List.mem_cons_of_mem _ (List.mem_append_left _ (List.mem_of_getElem? (i := 4) rfl)))) (fun _ h9 => h9) rfl dX12_ended_71 ?_
              refine z_iconst hx hb dX12_ended_74 ?_
              refine g_iald (n := 2) hx hb hC.1 hG 41 (by decide) rfl (by omega) (by omega) (by decide) dX12_ended_75 ?_
              rw [show Int.toNat 0 = 0 from rfl]
              have q_13 := i41 0 (by omega)
              refine lv_goto (tgt := 83) hx hb dX12_ended_76 (by decide) ?_
              exact W.iret (v := zI (u.2.1 41 0)) hx hb hr (fun t9 ht9_ hW => ⟨⟨zI (u.2.1 41 0), u, rfl, (by refine ⟨?_, rfl⟩; unfold mEnded; (repeat (first | rw [if_pos (by omega)] | rw [if_neg (by omega)])); all_goals (first | rfl | (congr 1; omega) | (subst_vars; rfl))), gB.mk' hG hC hS ht9_ hW⟩, hS.F ht9_⟩) hS.2.2 dX12_ended_83
          · refine lv_iload_n hx hb dX12_ended_61 rfl (lv_at hl 0 rfl) ?_
            refine lv_goto (tgt := 83) hx hb dX12_ended_62 (by decide) ?_
            exact W.iret (v := zI (u.2.1 40 0)) hx hb hr (fun t9 ht9_ hW => ⟨⟨zI (u.2.1 40 0), u, rfl, (by refine ⟨?_, rfl⟩; unfold mEnded; (repeat (first | rw [if_pos (by omega)] | rw [if_neg (by omega)])); all_goals (first | rfl | (congr 1; omega) | (subst_vars; rfl))), gB.mk' hG hC hS ht9_ hW⟩, hS.F ht9_⟩) hS.2.2 dX12_ended_83
        · refine lv_aload_n hx hb dX12_ended_47 rfl (lv_at hl 1 rfl) ?_
          refine g_get (C := RX12) (T := TX12) (N := 42) (ci := 11) hx hb hts (fun _ h => (List.mem_cons_of_mem _ (List.mem_append_right _ h))) hown hC.1 hG 8 (by decide) rfl rfl 12 (by decide) (hts (.fieldLink RX12 42 "StraitSwimModel" "pathY" "[I") (List.mem_cons_of_mem _ (List.mem_append_left _ (List.mem_of_getElem? (i := 3) rfl)))) (fun _ h9 => h9) rfl dX12_ended_48 ?_
          refine lv_iload_n hx hb dX12_ended_51 rfl (lv_at hl 0 rfl) ?_
          refine g_iald (n := 202) hx hb hC.1 hG 39 (by decide) rfl (by omega) (by omega) (by decide) dX12_ended_52 ?_
          have q_14 := i39 (u.2.1 40 0).toNat (by omega)
          refine lv_goto (tgt := 83) hx hb dX12_ended_53 (by decide) ?_
          exact W.iret (v := zI (u.2.1 39 (u.2.1 40 0).toNat)) hx hb hr (fun t9 ht9_ hW => ⟨⟨zI (u.2.1 39 (u.2.1 40 0).toNat), u, rfl, (by refine ⟨?_, rfl⟩; unfold mEnded; (repeat (first | rw [if_pos (by omega)] | rw [if_neg (by omega)])); all_goals (first | rfl | (congr 1; omega) | (subst_vars; rfl))), gB.mk' hG hC hS ht9_ hW⟩, hS.F ht9_⟩) hS.2.2 dX12_ended_83
      · refine lv_aload_n hx hb dX12_ended_33 rfl (lv_at hl 1 rfl) ?_
        refine g_get (C := RX12) (T := TX12) (N := 42) (ci := 11) hx hb hts (fun _ h => (List.mem_cons_of_mem _ (List.mem_append_right _ h))) hown hC.1 hG 8 (by decide) rfl rfl 11 (by decide) (hts (.fieldLink RX12 39 "StraitSwimModel" "pathX" "[I") (List.mem_cons_of_mem _ (List.mem_append_left _ (List.mem_of_getElem? (i := 2) rfl)))) (fun _ h9 => h9) rfl dX12_ended_34 ?_
        refine lv_iload_n hx hb dX12_ended_37 rfl (lv_at hl 0 rfl) ?_
        refine g_iald (n := 202) hx hb hC.1 hG 38 (by decide) rfl (by omega) (by omega) (by decide) dX12_ended_38 ?_
        have q_15 := i38 (u.2.1 40 0).toNat (by omega)
        refine lv_goto (tgt := 83) hx hb dX12_ended_39 (by decide) ?_
        exact W.iret (v := zI (u.2.1 38 (u.2.1 40 0).toNat)) hx hb hr (fun t9 ht9_ hW => ⟨⟨zI (u.2.1 38 (u.2.1 40 0).toNat), u, rfl, (by refine ⟨?_, rfl⟩; unfold mEnded; (repeat (first | rw [if_pos (by omega)] | rw [if_neg (by omega)])); all_goals (first | rfl | (congr 1; omega) | (subst_vars; rfl))), gB.mk' hG hC hS ht9_ hW⟩, hS.F ht9_⟩) hS.2.2 dX12_ended_83
    · refine z_bipush hx hb dX12_ended_19 (by decide) ?_
      exact W.iret (v := zI ((-3))) hx hb hr (fun t9 ht9_ hW => ⟨⟨zI ((-3)), u, rfl, (by refine ⟨?_, rfl⟩; unfold mEnded; (repeat (first | rw [if_pos (by omega)] | rw [if_neg (by omega)])); all_goals (first | rfl | (congr 1; omega) | (subst_vars; rfl))), gB.mk' hG hC hS ht9_ hW⟩, hS.F ht9_⟩) hS.2.2 dX12_ended_21
  · refine z_iconst hx hb dX12_ended_9 ?_
    exact W.iret (v := zI ((-1))) hx hb hr (fun t9 ht9_ hW => ⟨⟨zI ((-1)), u, rfl, (by refine ⟨?_, rfl⟩; unfold mEnded; (repeat (first | rw [if_pos (by omega)] | rw [if_neg (by omega)])); all_goals (first | rfl | (congr 1; omega) | (subst_vars; rfl))), gB.mk' hG hC hS ht9_ hW⟩, hS.F ht9_⟩) hS.2.2 dX12_ended_10
set_option maxHeartbeats 4000000 in
set_option maxRecDepth 100000 in
theorem kX12_where (l : Launch) (D : va_G) (cy : Nat → ClassId) (ad : Nat → Nat) (jf : Nat → Int64) (A : Nat → Prop) (u : gS) (p1 : Int) (j_p1 : -2147483648 ≤ p1 ∧ p1 < 2147483648) (i24 : -1 ≤ u.1 24 ∧ u.1 24 ≤ 9) (i38 : ∀ j, j < 202 → -1000 ≤ u.2.1 38 j ∧ u.2.1 38 j ≤ 1000) (i39 : ∀ j, j < 202 → -1000 ≤ u.2.1 39 j ∧ u.2.1 39 j ≤ 1000) (i40 : ∀ j, j < 2 → 0 ≤ u.2.1 40 j ∧ u.2.1 40 j ≤ 100) : Met l yX12_where wsX12_where ({ frames := 1, cells := 0, slots := 0, locals := 22 }) (va_Pc [.ref (ad 8), .int (zI p1)] (gB D cy ad jf A u)) (va_Qi (fun (r : Int32) (v : gS) => r = zI (mWhere u p1) ∧ v = u) (gB D cy ad jf A) A) 0 0 A := by
  refine Met.ofW (cc := cX12_where) (maxL := 2) (ret := (some .int)) (by decide) rfl ?_
  intro p e s m args below meth c s₁ B hml hv
  obtain ⟨rfl, hG, hC⟩ := hv
  have hx := B.exec
  have hb := B.bytes
  have hr := B.returns
  have hts := atoms_spec (ws := wsX12_where) B.pre
  have hown : s.vm.findClass RX12 = some m.cls := findClass_of_methodNamed B.named
  have hlocks := B.notSynchronized
  have hS : va_S A s.heap s.heap [] := va_S.rf
  have hl := lv_entry ([.ref (ad 8), .int (zI p1)]) (n := 2) (Nat.le_of_ble_eq_true rfl)
  rw [lg_entry_eq]
  generalize (lg_sl ([.ref (ad 8), .int (zI p1)]) ++ List.replicate (2 - (lg_sl ([.ref (ad 8), .int (zI p1)])).length) Slot.unset).toArray = ls at hl ⊢
  have hl : lv_has ls 2 [(0, .ref (ad 8)), (1, .int (zI p1))] := hl
  refine lv_iload_n hx hb dX12_where_0 rfl (lv_at hl 1 rfl) ?_
  refine z_iconst hx hb dX12_where_1 ?_
  refine z_bipush hx hb dX12_where_2 (by decide) ?_
  refine g_calli (va_runS (As := [.int (zI p1), .int (zI 0), .int (zI 100)]) (rest := []) ⟨hx, hb, hml, hown, hts⟩ (kX12_in l D cy ad jf A u p1 0 100 (by omega) (by omega) (by omega)) (va_cwS 3 hts gX12_where_X12_in rfl rfl rfl (by decide +kernel) ⟨by decide, by decide⟩) (g_preS hG hC hS) rfl rfl hl.1 rfl (lv_room (Nat.le_of_ble_eq_true rfl)) dX12_where_4 ⟨Nat.le_of_ble_eq_true rfl, Nat.le_of_ble_eq_true rfl⟩) hS (fun r1 u2 H locs p_3 hG hS => ?_)
  obtain ⟨⟨b4, rfl, q_5⟩, he_⟩ := p_3
  rw [he_] at hG; clear he_
  have hbb4 : 0 ≤ b4 ∧ b4 ≤ 1 := by rcases q_5 with ⟨h, _⟩ | ⟨h, _⟩ <;> omega
  refine z_if_ne (tgt := 12) hx hb dX12_where_7 (by decide) (by omega) (by omega) (fun c_6 => ?_) (fun c_6 => ?_)
  · refine lv_aload_n hx hb dX12_where_12 rfl (lv_at hl 0 rfl) ?_
    refine g_get (C := RX12) (T := TX12) (N := 42) (ci := 11) hx hb hts (fun _ h => (List.mem_cons_of_mem _ (List.mem_append_right _ h))) hown hC.1 hG 8 (by decide) rfl rfl 15 (by decide) (hts (.fieldLink RX12 51 "StraitSwimModel" "lastSwimmer" "I") (List.mem_cons_of_mem _ (List.mem_append_left _ (List.mem_of_getElem? (i := 0) rfl)))) (fun _ h9 => h9) rfl dX12_where_13 ?_
    refine z_iconst hx hb dX12_where_16 ?_
    refine z_icmp_eq (tgt := 30) hx hb dX12_where_17 (by decide) (by omega) (by omega) (by omega) (by omega) (fun c_7 => ?_) (fun c_7 => ?_)
    · refine z_bipush hx hb dX12_where_30 (by decide) ?_
      refine lv_goto (tgt := 52) hx hb dX12_where_32 (by decide) ?_
      exact W.iret (v := zI ((-3))) hx hb hr (fun t9 ht9_ hW => ⟨⟨zI ((-3)), u, rfl, (by refine ⟨?_, rfl⟩; unfold mWhere; (repeat (first | rw [if_pos (by omega)] | rw [if_neg (by omega)])); all_goals (first | rfl | (congr 1; omega) | (subst_vars; rfl))), gB.mk' hG hC hS ht9_ hW⟩, hS.F ht9_⟩) hS.2.2 dX12_where_52
    · refine lv_iload_n hx hb dX12_where_20 rfl (lv_at hl 1 rfl) ?_
      refine lv_aload_n hx hb dX12_where_21 rfl (lv_at hl 0 rfl) ?_
      refine g_get (C := RX12) (T := TX12) (N := 42) (ci := 11) hx hb hts (fun _ h => (List.mem_cons_of_mem _ (List.mem_append_right _ h))) hown hC.1 hG 8 (by decide) rfl rfl 13 (by decide) (hts (.fieldLink RX12 45 "StraitSwimModel" "quarters" "[I") (List.mem_cons_of_mem _ (List.mem_append_left _ (List.mem_of_getElem? (i := 1) rfl)))) (fun _ h9 => h9) rfl dX12_where_22 ?_
      refine z_iconst hx hb dX12_where_25 ?_
      refine g_iald (n := 2) hx hb hC.1 hG 40 (by decide) rfl (by omega) (by omega) (by decide) dX12_where_26 ?_
      rw [show Int.toNat 0 = 0 from rfl]
      have q_8 := i40 0 (by omega)
      refine z_icmp_le (tgt := 35) hx hb dX12_where_27 (by decide) (by omega) (by omega) (by omega) (by omega) (fun c_9 => ?_) (fun c_9 => ?_)
      · refine z_sipush hx hb dX12_where_35 (by decide) ?_
        refine lv_aload_n hx hb dX12_where_38 rfl (lv_at hl 0 rfl) ?_
        refine g_get (C := RX12) (T := TX12) (N := 42) (ci := 11) hx hb hts (fun _ h => (List.mem_cons_of_mem _ (List.mem_append_right _ h))) hown hC.1 hG 8 (by decide) rfl rfl 11 (by decide) (hts (.fieldLink RX12 39 "StraitSwimModel" "pathX" "[I") (List.mem_cons_of_mem _ (List.mem_append_left _ (List.mem_of_getElem? (i := 2) rfl)))) (fun _ h9 => h9) rfl dX12_where_39 ?_
        refine lv_iload_n hx hb dX12_where_42 rfl (lv_at hl 1 rfl) ?_
        refine g_iald (n := 202) hx hb hC.1 hG 38 (by decide) rfl (by omega) (by omega) (by decide) dX12_where_43 ?_
        have q_10 := i38 p1.toNat (by omega)
        refine z_imul hx hb dX12_where_44 ?_
        refine lv_aload_n hx hb dX12_where_45 rfl (lv_at hl 0 rfl) ?_
        refine g_get (C := RX12) (T := TX12) (N := 42) (ci := 11) hx hb hts (fun _ h => (List.mem_cons_of_mem _ (List.mem_append_right _ h))) hown hC.1 hG 8 (by decide) rfl rfl 12 (by decide) (hts (.fieldLink RX12 42 "StraitSwimModel" "pathY" "[I") (List.mem_cons_of_mem _ (List.mem_append_left _ (List.mem_of_getElem? (i := 3) rfl)))) (fun _ h9 => h9) rfl dX12_where_46 ?_
        refine lv_iload_n hx hb dX12_where_49 rfl (lv_at hl 1 rfl) ?_
        refine g_iald (n := 202) hx hb hC.1 hG 39 (by decide) rfl (by omega) (by omega) (by decide) dX12_where_50 ?_
        have q_11 := i39 p1.toNat (by omega)
        refine z_iadd hx hb dX12_where_51 ?_
        exact W.iret (v := zI ((1000 * (u.2.1 38 p1.toNat)) + (u.2.1 39 p1.toNat))) hx hb hr (fun t9 ht9_ hW => ⟨⟨zI ((1000 * (u.2.1 38 p1.toNat)) + (u.2.1 39 p1.toNat)), u, rfl, (by refine ⟨?_, rfl⟩; unfold mWhere; (repeat (first | rw [if_pos (by omega)] | rw [if_neg (by omega)])); all_goals (first | rfl | (congr 1; omega) | (subst_vars; rfl))), gB.mk' hG hC hS ht9_ hW⟩, hS.F ht9_⟩) hS.2.2 dX12_where_52
      · refine z_bipush hx hb dX12_where_30 (by decide) ?_
        refine lv_goto (tgt := 52) hx hb dX12_where_32 (by decide) ?_
        exact W.iret (v := zI ((-3))) hx hb hr (fun t9 ht9_ hW => ⟨⟨zI ((-3)), u, rfl, (by refine ⟨?_, rfl⟩; unfold mWhere; (repeat (first | rw [if_pos (by omega)] | rw [if_neg (by omega)])); all_goals (first | rfl | (congr 1; omega) | (subst_vars; rfl))), gB.mk' hG hC hS ht9_ hW⟩, hS.F ht9_⟩) hS.2.2 dX12_where_52
  · refine z_iconst hx hb dX12_where_10 ?_
    exact W.iret (v := zI ((-1))) hx hb hr (fun t9 ht9_ hW => ⟨⟨zI ((-1)), u, rfl, (by refine ⟨?_, rfl⟩; unfold mWhere; (repeat (first | rw [if_pos (by omega)] | rw [if_neg (by omega)])); all_goals (first | rfl | (congr 1; omega) | (subst_vars; rfl))), gB.mk' hG hC hS ht9_ hW⟩, hS.F ht9_⟩) hS.2.2 dX12_where_11
set_option maxHeartbeats 4000000 in
set_option maxRecDepth 100000 in
theorem kX12_ship (l : Launch) (D : va_G) (cy : Nat → ClassId) (ad : Nat → Nat) (jf : Nat → Int64) (A : Nat → Prop) (u : gS) (p1 p2 p3 p4 : Int) (j_p1 : -2147483648 ≤ p1 ∧ p1 < 2147483648) (j_p2 : -2147483648 ≤ p2 ∧ p2 < 2147483648) (j_p3 : -2147483648 ≤ p3 ∧ p3 < 2147483648) (j_p4 : -2147483648 ≤ p4 ∧ p4 < 2147483648) (i25 : 0 ≤ u.1 25 ∧ u.1 25 ≤ 8) : Met l yX12_ship wsX12_ship ({ frames := 2, cells := 0, slots := 0, locals := 43 }) (va_Pc [.ref (ad 8), .int (zI p1), .int (zI p2), .int (zI p3), .int (zI p4)] (gB D cy ad jf A u)) (va_Qi (fun (r : Int32) (v : gS) => r = zI (mShip u p1 p2 p3 p4).1 ∧ v = (mShip u p1 p2 p3 p4).2) (gB D cy ad jf A) A) 0 0 A := by
  refine Met.ofW (cc := cX12_ship) (maxL := 5) (ret := (some .int)) (by decide) rfl ?_
  intro p e s m args below meth c s₁ B hml hv
  obtain ⟨rfl, hG, hC⟩ := hv
  have hx := B.exec
  have hb := B.bytes
  have hr := B.returns
  have hts := atoms_spec (ws := wsX12_ship) B.pre
  have hown : s.vm.findClass RX12 = some m.cls := findClass_of_methodNamed B.named
  have hlocks := B.notSynchronized
  have hS : va_S A s.heap s.heap [] := va_S.rf
  have hl := lv_entry ([.ref (ad 8), .int (zI p1), .int (zI p2), .int (zI p3), .int (zI p4)]) (n := 5) (Nat.le_of_ble_eq_true rfl)
  rw [lg_entry_eq]
  generalize (lg_sl ([.ref (ad 8), .int (zI p1), .int (zI p2), .int (zI p3), .int (zI p4)]) ++ List.replicate (5 - (lg_sl ([.ref (ad 8), .int (zI p1), .int (zI p2), .int (zI p3), .int (zI p4)])).length) Slot.unset).toArray = ls at hl ⊢
  have hl : lv_has ls 5 [(0, .ref (ad 8)), (1, .int (zI p1)), (2, .int (zI p2)), (3, .int (zI p3)), (4, .int (zI p4))] := hl
  refine lv_iload_n hx hb dX12_ship_0 rfl (lv_at hl 1 rfl) ?_
  refine lv_iload_n hx hb dX12_ship_1 rfl (lv_at hl 2 rfl) ?_
  refine g_calli (va_runS (As := [.int (zI p1), .int (zI p2)]) (rest := []) ⟨hx, hb, hml, hown, hts⟩ (kX12_isPlace l D cy ad jf A u p1 p2 (by omega) (by omega)) (va_cwS 2 hts gX12_ship_X12_isPlace rfl rfl rfl (by decide +kernel) ⟨by decide, by decide⟩) (g_preS hG hC hS) rfl rfl hl.1 rfl (lv_room (Nat.le_of_ble_eq_true rfl)) dX12_ship_2 ⟨Nat.le_of_ble_eq_true rfl, Nat.le_of_ble_eq_true rfl⟩) hS (fun r1 u2 H locs p_3 hG hS => ?_)
  obtain ⟨⟨b4, rfl, q_5⟩, he_⟩ := p_3
  rw [he_] at hG; clear he_
  have hbb4 : 0 ≤ b4 ∧ b4 ≤ 1 := by rcases q_5 with ⟨h, _⟩ | ⟨h, _⟩ <;> omega
  refine z_if_eq (tgt := 31) hx hb dX12_ship_5 (by decide) (by omega) (by omega) (fun c_6 => ?_) (fun c_6 => ?_)
  · refine z_iconst hx hb dX12_ship_31 ?_
    exact W.iret (v := zI ((-1))) hx hb hr (fun t9 ht9_ hW => ⟨⟨zI ((-1)), u, rfl, (by skip; refine ⟨?_, ?_⟩ <;> unfold mShip <;> (repeat (first | rw [if_pos (by omega)] | rw [if_neg (by omega)])) <;> first | done | rfl | (congr 1; omega) | (subst_vars; rfl)), gB.mk' hG hC hS ht9_ hW⟩, hS.F ht9_⟩) hS.2.2 dX12_ship_32
  · refine lv_iload_n hx hb dX12_ship_8 rfl (lv_at hl 3 rfl) ?_
    refine z_bipush hx hb dX12_ship_9 (by decide) ?_
    refine z_bipush hx hb dX12_ship_11 (by decide) ?_
    refine g_calli (va_runS (As := [.int (zI p3), .int (zI ((-20))), .int (zI 20)]) (rest := []) ⟨hx, hb, hml, hown, hts⟩ (kX12_in l D cy ad jf A u p3 ((-20)) 20 (by omega) (by omega) (by omega)) (va_cwS 3 hts gX12_ship_X12_in rfl rfl rfl (by decide +kernel) ⟨by decide, by decide⟩) (g_preS hG hC hS) rfl rfl hl.1 rfl (lv_room (Nat.le_of_ble_eq_true rfl)) dX12_ship_13 ⟨Nat.le_of_ble_eq_true rfl, Nat.le_of_ble_eq_true rfl⟩) hS (fun r7 u8 H locs p_9 hG hS => ?_)
    obtain ⟨⟨b10, rfl, q_11⟩, he_⟩ := p_9
    rw [he_] at hG; clear he_
    have hbb10 : 0 ≤ b10 ∧ b10 ≤ 1 := by rcases q_11 with ⟨h, _⟩ | ⟨h, _⟩ <;> omega
    refine z_if_eq (tgt := 31) hx hb dX12_ship_16 (by decide) (by omega) (by omega) (fun c_12 => ?_) (fun c_12 => ?_)
    · refine z_iconst hx hb dX12_ship_31 ?_
      exact W.iret (v := zI ((-1))) hx hb hr (fun t9 ht9_ hW => ⟨⟨zI ((-1)), u, rfl, (by skip; refine ⟨?_, ?_⟩ <;> unfold mShip <;> (repeat (first | rw [if_pos (by omega)] | rw [if_neg (by omega)])) <;> first | done | rfl | (congr 1; omega) | (subst_vars; rfl)), gB.mk' hG hC hS ht9_ hW⟩, hS.F ht9_⟩) hS.2.2 dX12_ship_32
    · refine lv_iload hx hb dX12_ship_19 (lv_at hl 4 rfl) ?_
      refine z_bipush hx hb dX12_ship_21 (by decide) ?_
      refine z_bipush hx hb dX12_ship_23 (by decide) ?_
      refine g_calli (va_runS (As := [.int (zI p4), .int (zI ((-20))), .int (zI 20)]) (rest := []) ⟨hx, hb, hml, hown, hts⟩ (kX12_in l D cy ad jf A u p4 ((-20)) 20 (by omega) (by omega) (by omega)) (va_cwS 3 hts gX12_ship_X12_in rfl rfl rfl (by decide +kernel) ⟨by decide, by decide⟩) (g_preS hG hC hS) rfl rfl hl.1 rfl (lv_room (Nat.le_of_ble_eq_true rfl)) dX12_ship_25 ⟨Nat.le_of_ble_eq_true rfl, Nat.le_of_ble_eq_true rfl⟩) hS (fun r13 u14 H locs p_15 hG hS => ?_)
      obtain ⟨⟨b16, rfl, q_17⟩, he_⟩ := p_15
      rw [he_] at hG; clear he_
      have hbb16 : 0 ≤ b16 ∧ b16 ≤ 1 := by rcases q_17 with ⟨h, _⟩ | ⟨h, _⟩ <;> omega
      refine z_if_ne (tgt := 33) hx hb dX12_ship_28 (by decide) (by omega) (by omega) (fun c_18 => ?_) (fun c_18 => ?_)
      · refine lv_aload_n hx hb dX12_ship_33 rfl (lv_at hl 0 rfl) ?_
        refine g_get (C := RX12) (T := TX12) (N := 42) (ci := 11) hx hb hts (fun _ h => (List.mem_cons_of_mem _ (List.mem_append_right _ h))) hown hC.1 hG 8 (by decide) rfl rfl 16 (by decide) (hts (.fieldLink RX12 168 "StraitSwimModel" "ships" "I") (List.mem_cons_of_mem _ (List.mem_append_left _ (List.mem_of_getElem? (i := 0) rfl)))) (fun _ h9 => h9) rfl dX12_ship_34 ?_
        refine z_bipush hx hb dX12_ship_37 (by decide) ?_
        refine z_icmp_ne (tgt := 45) hx hb dX12_ship_39 (by decide) (by omega) (by omega) (by omega) (by omega) (fun c_19 => ?_) (fun c_19 => ?_)
        · refine lv_aload_n hx hb dX12_ship_45 rfl (lv_at hl 0 rfl) ?_
          refine g_get (C := RX12) (T := TX12) (N := 42) (ci := 11) hx hb hts (fun _ h => (List.mem_cons_of_mem _ (List.mem_append_right _ h))) hown hC.1 hG 8 (by decide) rfl rfl 17 (by decide) (hts (.fieldLink RX12 54 "StraitSwimModel" "shipX" "[I") (List.mem_cons_of_mem _ (List.mem_append_left _ (List.mem_of_getElem? (i := 1) rfl)))) (fun _ h9 => h9) rfl dX12_ship_46 ?_
          refine lv_aload_n hx hb dX12_ship_49 rfl (lv_at hl 0 rfl) ?_
          refine g_get (C := RX12) (T := TX12) (N := 42) (ci := 11) hx hb hts (fun _ h => (List.mem_cons_of_mem _ (List.mem_append_right _ h))) hown hC.1 hG 8 (by decide) rfl rfl 16 (by decide) (hts (.fieldLink RX12 168 "StraitSwimModel" "ships" "I") (List.mem_cons_of_mem _ (List.mem_append_left _ (List.mem_of_getElem? (i := 0) rfl)))) (fun _ h9 => h9) rfl dX12_ship_50 ?_
          refine lv_iload_n hx hb dX12_ship_53 rfl (lv_at hl 1 rfl) ?_
          refine g_iast (n := 8) hx hb hC.1 hG hS 42 (by decide) rfl rfl (by omega) (by omega) (by decide) dX12_ship_54 (fun u20 H locs hu20 hG hS => ?_)
          refine lv_aload_n hx hb dX12_ship_55 rfl (lv_at hl 0 rfl) ?_
          refine g_get (C := RX12) (T := TX12) (N := 42) (ci := 11) hx hb hts (fun _ h => (List.mem_cons_of_mem _ (List.mem_append_right _ h))) hown hC.1 hG 8 (by decide) rfl rfl 18 (by decide) (hts (.fieldLink RX12 57 "StraitSwimModel" "shipY" "[I") (List.mem_cons_of_mem _ (List.mem_append_left _ (List.mem_of_getElem? (i := 2) rfl)))) (fun _ h9 => h9) rfl dX12_ship_56 ?_
          refine lv_aload_n hx hb dX12_ship_59 rfl (lv_at hl 0 rfl) ?_
          refine g_get (C := RX12) (T := TX12) (N := 42) (ci := 11) hx hb hts (fun _ h => (List.mem_cons_of_mem _ (List.mem_append_right _ h))) hown hC.1 hG 8 (by decide) rfl rfl 16 (by decide) (hts (.fieldLink RX12 168 "StraitSwimModel" "ships" "I") (List.mem_cons_of_mem _ (List.mem_append_left _ (List.mem_of_getElem? (i := 0) rfl)))) (fun _ h9 => h9) rfl dX12_ship_60 ?_
          have e_21 : u20.1 25 = u.1 25 := by subst hu20; rfl
          rw [e_21]
          refine lv_iload_n hx hb dX12_ship_63 rfl (lv_at hl 2 rfl) ?_
          refine g_iast (n := 8) hx hb hC.1 hG hS 43 (by decide) rfl rfl (by omega) (by omega) (by decide) dX12_ship_64 (fun u22 H locs hu22 hG hS => ?_)
          refine lv_aload_n hx hb dX12_ship_65 rfl (lv_at hl 0 rfl) ?_
          refine g_get (C := RX12) (T := TX12) (N := 42) (ci := 11) hx hb hts (fun _ h => (List.mem_cons_of_mem _ (List.mem_append_right _ h))) hown hC.1 hG 8 (by decide) rfl rfl 19 (by decide) (hts (.fieldLink RX12 60 "StraitSwimModel" "shipEast" "[I") (List.mem_cons_of_mem _ (List.mem_append_left _ (List.mem_of_getElem? (i := 3) rfl)))) (fun _ h9 => h9) rfl dX12_ship_66 ?_
          refine lv_aload_n hx hb dX12_ship_69 rfl (lv_at hl 0 rfl) ?_
          refine g_get (C := RX12) (T := TX12) (N := 42) (ci := 11) hx hb hts (fun _ h => (List.mem_cons_of_mem _ (List.mem_append_right _ h))) hown hC.1 hG 8 (by decide) rfl rfl 16 (by decide) (hts (.fieldLink RX12 168 "StraitSwimModel" "ships" "I") (List.mem_cons_of_mem _ (List.mem_append_left _ (List.mem_of_getElem? (i := 0) rfl)))) (fun _ h9 => h9) rfl dX12_ship_70 ?_
          have e_23 : u22.1 25 = u.1 25 := by subst hu22; subst hu20; rfl
          rw [e_23]
          refine lv_iload_n hx hb dX12_ship_73 rfl (lv_at hl 3 rfl) ?_
          refine g_iast (n := 8) hx hb hC.1 hG hS 44 (by decide) rfl rfl (by omega) (by omega) (by decide) dX12_ship_74 (fun u24 H locs hu24 hG hS => ?_)
          refine lv_aload_n hx hb dX12_ship_75 rfl (lv_at hl 0 rfl) ?_
          refine g_get (C := RX12) (T := TX12) (N := 42) (ci := 11) hx hb hts (fun _ h => (List.mem_cons_of_mem _ (List.mem_append_right _ h))) hown hC.1 hG 8 (by decide) rfl rfl 20 (by decide) (hts (.fieldLink RX12 63 "StraitSwimModel" "shipNorth" "[I") (List.mem_cons_of_mem _ (List.mem_append_left _ (List.mem_of_getElem? (i := 4) rfl)))) (fun _ h9 => h9) rfl dX12_ship_76 ?_
          refine lv_aload_n hx hb dX12_ship_79 rfl (lv_at hl 0 rfl) ?_
          refine g_get (C := RX12) (T := TX12) (N := 42) (ci := 11) hx hb hts (fun _ h => (List.mem_cons_of_mem _ (List.mem_append_right _ h))) hown hC.1 hG 8 (by decide) rfl rfl 16 (by decide) (hts (.fieldLink RX12 168 "StraitSwimModel" "ships" "I") (List.mem_cons_of_mem _ (List.mem_append_left _ (List.mem_of_getElem? (i := 0) rfl)))) (fun _ h9 => h9) rfl dX12_ship_80 ?_
          have e_25 : u24.1 25 = u.1 25 := by subst hu24; subst hu22; subst hu20; rfl
          rw [e_25]
          refine lv_iload hx hb dX12_ship_83 (lv_at hl 4 rfl) ?_
          refine g_iast (n := 8) hx hb hC.1 hG hS 45 (by decide) rfl rfl (by omega) (by omega) (by decide) dX12_ship_85 (fun u26 H locs hu26 hG hS => ?_)
          refine lv_aload_n hx hb dX12_ship_86 rfl (lv_at hl 0 rfl) ?_
          refine lv_dup hx hb dX12_ship_87 rfl ?_
          refine g_get (C := RX12) (T := TX12) (N := 42) (ci := 11) hx hb hts (fun _ h => (List.mem_cons_of_mem _ (List.mem_append_right _ h))) hown hC.1 hG 8 (by decide) rfl rfl 16 (by decide) (hts (.fieldLink RX12 168 "StraitSwimModel" "ships" "I") (List.mem_cons_of_mem _ (List.mem_append_left _ (List.mem_of_getElem? (i := 0) rfl)))) (fun _ h9 => h9) rfl dX12_ship_88 ?_
          have e_27 : u26.1 25 = u.1 25 := by subst hu26; subst hu24; subst hu22; subst hu20; rfl
          rw [e_27]
          refine z_iconst hx hb dX12_ship_91 ?_
          refine z_iadd hx hb dX12_ship_92 ?_
          refine g_put (C := RX12) (T := TX12) (N := 42) (ci := 11) (ty := .int) hx hb hts (fun _ h => (List.mem_cons_of_mem _ (List.mem_append_right _ h))) tyX12 tyX12_ok nmX12 hown hC.1 hG hS 8 (by decide) rfl rfl 16 25 (by decide) (hts (.fieldLink RX12 168 "StraitSwimModel" "ships" "I") (List.mem_cons_of_mem _ (List.mem_append_left _ (List.mem_of_getElem? (i := 0) rfl)))) (fun _ h9 => h9) rfl (by decide +kernel) rfl rfl (Nat.le_of_ble_eq_true rfl) rfl (gO_25 ad _ _) dX12_ship_93 (fun u28 H locs hu28 hG hS => ?_)
          refine lv_aload_n hx hb dX12_ship_96 rfl (lv_at hl 0 rfl) ?_
          refine g_get (C := RX12) (T := TX12) (N := 42) (ci := 11) hx hb hts (fun _ h => (List.mem_cons_of_mem _ (List.mem_append_right _ h))) hown hC.1 hG 8 (by decide) rfl rfl 16 (by decide) (hts (.fieldLink RX12 168 "StraitSwimModel" "ships" "I") (List.mem_cons_of_mem _ (List.mem_append_left _ (List.mem_of_getElem? (i := 0) rfl)))) (fun _ h9 => h9) rfl dX12_ship_97 ?_
          have e_29 : u28.1 25 = (u.1 25) + 1 := by subst hu28; subst hu26; subst hu24; subst hu22; subst hu20; rfl
          rw [e_29]
          refine z_iconst hx hb dX12_ship_100 ?_
          refine z_isub hx hb dX12_ship_101 ?_
          exact W.iret (v := zI (((u.1 25) + 1) - 1)) hx hb hr (fun t9 ht9_ hW => ⟨⟨zI (((u.1 25) + 1) - 1), u28, rfl, (by subst hu28; subst hu26; subst hu24; subst hu22; subst hu20; refine ⟨?_, ?_⟩ <;> unfold mShip <;> (repeat (first | rw [if_pos (by omega)] | rw [if_neg (by omega)])) <;> first | done | rfl | (congr 1; omega) | (subst_vars; rfl)), gB.mk' hG hC hS ht9_ hW⟩, hS.F ht9_⟩) hS.2.2 dX12_ship_102
        · refine z_bipush hx hb dX12_ship_42 (by decide) ?_
          exact W.iret (v := zI ((-2))) hx hb hr (fun t9 ht9_ hW => ⟨⟨zI ((-2)), u, rfl, (by skip; refine ⟨?_, ?_⟩ <;> unfold mShip <;> (repeat (first | rw [if_pos (by omega)] | rw [if_neg (by omega)])) <;> first | done | rfl | (congr 1; omega) | (subst_vars; rfl)), gB.mk' hG hC hS ht9_ hW⟩, hS.F ht9_⟩) hS.2.2 dX12_ship_44
      · refine z_iconst hx hb dX12_ship_31 ?_
        exact W.iret (v := zI ((-1))) hx hb hr (fun t9 ht9_ hW => ⟨⟨zI ((-1)), u, rfl, (by skip; refine ⟨?_, ?_⟩ <;> unfold mShip <;> (repeat (first | rw [if_pos (by omega)] | rw [if_neg (by omega)])) <;> first | done | rfl | (congr 1; omega) | (subst_vars; rfl)), gB.mk' hG hC hS ht9_ hW⟩, hS.F ht9_⟩) hS.2.2 dX12_ship_32
set_option maxHeartbeats 4000000 in
set_option maxRecDepth 100000 in
theorem kX12_stroke (l : Launch) (D : va_G) (cy : Nat → ClassId) (ad : Nat → Nat) (jf : Nat → Int64) (A : Nat → Prop) (u : gS) (p1 : Int) (j_p1 : -2147483648 ≤ p1 ∧ p1 < 2147483648) (i26 : 0 ≤ u.1 26 ∧ u.1 26 ≤ 60) : Met l yX12_stroke wsX12_stroke ({ frames := 1, cells := 0, slots := 0, locals := 22 }) (va_Pc [.ref (ad 8), .int (zI p1)] (gB D cy ad jf A u)) (va_Qi (fun (r : Int32) (v : gS) => r = zI (mStroke u p1).1 ∧ v = (mStroke u p1).2) (gB D cy ad jf A) A) 0 0 A := by
  refine Met.ofW (cc := cX12_stroke) (maxL := 2) (ret := (some .int)) (by decide) rfl ?_
  intro p e s m args below meth c s₁ B hml hv
  obtain ⟨rfl, hG, hC⟩ := hv
  have hx := B.exec
  have hb := B.bytes
  have hr := B.returns
  have hts := atoms_spec (ws := wsX12_stroke) B.pre
  have hown : s.vm.findClass RX12 = some m.cls := findClass_of_methodNamed B.named
  have hlocks := B.notSynchronized
  have hS : va_S A s.heap s.heap [] := va_S.rf
  have hl := lv_entry ([.ref (ad 8), .int (zI p1)]) (n := 2) (Nat.le_of_ble_eq_true rfl)
  rw [lg_entry_eq]
  generalize (lg_sl ([.ref (ad 8), .int (zI p1)]) ++ List.replicate (2 - (lg_sl ([.ref (ad 8), .int (zI p1)])).length) Slot.unset).toArray = ls at hl ⊢
  have hl : lv_has ls 2 [(0, .ref (ad 8)), (1, .int (zI p1))] := hl
  refine lv_iload_n hx hb dX12_stroke_0 rfl (lv_at hl 1 rfl) ?_
  refine z_iconst hx hb dX12_stroke_1 ?_
  refine z_bipush hx hb dX12_stroke_2 (by decide) ?_
  refine g_calli (va_runS (As := [.int (zI p1), .int (zI 0), .int (zI 99)]) (rest := []) ⟨hx, hb, hml, hown, hts⟩ (kX12_in l D cy ad jf A u p1 0 99 (by omega) (by omega) (by omega)) (va_cwS 3 hts gX12_stroke_X12_in rfl rfl rfl (by decide +kernel) ⟨by decide, by decide⟩) (g_preS hG hC hS) rfl rfl hl.1 rfl (lv_room (Nat.le_of_ble_eq_true rfl)) dX12_stroke_4 ⟨Nat.le_of_ble_eq_true rfl, Nat.le_of_ble_eq_true rfl⟩) hS (fun r1 u2 H locs p_3 hG hS => ?_)
  obtain ⟨⟨b4, rfl, q_5⟩, he_⟩ := p_3
  rw [he_] at hG; clear he_
  have hbb4 : 0 ≤ b4 ∧ b4 ≤ 1 := by rcases q_5 with ⟨h, _⟩ | ⟨h, _⟩ <;> omega
  refine z_if_ne (tgt := 12) hx hb dX12_stroke_7 (by decide) (by omega) (by omega) (fun c_6 => ?_) (fun c_6 => ?_)
  · refine lv_aload_n hx hb dX12_stroke_12 rfl (lv_at hl 0 rfl) ?_
    refine g_get (C := RX12) (T := TX12) (N := 42) (ci := 11) hx hb hts (fun _ h => (List.mem_cons_of_mem _ (List.mem_append_right _ h))) hown hC.1 hG 8 (by decide) rfl rfl 21 (by decide) (hts (.fieldLink RX12 177 "StraitSwimModel" "counted" "I") (List.mem_cons_of_mem _ (List.mem_append_left _ (List.mem_of_getElem? (i := 0) rfl)))) (fun _ h9 => h9) rfl dX12_stroke_13 ?_
    refine z_bipush hx hb dX12_stroke_16 (by decide) ?_
    refine z_icmp_ne (tgt := 24) hx hb dX12_stroke_18 (by decide) (by omega) (by omega) (by omega) (by omega) (fun c_7 => ?_) (fun c_7 => ?_)
    · refine lv_aload_n hx hb dX12_stroke_24 rfl (lv_at hl 0 rfl) ?_
      refine g_get (C := RX12) (T := TX12) (N := 42) (ci := 11) hx hb hts (fun _ h => (List.mem_cons_of_mem _ (List.mem_append_right _ h))) hown hC.1 hG 8 (by decide) rfl rfl 22 (by decide) (hts (.fieldLink RX12 66 "StraitSwimModel" "counts" "[I") (List.mem_cons_of_mem _ (List.mem_append_left _ (List.mem_of_getElem? (i := 1) rfl)))) (fun _ h9 => h9) rfl dX12_stroke_25 ?_
      refine lv_aload_n hx hb dX12_stroke_28 rfl (lv_at hl 0 rfl) ?_
      refine g_get (C := RX12) (T := TX12) (N := 42) (ci := 11) hx hb hts (fun _ h => (List.mem_cons_of_mem _ (List.mem_append_right _ h))) hown hC.1 hG 8 (by decide) rfl rfl 21 (by decide) (hts (.fieldLink RX12 177 "StraitSwimModel" "counted" "I") (List.mem_cons_of_mem _ (List.mem_append_left _ (List.mem_of_getElem? (i := 0) rfl)))) (fun _ h9 => h9) rfl dX12_stroke_29 ?_
      refine lv_iload_n hx hb dX12_stroke_32 rfl (lv_at hl 1 rfl) ?_
      refine g_iast (n := 60) hx hb hC.1 hG hS 46 (by decide) rfl rfl (by omega) (by omega) (by decide) dX12_stroke_33 (fun u8 H locs hu8 hG hS => ?_)
      refine lv_aload_n hx hb dX12_stroke_34 rfl (lv_at hl 0 rfl) ?_
      refine lv_dup hx hb dX12_stroke_35 rfl ?_
      refine g_get (C := RX12) (T := TX12) (N := 42) (ci := 11) hx hb hts (fun _ h => (List.mem_cons_of_mem _ (List.mem_append_right _ h))) hown hC.1 hG 8 (by decide) rfl rfl 21 (by decide) (hts (.fieldLink RX12 177 "StraitSwimModel" "counted" "I") (List.mem_cons_of_mem _ (List.mem_append_left _ (List.mem_of_getElem? (i := 0) rfl)))) (fun _ h9 => h9) rfl dX12_stroke_36 ?_
      have e_9 : u8.1 26 = u.1 26 := by subst hu8; rfl
      rw [e_9]
      refine z_iconst hx hb dX12_stroke_39 ?_
      refine z_iadd hx hb dX12_stroke_40 ?_
      refine g_put (C := RX12) (T := TX12) (N := 42) (ci := 11) (ty := .int) hx hb hts (fun _ h => (List.mem_cons_of_mem _ (List.mem_append_right _ h))) tyX12 tyX12_ok nmX12 hown hC.1 hG hS 8 (by decide) rfl rfl 21 26 (by decide) (hts (.fieldLink RX12 177 "StraitSwimModel" "counted" "I") (List.mem_cons_of_mem _ (List.mem_append_left _ (List.mem_of_getElem? (i := 0) rfl)))) (fun _ h9 => h9) rfl (by decide +kernel) rfl rfl (Nat.le_of_ble_eq_true rfl) rfl (gO_26 ad _ _) dX12_stroke_41 (fun u10 H locs hu10 hG hS => ?_)
      refine lv_aload_n hx hb dX12_stroke_44 rfl (lv_at hl 0 rfl) ?_
      refine g_get (C := RX12) (T := TX12) (N := 42) (ci := 11) hx hb hts (fun _ h => (List.mem_cons_of_mem _ (List.mem_append_right _ h))) hown hC.1 hG 8 (by decide) rfl rfl 21 (by decide) (hts (.fieldLink RX12 177 "StraitSwimModel" "counted" "I") (List.mem_cons_of_mem _ (List.mem_append_left _ (List.mem_of_getElem? (i := 0) rfl)))) (fun _ h9 => h9) rfl dX12_stroke_45 ?_
      have e_11 : u10.1 26 = (u.1 26) + 1 := by subst hu10; subst hu8; rfl
      rw [e_11]
      exact W.iret (v := zI ((u.1 26) + 1)) hx hb hr (fun t9 ht9_ hW => ⟨⟨zI ((u.1 26) + 1), u10, rfl, (by subst hu10; subst hu8; refine ⟨?_, ?_⟩ <;> unfold mStroke <;> (repeat (first | rw [if_pos (by omega)] | rw [if_neg (by omega)])) <;> first | done | rfl | (congr 1; omega) | (subst_vars; rfl)), gB.mk' hG hC hS ht9_ hW⟩, hS.F ht9_⟩) hS.2.2 dX12_stroke_48
    · refine z_bipush hx hb dX12_stroke_21 (by decide) ?_
      exact W.iret (v := zI ((-2))) hx hb hr (fun t9 ht9_ hW => ⟨⟨zI ((-2)), u, rfl, (by skip; refine ⟨?_, ?_⟩ <;> unfold mStroke <;> (repeat (first | rw [if_pos (by omega)] | rw [if_neg (by omega)])) <;> first | done | rfl | (congr 1; omega) | (subst_vars; rfl)), gB.mk' hG hC hS ht9_ hW⟩, hS.F ht9_⟩) hS.2.2 dX12_stroke_23
  · refine z_iconst hx hb dX12_stroke_10 ?_
    exact W.iret (v := zI ((-1))) hx hb hr (fun t9 ht9_ hW => ⟨⟨zI ((-1)), u, rfl, (by skip; refine ⟨?_, ?_⟩ <;> unfold mStroke <;> (repeat (first | rw [if_pos (by omega)] | rw [if_neg (by omega)])) <;> first | done | rfl | (congr 1; omega) | (subst_vars; rfl)), gB.mk' hG hC hS ht9_ hW⟩, hS.F ht9_⟩) hS.2.2 dX12_stroke_11
set_option maxHeartbeats 4000000 in
set_option maxRecDepth 100000 in
theorem kX12_strokes (l : Launch) (D : va_G) (cy : Nat → ClassId) (ad : Nat → Nat) (jf : Nat → Int64) (A : Nat → Prop) (u : gS) (i26 : 0 ≤ u.1 26 ∧ u.1 26 ≤ 60) : Met l yX12_strokes wsX12_strokes ({ frames := 0, cells := 0, slots := 0, locals := 0 }) (va_Pc [.ref (ad 8)] (gB D cy ad jf A u)) (va_Qi (fun (r : Int32) (v : gS) => r = zI (u.1 26) ∧ v = sI u 26 0) (gB D cy ad jf A) A) 0 0 A := by
  refine Met.ofW (cc := cX12_strokes) (maxL := 2) (ret := (some .int)) (by decide) rfl ?_
  intro p e s m args below meth c s₁ B hml hv
  obtain ⟨rfl, hG, hC⟩ := hv
  have hx := B.exec
  have hb := B.bytes
  have hr := B.returns
  have hts := atoms_spec (ws := wsX12_strokes) B.pre
  have hown : s.vm.findClass RX12 = some m.cls := findClass_of_methodNamed B.named
  have hlocks := B.notSynchronized
  have hS : va_S A s.heap s.heap [] := va_S.rf
  have hl := lv_entry ([.ref (ad 8)]) (n := 2) (Nat.le_of_ble_eq_true rfl)
  rw [lg_entry_eq]
  generalize (lg_sl ([.ref (ad 8)]) ++ List.replicate (2 - (lg_sl ([.ref (ad 8)])).length) Slot.unset).toArray = ls at hl ⊢
  have hl : lv_has ls 2 [(0, .ref (ad 8))] := hl
  refine lv_aload_n hx hb dX12_strokes_0 rfl (lv_at hl 0 rfl) ?_
  refine g_get (C := RX12) (T := TX12) (N := 42) (ci := 11) hx hb hts (fun _ h => (List.mem_cons_of_mem _ (List.mem_append_right _ h))) hown hC.1 hG 8 (by decide) rfl rfl 21 (by decide) (hts (.fieldLink RX12 177 "StraitSwimModel" "counted" "I") (List.mem_cons_of_mem _ (List.mem_append_left _ (List.mem_of_getElem? (i := 0) rfl)))) (fun _ h9 => h9) rfl dX12_strokes_1 ?_
  refine lv_istore_n (lv' := [(1, .int (zI (u.1 26))), (0, .ref (ad 8))]) hx hb dX12_strokes_4 rfl hl (by decide) rfl (fun ls hl => ?_)
  refine lv_aload_n hx hb dX12_strokes_5 rfl (lv_at hl 1 rfl) ?_
  refine z_iconst hx hb dX12_strokes_6 ?_
  refine g_put (C := RX12) (T := TX12) (N := 42) (ci := 11) (ty := .int) hx hb hts (fun _ h => (List.mem_cons_of_mem _ (List.mem_append_right _ h))) tyX12 tyX12_ok nmX12 hown hC.1 hG hS 8 (by decide) rfl rfl 21 26 (by decide) (hts (.fieldLink RX12 177 "StraitSwimModel" "counted" "I") (List.mem_cons_of_mem _ (List.mem_append_left _ (List.mem_of_getElem? (i := 0) rfl)))) (fun _ h9 => h9) rfl (by decide +kernel) rfl rfl (Nat.le_of_ble_eq_true rfl) rfl (gO_26 ad _ _) dX12_strokes_7 (fun u1 H locs hu1 hG hS => ?_)
  refine lv_iload_n hx hb dX12_strokes_10 rfl (lv_at hl 0 rfl) ?_
  exact W.iret (v := zI (u.1 26)) hx hb hr (fun t9 ht9_ hW => ⟨⟨zI (u.1 26), u1, rfl, (by subst hu1; exact ⟨rfl, rfl⟩), gB.mk' hG hC hS ht9_ hW⟩, hS.F ht9_⟩) hS.2.2 dX12_strokes_11
set_option maxHeartbeats 4000000 in
set_option maxRecDepth 100000 in
theorem kX12_turn (l : Launch) (D : va_G) (cy : Nat → ClassId) (ad : Nat → Nat) (jf : Nat → Int64) (A : Nat → Prop) (u : gS) (p1 : Int) (j_p1 : -2147483648 ≤ p1 ∧ p1 < 2147483648) (i23 : 0 ≤ u.1 23 ∧ u.1 23 ≤ 10) (i27 : 0 ≤ u.1 27 ∧ u.1 27 ≤ 6) (i28 : 0 ≤ u.1 28 ∧ u.1 28 ≤ 40) : Met l yX12_turn wsX12_turn ({ frames := 2, cells := 0, slots := 0, locals := 43 }) (va_Pc [.ref (ad 8), .int (zI p1)] (gB D cy ad jf A u)) (va_Qi (fun (r : Int32) (v : gS) => r = zI (mTurn u p1).1 ∧ v = (mTurn u p1).2) (gB D cy ad jf A) A) 0 0 A := by
  refine Met.ofW (cc := cX12_turn) (maxL := 2) (ret := (some .int)) (by decide) rfl ?_
  intro p e s m args below meth c s₁ B hml hv
  obtain ⟨rfl, hG, hC⟩ := hv
  have hx := B.exec
  have hb := B.bytes
  have hr := B.returns
  have hts := atoms_spec (ws := wsX12_turn) B.pre
  have hown : s.vm.findClass RX12 = some m.cls := findClass_of_methodNamed B.named
  have hlocks := B.notSynchronized
  have hS : va_S A s.heap s.heap [] := va_S.rf
  have hl := lv_entry ([.ref (ad 8), .int (zI p1)]) (n := 2) (Nat.le_of_ble_eq_true rfl)
  rw [lg_entry_eq]
  generalize (lg_sl ([.ref (ad 8), .int (zI p1)]) ++ List.replicate (2 - (lg_sl ([.ref (ad 8), .int (zI p1)])).length) Slot.unset).toArray = ls at hl ⊢
  have hl : lv_has ls 2 [(0, .ref (ad 8)), (1, .int (zI p1))] := hl
  refine lv_aload_n hx hb dX12_turn_0 rfl (lv_at hl 0 rfl) ?_
  refine lv_iload_n hx hb dX12_turn_1 rfl (lv_at hl 1 rfl) ?_
  refine g_calli (va_runV (As := [.int (zI p1)]) (rest := []) ⟨hx, hb, hml, hown, hts⟩ (kX12_isSwimmer l D cy ad jf A u p1 (by omega) i23) (cwV 1 hts gX12_turn_X12_isSwimmer rfl rfl rfl (by decide +kernel) ⟨by decide, by decide⟩) (g_preV (C := RX12) hG hC hS 8 (by decide) rfl rfl) rfl rfl hl.1 rfl (lv_room (Nat.le_of_ble_eq_true rfl)) dX12_turn_2 ⟨Nat.le_of_ble_eq_true rfl, Nat.le_of_ble_eq_true rfl⟩) hS (fun r1 u2 H locs p_3 hG hS => ?_)
  obtain ⟨⟨b4, rfl, q_5⟩, he_⟩ := p_3
  rw [he_] at hG; clear he_
  have hbb4 : 0 ≤ b4 ∧ b4 ≤ 1 := by rcases q_5 with ⟨h, _⟩ | ⟨h, _⟩ <;> omega
  refine z_if_ne (tgt := 10) hx hb dX12_turn_5 (by decide) (by omega) (by omega) (fun c_6 => ?_) (fun c_6 => ?_)
  · refine lv_aload_n hx hb dX12_turn_10 rfl (lv_at hl 0 rfl) ?_
    refine g_get (C := RX12) (T := TX12) (N := 42) (ci := 11) hx hb hts (fun _ h => (List.mem_cons_of_mem _ (List.mem_append_right _ h))) hown hC.1 hG 8 (by decide) rfl rfl 25 (by decide) (hts (.fieldLink RX12 186 "StraitSwimModel" "turned" "I") (List.mem_cons_of_mem _ (List.mem_append_left _ (List.mem_of_getElem? (i := 0) rfl)))) (fun _ h9 => h9) rfl dX12_turn_11 ?_
    refine z_bipush hx hb dX12_turn_14 (by decide) ?_
    refine z_icmp_ne (tgt := 22) hx hb dX12_turn_16 (by decide) (by omega) (by omega) (by omega) (by omega) (fun c_7 => ?_) (fun c_7 => ?_)
    · refine lv_aload_n hx hb dX12_turn_22 rfl (lv_at hl 0 rfl) ?_
      refine g_get (C := RX12) (T := TX12) (N := 42) (ci := 11) hx hb hts (fun _ h => (List.mem_cons_of_mem _ (List.mem_append_right _ h))) hown hC.1 hG 8 (by decide) rfl rfl 23 (by decide) (hts (.fieldLink RX12 183 "StraitSwimModel" "ordered" "I") (List.mem_cons_of_mem _ (List.mem_append_left _ (List.mem_of_getElem? (i := 1) rfl)))) (fun _ h9 => h9) rfl dX12_turn_23 ?_
      refine z_if_ne (tgt := 32) hx hb dX12_turn_26 (by decide) (by omega) (by omega) (fun c_8 => ?_) (fun c_8 => ?_)
      · refine lv_aload_n hx hb dX12_turn_32 rfl (lv_at hl 0 rfl) ?_
        refine g_get (C := RX12) (T := TX12) (N := 42) (ci := 11) hx hb hts (fun _ h => (List.mem_cons_of_mem _ (List.mem_append_right _ h))) hown hC.1 hG 8 (by decide) rfl rfl 26 (by decide) (hts (.fieldLink RX12 72 "StraitSwimModel" "turns" "[I") (List.mem_cons_of_mem _ (List.mem_append_left _ (List.mem_of_getElem? (i := 2) rfl)))) (fun _ h9 => h9) rfl dX12_turn_33 ?_
        refine lv_aload_n hx hb dX12_turn_36 rfl (lv_at hl 0 rfl) ?_
        refine g_get (C := RX12) (T := TX12) (N := 42) (ci := 11) hx hb hts (fun _ h => (List.mem_cons_of_mem _ (List.mem_append_right _ h))) hown hC.1 hG 8 (by decide) rfl rfl 25 (by decide) (hts (.fieldLink RX12 186 "StraitSwimModel" "turned" "I") (List.mem_cons_of_mem _ (List.mem_append_left _ (List.mem_of_getElem? (i := 0) rfl)))) (fun _ h9 => h9) rfl dX12_turn_37 ?_
        refine lv_iload_n hx hb dX12_turn_40 rfl (lv_at hl 1 rfl) ?_
        refine g_iast (n := 40) hx hb hC.1 hG hS 48 (by decide) rfl rfl (by omega) (by omega) (by decide) dX12_turn_41 (fun u9 H locs hu9 hG hS => ?_)
        refine lv_aload_n hx hb dX12_turn_42 rfl (lv_at hl 0 rfl) ?_
        refine lv_dup hx hb dX12_turn_43 rfl ?_
        refine g_get (C := RX12) (T := TX12) (N := 42) (ci := 11) hx hb hts (fun _ h => (List.mem_cons_of_mem _ (List.mem_append_right _ h))) hown hC.1 hG 8 (by decide) rfl rfl 25 (by decide) (hts (.fieldLink RX12 186 "StraitSwimModel" "turned" "I") (List.mem_cons_of_mem _ (List.mem_append_left _ (List.mem_of_getElem? (i := 0) rfl)))) (fun _ h9 => h9) rfl dX12_turn_44 ?_
        have e_10 : u9.1 28 = u.1 28 := by subst hu9; rfl
        rw [e_10]
        refine z_iconst hx hb dX12_turn_47 ?_
        refine z_iadd hx hb dX12_turn_48 ?_
        refine g_put (C := RX12) (T := TX12) (N := 42) (ci := 11) (ty := .int) hx hb hts (fun _ h => (List.mem_cons_of_mem _ (List.mem_append_right _ h))) tyX12 tyX12_ok nmX12 hown hC.1 hG hS 8 (by decide) rfl rfl 25 28 (by decide) (hts (.fieldLink RX12 186 "StraitSwimModel" "turned" "I") (List.mem_cons_of_mem _ (List.mem_append_left _ (List.mem_of_getElem? (i := 0) rfl)))) (fun _ h9 => h9) rfl (by decide +kernel) rfl rfl (Nat.le_of_ble_eq_true rfl) rfl (gO_28 ad _ _) dX12_turn_49 (fun u11 H locs hu11 hG hS => ?_)
        refine lv_aload_n hx hb dX12_turn_52 rfl (lv_at hl 0 rfl) ?_
        refine g_get (C := RX12) (T := TX12) (N := 42) (ci := 11) hx hb hts (fun _ h => (List.mem_cons_of_mem _ (List.mem_append_right _ h))) hown hC.1 hG 8 (by decide) rfl rfl 25 (by decide) (hts (.fieldLink RX12 186 "StraitSwimModel" "turned" "I") (List.mem_cons_of_mem _ (List.mem_append_left _ (List.mem_of_getElem? (i := 0) rfl)))) (fun _ h9 => h9) rfl dX12_turn_53 ?_
        have e_12 : u11.1 28 = (u.1 28) + 1 := by subst hu11; subst hu9; rfl
        rw [e_12]
        exact W.iret (v := zI ((u.1 28) + 1)) hx hb hr (fun t9 ht9_ hW => ⟨⟨zI ((u.1 28) + 1), u11, rfl, (by subst hu11; subst hu9; refine ⟨?_, ?_⟩ <;> unfold mTurn <;> (repeat (first | rw [if_pos (by omega)] | rw [if_neg (by omega)])) <;> first | done | rfl | (congr 1; omega) | (subst_vars; rfl)), gB.mk' hG hC hS ht9_ hW⟩, hS.F ht9_⟩) hS.2.2 dX12_turn_56
      · refine z_bipush hx hb dX12_turn_29 (by decide) ?_
        exact W.iret (v := zI ((-3))) hx hb hr (fun t9 ht9_ hW => ⟨⟨zI ((-3)), u, rfl, (by skip; refine ⟨?_, ?_⟩ <;> unfold mTurn <;> (repeat (first | rw [if_pos (by omega)] | rw [if_neg (by omega)])) <;> first | done | rfl | (congr 1; omega) | (subst_vars; rfl)), gB.mk' hG hC hS ht9_ hW⟩, hS.F ht9_⟩) hS.2.2 dX12_turn_31
    · refine z_bipush hx hb dX12_turn_19 (by decide) ?_
      exact W.iret (v := zI ((-2))) hx hb hr (fun t9 ht9_ hW => ⟨⟨zI ((-2)), u, rfl, (by skip; refine ⟨?_, ?_⟩ <;> unfold mTurn <;> (repeat (first | rw [if_pos (by omega)] | rw [if_neg (by omega)])) <;> first | done | rfl | (congr 1; omega) | (subst_vars; rfl)), gB.mk' hG hC hS ht9_ hW⟩, hS.F ht9_⟩) hS.2.2 dX12_turn_21
  · refine z_iconst hx hb dX12_turn_8 ?_
    exact W.iret (v := zI ((-1))) hx hb hr (fun t9 ht9_ hW => ⟨⟨zI ((-1)), u, rfl, (by skip; refine ⟨?_, ?_⟩ <;> unfold mTurn <;> (repeat (first | rw [if_pos (by omega)] | rw [if_neg (by omega)])) <;> first | done | rfl | (congr 1; omega) | (subst_vars; rfl)), gB.mk' hG hC hS ht9_ hW⟩, hS.F ht9_⟩) hS.2.2 dX12_turn_9
set_option maxHeartbeats 4000000 in
set_option maxRecDepth 100000 in
theorem kX12_calm (l : Launch) (D : va_G) (cy : Nat → ClassId) (ad : Nat → Nat) (jf : Nat → Int64) (A : Nat → Prop) (u : gS) (p1 p2 : Int) (j_p1 : -2147483648 ≤ p1 ∧ p1 < 2147483648) (j_b : p2 = 0 ∨ p2 = 1) (i49 : ∀ j, j < 16 → u.2.1 49 j = 0 ∨ u.2.1 49 j = 1) : Met l yX12_calm wsX12_calm ({ frames := 1, cells := 0, slots := 0, locals := 22 }) (va_Pc [.ref (ad 8), .int (zI p1), .int (zI p2)] (gB D cy ad jf A u)) (va_Qi (fun (r : Int32) (v : gS) => r = zI (mCalm u p1 p2).1 ∧ v = (mCalm u p1 p2).2) (gB D cy ad jf A) A) 0 0 A := by
  refine Met.ofW (cc := cX12_calm) (maxL := 4) (ret := (some .int)) (by decide) rfl ?_
  intro p e s m args below meth c s₁ B hml hv
  obtain ⟨rfl, hG, hC⟩ := hv
  have hx := B.exec
  have hb := B.bytes
  have hr := B.returns
  have hts := atoms_spec (ws := wsX12_calm) B.pre
  have hown : s.vm.findClass RX12 = some m.cls := findClass_of_methodNamed B.named
  have hlocks := B.notSynchronized
  have hS : va_S A s.heap s.heap [] := va_S.rf
  have hl := lv_entry ([.ref (ad 8), .int (zI p1), .int (zI p2)]) (n := 4) (Nat.le_of_ble_eq_true rfl)
  rw [lg_entry_eq]
  generalize (lg_sl ([.ref (ad 8), .int (zI p1), .int (zI p2)]) ++ List.replicate (4 - (lg_sl ([.ref (ad 8), .int (zI p1), .int (zI p2)])).length) Slot.unset).toArray = ls at hl ⊢
  have hl : lv_has ls 4 [(0, .ref (ad 8)), (1, .int (zI p1)), (2, .int (zI p2))] := hl
  refine lv_iload_n hx hb dX12_calm_0 rfl (lv_at hl 1 rfl) ?_
  refine z_iconst hx hb dX12_calm_1 ?_
  refine z_bipush hx hb dX12_calm_2 (by decide) ?_
  refine g_calli (va_runS (As := [.int (zI p1), .int (zI 0), .int (zI 15)]) (rest := []) ⟨hx, hb, hml, hown, hts⟩ (kX12_in l D cy ad jf A u p1 0 15 (by omega) (by omega) (by omega)) (va_cwS 3 hts gX12_calm_X12_in rfl rfl rfl (by decide +kernel) ⟨by decide, by decide⟩) (g_preS hG hC hS) rfl rfl hl.1 rfl (lv_room (Nat.le_of_ble_eq_true rfl)) dX12_calm_4 ⟨Nat.le_of_ble_eq_true rfl, Nat.le_of_ble_eq_true rfl⟩) hS (fun r1 u2 H locs p_3 hG hS => ?_)
  obtain ⟨⟨b4, rfl, q_5⟩, he_⟩ := p_3
  rw [he_] at hG; clear he_
  have hbb4 : 0 ≤ b4 ∧ b4 ≤ 1 := by rcases q_5 with ⟨h, _⟩ | ⟨h, _⟩ <;> omega
  refine z_if_ne (tgt := 12) hx hb dX12_calm_7 (by decide) (by omega) (by omega) (fun c_6 => ?_) (fun c_6 => ?_)
  · refine lv_aload_n hx hb dX12_calm_12 rfl (lv_at hl 0 rfl) ?_
    refine g_get (C := RX12) (T := TX12) (N := 42) (ci := 11) hx hb hts (fun _ h => (List.mem_cons_of_mem _ (List.mem_append_right _ h))) hown hC.1 hG 8 (by decide) rfl rfl 27 (by decide) (hts (.fieldLink RX12 75 "StraitSwimModel" "calms" "[Z") (List.mem_cons_of_mem _ (List.mem_append_left _ (List.mem_of_getElem? (i := 0) rfl)))) (fun _ h9 => h9) rfl dX12_calm_13 ?_
    refine lv_iload_n hx hb dX12_calm_16 rfl (lv_at hl 1 rfl) ?_
    refine g_zald (n := 16) hx hb hC.1 hG 49 (by decide) rfl (by omega) (by omega) (by decide) dX12_calm_17 ?_
    have q_7 := i49 p1.toNat (by omega)
    refine lv_iload_n hx hb dX12_calm_18 rfl (lv_at hl 2 rfl) ?_
    refine z_icmp_eq (tgt := 26) hx hb dX12_calm_19 (by decide) (by omega) (by omega) (by omega) (by omega) (fun c_8 => ?_) (fun c_8 => ?_)
    · refine z_iconst hx hb dX12_calm_26 ?_
      refine lv_istore_n (lv' := [(3, .int (zI 0)), (0, .ref (ad 8)), (1, .int (zI p1)), (2, .int (zI p2))]) hx hb dX12_calm_27 rfl hl (by decide) rfl (fun ls hl => ?_)
      refine lv_aload_n hx hb dX12_calm_28 rfl (lv_at hl 1 rfl) ?_
      refine g_get (C := RX12) (T := TX12) (N := 42) (ci := 11) hx hb hts (fun _ h => (List.mem_cons_of_mem _ (List.mem_append_right _ h))) hown hC.1 hG 8 (by decide) rfl rfl 27 (by decide) (hts (.fieldLink RX12 75 "StraitSwimModel" "calms" "[Z") (List.mem_cons_of_mem _ (List.mem_append_left _ (List.mem_of_getElem? (i := 0) rfl)))) (fun _ h9 => h9) rfl dX12_calm_29 ?_
      refine lv_iload_n hx hb dX12_calm_32 rfl (lv_at hl 2 rfl) ?_
      refine lv_iload_n hx hb dX12_calm_33 rfl (lv_at hl 3 rfl) ?_
      refine g_zast (n := 16) hx hb hC.1 hG hS 49 (by decide) (by omega) rfl rfl (by omega) (by omega) (by decide) dX12_calm_34 (fun u9 H locs hu9 hG hS => ?_)
      refine lv_iload_n hx hb dX12_calm_35 rfl (lv_at hl 0 rfl) ?_
      exact W.iret (v := zI 0) hx hb hr (fun t9 ht9_ hW => ⟨⟨zI 0, u9, rfl, (by subst hu9; refine ⟨?_, ?_⟩ <;> unfold mCalm <;> (repeat (first | rw [if_pos (by omega)] | rw [if_neg (by omega)])) <;> first | done | rfl | (congr 1; omega) | (subst_vars; rfl)), gB.mk' hG hC hS ht9_ hW⟩, hS.F ht9_⟩) hS.2.2 dX12_calm_36
    · refine z_iconst hx hb dX12_calm_22 ?_
      refine lv_goto (tgt := 27) hx hb dX12_calm_23 (by decide) ?_
      refine lv_istore_n (lv' := [(3, .int (zI 1)), (0, .ref (ad 8)), (1, .int (zI p1)), (2, .int (zI p2))]) hx hb dX12_calm_27 rfl hl (by decide) rfl (fun ls hl => ?_)
      refine lv_aload_n hx hb dX12_calm_28 rfl (lv_at hl 1 rfl) ?_
      refine g_get (C := RX12) (T := TX12) (N := 42) (ci := 11) hx hb hts (fun _ h => (List.mem_cons_of_mem _ (List.mem_append_right _ h))) hown hC.1 hG 8 (by decide) rfl rfl 27 (by decide) (hts (.fieldLink RX12 75 "StraitSwimModel" "calms" "[Z") (List.mem_cons_of_mem _ (List.mem_append_left _ (List.mem_of_getElem? (i := 0) rfl)))) (fun _ h9 => h9) rfl dX12_calm_29 ?_
      refine lv_iload_n hx hb dX12_calm_32 rfl (lv_at hl 2 rfl) ?_
      refine lv_iload_n hx hb dX12_calm_33 rfl (lv_at hl 3 rfl) ?_
      refine g_zast (n := 16) hx hb hC.1 hG hS 49 (by decide) (by omega) rfl rfl (by omega) (by omega) (by decide) dX12_calm_34 (fun u10 H locs hu10 hG hS => ?_)
      refine lv_iload_n hx hb dX12_calm_35 rfl (lv_at hl 0 rfl) ?_
      exact W.iret (v := zI 1) hx hb hr (fun t9 ht9_ hW => ⟨⟨zI 1, u10, rfl, (by subst hu10; refine ⟨?_, ?_⟩ <;> unfold mCalm <;> (repeat (first | rw [if_pos (by omega)] | rw [if_neg (by omega)])) <;> first | done | rfl | (congr 1; omega) | (subst_vars; rfl)), gB.mk' hG hC hS ht9_ hW⟩, hS.F ht9_⟩) hS.2.2 dX12_calm_36
  · refine z_iconst hx hb dX12_calm_10 ?_
    exact W.iret (v := zI ((-1))) hx hb hr (fun t9 ht9_ hW => ⟨⟨zI ((-1)), u, rfl, (by skip; refine ⟨?_, ?_⟩ <;> unfold mCalm <;> (repeat (first | rw [if_pos (by omega)] | rw [if_neg (by omega)])) <;> first | done | rfl | (congr 1; omega) | (subst_vars; rfl)), gB.mk' hG hC hS ht9_ hW⟩, hS.F ht9_⟩) hS.2.2 dX12_calm_11
set_option maxHeartbeats 4000000 in
set_option maxRecDepth 100000 in
theorem kX12_slot (l : Launch) (D : va_G) (cy : Nat → ClassId) (ad : Nat → Nat) (jf : Nat → Int64) (A : Nat → Prop) (u : gS) (p1 p2 p3 p4 : Int) (j_p1 : -2147483648 ≤ p1 ∧ p1 < 2147483648) (j_p2 : -2147483648 ≤ p2 ∧ p2 < 2147483648) (j_p3 : -2147483648 ≤ p3 ∧ p3 < 2147483648) (j_p4 : -2147483648 ≤ p4 ∧ p4 < 2147483648) (i23 : 0 ≤ u.1 23 ∧ u.1 23 ≤ 10) (i51 : ∀ j, j < 10 → 0 ≤ u.2.1 51 j ∧ u.2.1 51 j ≤ 4) : Met l yX12_slot wsX12_slot ({ frames := 2, cells := 0, slots := 0, locals := 43 }) (va_Pc [.ref (ad 8), .int (zI p1), .int (zI p2), .int (zI p3), .int (zI p4)] (gB D cy ad jf A u)) (va_Qi (fun (r : Int32) (v : gS) => r = zI (mSlot u p1 p2 p3 p4).1 ∧ v = (mSlot u p1 p2 p3 p4).2) (gB D cy ad jf A) A) 0 0 A := by
  refine Met.ofW (cc := cX12_slot) (maxL := 6) (ret := (some .int)) (by decide) rfl ?_
  intro p e s m args below meth c s₁ B hml hv
  obtain ⟨rfl, hG, hC⟩ := hv
  have hx := B.exec
  have hb := B.bytes
  have hr := B.returns
  have hts := atoms_spec (ws := wsX12_slot) B.pre
  have hown : s.vm.findClass RX12 = some m.cls := findClass_of_methodNamed B.named
  have hlocks := B.notSynchronized
  have hS : va_S A s.heap s.heap [] := va_S.rf
  have hl := lv_entry ([.ref (ad 8), .int (zI p1), .int (zI p2), .int (zI p3), .int (zI p4)]) (n := 6) (Nat.le_of_ble_eq_true rfl)
  rw [lg_entry_eq]
  generalize (lg_sl ([.ref (ad 8), .int (zI p1), .int (zI p2), .int (zI p3), .int (zI p4)]) ++ List.replicate (6 - (lg_sl ([.ref (ad 8), .int (zI p1), .int (zI p2), .int (zI p3), .int (zI p4)])).length) Slot.unset).toArray = ls at hl ⊢
  have hl : lv_has ls 6 [(0, .ref (ad 8)), (1, .int (zI p1)), (2, .int (zI p2)), (3, .int (zI p3)), (4, .int (zI p4))] := hl
  refine lv_aload_n hx hb dX12_slot_0 rfl (lv_at hl 0 rfl) ?_
  refine lv_iload_n hx hb dX12_slot_1 rfl (lv_at hl 1 rfl) ?_
  refine g_calli (va_runV (As := [.int (zI p1)]) (rest := []) ⟨hx, hb, hml, hown, hts⟩ (kX12_isSwimmer l D cy ad jf A u p1 (by omega) i23) (cwV 1 hts gX12_slot_X12_isSwimmer rfl rfl rfl (by decide +kernel) ⟨by decide, by decide⟩) (g_preV (C := RX12) hG hC hS 8 (by decide) rfl rfl) rfl rfl hl.1 rfl (lv_room (Nat.le_of_ble_eq_true rfl)) dX12_slot_2 ⟨Nat.le_of_ble_eq_true rfl, Nat.le_of_ble_eq_true rfl⟩) hS (fun r1 u2 H locs p_3 hG hS => ?_)
  obtain ⟨⟨b4, rfl, q_5⟩, he_⟩ := p_3
  rw [he_] at hG; clear he_
  have hbb4 : 0 ≤ b4 ∧ b4 ≤ 1 := by rcases q_5 with ⟨h, _⟩ | ⟨h, _⟩ <;> omega
  refine z_if_eq (tgt := 37) hx hb dX12_slot_5 (by decide) (by omega) (by omega) (fun c_6 => ?_) (fun c_6 => ?_)
  · refine z_iconst hx hb dX12_slot_37 ?_
    exact W.iret (v := zI ((-1))) hx hb hr (fun t9 ht9_ hW => ⟨⟨zI ((-1)), u, rfl, (by skip; refine ⟨?_, ?_⟩ <;> unfold mSlot <;> (repeat (first | rw [if_pos (by omega)] | rw [if_neg (by omega)])) <;> first | done | rfl | (congr 1; omega) | (subst_vars; rfl)), gB.mk' hG hC hS ht9_ hW⟩, hS.F ht9_⟩) hS.2.2 dX12_slot_38
  · refine lv_iload_n hx hb dX12_slot_8 rfl (lv_at hl 2 rfl) ?_
    refine z_iconst hx hb dX12_slot_9 ?_
    refine z_iconst hx hb dX12_slot_10 ?_
    refine g_calli (va_runS (As := [.int (zI p2), .int (zI 0), .int (zI 3)]) (rest := []) ⟨hx, hb, hml, hown, hts⟩ (kX12_in l D cy ad jf A u p2 0 3 (by omega) (by omega) (by omega)) (va_cwS 3 hts gX12_slot_X12_in rfl rfl rfl (by decide +kernel) ⟨by decide, by decide⟩) (g_preS hG hC hS) rfl rfl hl.1 rfl (lv_room (Nat.le_of_ble_eq_true rfl)) dX12_slot_11 ⟨Nat.le_of_ble_eq_true rfl, Nat.le_of_ble_eq_true rfl⟩) hS (fun r7 u8 H locs p_9 hG hS => ?_)
    obtain ⟨⟨b10, rfl, q_11⟩, he_⟩ := p_9
    rw [he_] at hG; clear he_
    have hbb10 : 0 ≤ b10 ∧ b10 ≤ 1 := by rcases q_11 with ⟨h, _⟩ | ⟨h, _⟩ <;> omega
    refine z_if_eq (tgt := 37) hx hb dX12_slot_14 (by decide) (by omega) (by omega) (fun c_12 => ?_) (fun c_12 => ?_)
    · refine z_iconst hx hb dX12_slot_37 ?_
      exact W.iret (v := zI ((-1))) hx hb hr (fun t9 ht9_ hW => ⟨⟨zI ((-1)), u, rfl, (by skip; refine ⟨?_, ?_⟩ <;> unfold mSlot <;> (repeat (first | rw [if_pos (by omega)] | rw [if_neg (by omega)])) <;> first | done | rfl | (congr 1; omega) | (subst_vars; rfl)), gB.mk' hG hC hS ht9_ hW⟩, hS.F ht9_⟩) hS.2.2 dX12_slot_38
    · refine lv_iload_n hx hb dX12_slot_17 rfl (lv_at hl 3 rfl) ?_
      refine z_iconst hx hb dX12_slot_18 ?_
      refine z_iconst hx hb dX12_slot_19 ?_
      refine g_calli (va_runS (As := [.int (zI p3), .int (zI 1), .int (zI 4)]) (rest := []) ⟨hx, hb, hml, hown, hts⟩ (kX12_in l D cy ad jf A u p3 1 4 (by omega) (by omega) (by omega)) (va_cwS 3 hts gX12_slot_X12_in rfl rfl rfl (by decide +kernel) ⟨by decide, by decide⟩) (g_preS hG hC hS) rfl rfl hl.1 rfl (lv_room (Nat.le_of_ble_eq_true rfl)) dX12_slot_20 ⟨Nat.le_of_ble_eq_true rfl, Nat.le_of_ble_eq_true rfl⟩) hS (fun r13 u14 H locs p_15 hG hS => ?_)
      obtain ⟨⟨b16, rfl, q_17⟩, he_⟩ := p_15
      rw [he_] at hG; clear he_
      have hbb16 : 0 ≤ b16 ∧ b16 ≤ 1 := by rcases q_17 with ⟨h, _⟩ | ⟨h, _⟩ <;> omega
      refine z_if_eq (tgt := 37) hx hb dX12_slot_23 (by decide) (by omega) (by omega) (fun c_18 => ?_) (fun c_18 => ?_)
      · refine z_iconst hx hb dX12_slot_37 ?_
        exact W.iret (v := zI ((-1))) hx hb hr (fun t9 ht9_ hW => ⟨⟨zI ((-1)), u, rfl, (by skip; refine ⟨?_, ?_⟩ <;> unfold mSlot <;> (repeat (first | rw [if_pos (by omega)] | rw [if_neg (by omega)])) <;> first | done | rfl | (congr 1; omega) | (subst_vars; rfl)), gB.mk' hG hC hS ht9_ hW⟩, hS.F ht9_⟩) hS.2.2 dX12_slot_38
      · refine lv_iload hx hb dX12_slot_26 (lv_at hl 4 rfl) ?_
        refine z_iconst hx hb dX12_slot_28 ?_
        refine lv_ldc (v := zI 65535) hx hb hown (by rw [show zI 65535 = (65535 : Int32) by decide]; exact (hts (.constant RX12 189 (65535)) (List.mem_cons_of_mem _ (List.mem_append_left _ (List.mem_of_getElem? (i := 0) rfl))))) dX12_slot_29 ?_
        refine g_calli (va_runS (As := [.int (zI p4), .int (zI 0), .int (zI 65535)]) (rest := []) ⟨hx, hb, hml, hown, hts⟩ (kX12_in l D cy ad jf A u p4 0 65535 (by omega) (by omega) (by omega)) (va_cwS 3 hts gX12_slot_X12_in rfl rfl rfl (by decide +kernel) ⟨by decide, by decide⟩) (g_preS hG hC hS) rfl rfl hl.1 rfl (lv_room (Nat.le_of_ble_eq_true rfl)) dX12_slot_31 ⟨Nat.le_of_ble_eq_true rfl, Nat.le_of_ble_eq_true rfl⟩) hS (fun r19 u20 H locs p_21 hG hS => ?_)
        obtain ⟨⟨b22, rfl, q_23⟩, he_⟩ := p_21
        rw [he_] at hG; clear he_
        have hbb22 : 0 ≤ b22 ∧ b22 ≤ 1 := by rcases q_23 with ⟨h, _⟩ | ⟨h, _⟩ <;> omega
        refine z_if_ne (tgt := 39) hx hb dX12_slot_34 (by decide) (by omega) (by omega) (fun c_24 => ?_) (fun c_24 => ?_)
        · refine lv_aload_n hx hb dX12_slot_39 rfl (lv_at hl 0 rfl) ?_
          refine g_get (C := RX12) (T := TX12) (N := 42) (ci := 11) hx hb hts (fun _ h => (List.mem_cons_of_mem _ (List.mem_append_right _ h))) hown hC.1 hG 8 (by decide) rfl rfl 29 (by decide) (hts (.fieldLink RX12 81 "StraitSwimModel" "slots" "[I") (List.mem_cons_of_mem _ (List.mem_append_left _ (List.mem_of_getElem? (i := 1) rfl)))) (fun _ h9 => h9) rfl dX12_slot_40 ?_
          refine lv_iload_n hx hb dX12_slot_43 rfl (lv_at hl 1 rfl) ?_
          refine g_iald (n := 10) hx hb hC.1 hG 51 (by decide) rfl (by omega) (by omega) (by decide) dX12_slot_44 ?_
          have q_25 := i51 p1.toNat (by omega)
          refine z_if_ne (tgt := 52) hx hb dX12_slot_45 (by decide) (by omega) (by omega) (fun c_26 => ?_) (fun c_26 => ?_)
          · refine z_iconst hx hb dX12_slot_52 ?_
            refine lv_istore (lv' := [(5, .int (zI 0)), (0, .ref (ad 8)), (1, .int (zI p1)), (2, .int (zI p2)), (3, .int (zI p3)), (4, .int (zI p4))]) hx hb dX12_slot_53 hl (by decide) rfl (fun ls hl => ?_)
            refine lv_aload_n hx hb dX12_slot_55 rfl (lv_at hl 1 rfl) ?_
            refine g_get (C := RX12) (T := TX12) (N := 42) (ci := 11) hx hb hts (fun _ h => (List.mem_cons_of_mem _ (List.mem_append_right _ h))) hown hC.1 hG 8 (by decide) rfl rfl 28 (by decide) (hts (.fieldLink RX12 78 "StraitSwimModel" "pilots" "[I") (List.mem_cons_of_mem _ (List.mem_append_left _ (List.mem_of_getElem? (i := 2) rfl)))) (fun _ h9 => h9) rfl dX12_slot_56 ?_
            refine lv_iload_n hx hb dX12_slot_59 rfl (lv_at hl 2 rfl) ?_
            refine lv_iload_n hx hb dX12_slot_60 rfl (lv_at hl 3 rfl) ?_
            refine g_iast (n := 10) hx hb hC.1 hG hS 50 (by decide) rfl rfl (by omega) (by omega) (by decide) dX12_slot_61 (fun u27 H locs hu27 hG hS => ?_)
            refine lv_aload_n hx hb dX12_slot_62 rfl (lv_at hl 1 rfl) ?_
            refine g_get (C := RX12) (T := TX12) (N := 42) (ci := 11) hx hb hts (fun _ h => (List.mem_cons_of_mem _ (List.mem_append_right _ h))) hown hC.1 hG 8 (by decide) rfl rfl 29 (by decide) (hts (.fieldLink RX12 81 "StraitSwimModel" "slots" "[I") (List.mem_cons_of_mem _ (List.mem_append_left _ (List.mem_of_getElem? (i := 1) rfl)))) (fun _ h9 => h9) rfl dX12_slot_63 ?_
            refine lv_iload_n hx hb dX12_slot_66 rfl (lv_at hl 2 rfl) ?_
            refine lv_iload_n hx hb dX12_slot_67 rfl (lv_at hl 4 rfl) ?_
            refine g_iast (n := 10) hx hb hC.1 hG hS 51 (by decide) rfl rfl (by omega) (by omega) (by decide) dX12_slot_68 (fun u28 H locs hu28 hG hS => ?_)
            refine lv_aload_n hx hb dX12_slot_69 rfl (lv_at hl 1 rfl) ?_
            refine g_get (C := RX12) (T := TX12) (N := 42) (ci := 11) hx hb hts (fun _ h => (List.mem_cons_of_mem _ (List.mem_append_right _ h))) hown hC.1 hG 8 (by decide) rfl rfl 30 (by decide) (hts (.fieldLink RX12 84 "StraitSwimModel" "canOn" "[I") (List.mem_cons_of_mem _ (List.mem_append_left _ (List.mem_of_getElem? (i := 3) rfl)))) (fun _ h9 => h9) rfl dX12_slot_70 ?_
            refine lv_iload_n hx hb dX12_slot_73 rfl (lv_at hl 2 rfl) ?_
            refine lv_iload hx hb dX12_slot_74 (lv_at hl 5 rfl) ?_
            refine g_iast (n := 10) hx hb hC.1 hG hS 52 (by decide) rfl rfl (by omega) (by omega) (by decide) dX12_slot_76 (fun u29 H locs hu29 hG hS => ?_)
            refine lv_iload hx hb dX12_slot_77 (lv_at hl 0 rfl) ?_
            exact W.iret (v := zI 0) hx hb hr (fun t9 ht9_ hW => ⟨⟨zI 0, u29, rfl, (by subst hu29; subst hu28; subst hu27; refine ⟨?_, ?_⟩ <;> unfold mSlot <;> (repeat (first | rw [if_pos (by omega)] | rw [if_neg (by omega)])) <;> first | done | rfl | (congr 1; omega) | (subst_vars; rfl)), gB.mk' hG hC hS ht9_ hW⟩, hS.F ht9_⟩) hS.2.2 dX12_slot_79
          · refine z_iconst hx hb dX12_slot_48 ?_
            refine lv_goto (tgt := 53) hx hb dX12_slot_49 (by decide) ?_
            refine lv_istore (lv' := [(5, .int (zI 1)), (0, .ref (ad 8)), (1, .int (zI p1)), (2, .int (zI p2)), (3, .int (zI p3)), (4, .int (zI p4))]) hx hb dX12_slot_53 hl (by decide) rfl (fun ls hl => ?_)
            refine lv_aload_n hx hb dX12_slot_55 rfl (lv_at hl 1 rfl) ?_
            refine g_get (C := RX12) (T := TX12) (N := 42) (ci := 11) hx hb hts (fun _ h => (List.mem_cons_of_mem _ (List.mem_append_right _ h))) hown hC.1 hG 8 (by decide) rfl rfl 28 (by decide) (hts (.fieldLink RX12 78 "StraitSwimModel" "pilots" "[I") (List.mem_cons_of_mem _ (List.mem_append_left _ (List.mem_of_getElem? (i := 2) rfl)))) (fun _ h9 => h9) rfl dX12_slot_56 ?_
            refine lv_iload_n hx hb dX12_slot_59 rfl (lv_at hl 2 rfl) ?_
            refine lv_iload_n hx hb dX12_slot_60 rfl (lv_at hl 3 rfl) ?_
            refine g_iast (n := 10) hx hb hC.1 hG hS 50 (by decide) rfl rfl (by omega) (by omega) (by decide) dX12_slot_61 (fun u30 H locs hu30 hG hS => ?_)
            refine lv_aload_n hx hb dX12_slot_62 rfl (lv_at hl 1 rfl) ?_
            refine g_get (C := RX12) (T := TX12) (N := 42) (ci := 11) hx hb hts (fun _ h => (List.mem_cons_of_mem _ (List.mem_append_right _ h))) hown hC.1 hG 8 (by decide) rfl rfl 29 (by decide) (hts (.fieldLink RX12 81 "StraitSwimModel" "slots" "[I") (List.mem_cons_of_mem _ (List.mem_append_left _ (List.mem_of_getElem? (i := 1) rfl)))) (fun _ h9 => h9) rfl dX12_slot_63 ?_
            refine lv_iload_n hx hb dX12_slot_66 rfl (lv_at hl 2 rfl) ?_
            refine lv_iload_n hx hb dX12_slot_67 rfl (lv_at hl 4 rfl) ?_
            refine g_iast (n := 10) hx hb hC.1 hG hS 51 (by decide) rfl rfl (by omega) (by omega) (by decide) dX12_slot_68 (fun u31 H locs hu31 hG hS => ?_)
            refine lv_aload_n hx hb dX12_slot_69 rfl (lv_at hl 1 rfl) ?_
            refine g_get (C := RX12) (T := TX12) (N := 42) (ci := 11) hx hb hts (fun _ h => (List.mem_cons_of_mem _ (List.mem_append_right _ h))) hown hC.1 hG 8 (by decide) rfl rfl 30 (by decide) (hts (.fieldLink RX12 84 "StraitSwimModel" "canOn" "[I") (List.mem_cons_of_mem _ (List.mem_append_left _ (List.mem_of_getElem? (i := 3) rfl)))) (fun _ h9 => h9) rfl dX12_slot_70 ?_
            refine lv_iload_n hx hb dX12_slot_73 rfl (lv_at hl 2 rfl) ?_
            refine lv_iload hx hb dX12_slot_74 (lv_at hl 5 rfl) ?_
            refine g_iast (n := 10) hx hb hC.1 hG hS 52 (by decide) rfl rfl (by omega) (by omega) (by decide) dX12_slot_76 (fun u32 H locs hu32 hG hS => ?_)
            refine lv_iload hx hb dX12_slot_77 (lv_at hl 0 rfl) ?_
            exact W.iret (v := zI 1) hx hb hr (fun t9 ht9_ hW => ⟨⟨zI 1, u32, rfl, (by subst hu32; subst hu31; subst hu30; refine ⟨?_, ?_⟩ <;> unfold mSlot <;> (repeat (first | rw [if_pos (by omega)] | rw [if_neg (by omega)])) <;> first | done | rfl | (congr 1; omega) | (subst_vars; rfl)), gB.mk' hG hC hS ht9_ hW⟩, hS.F ht9_⟩) hS.2.2 dX12_slot_79
        · refine z_iconst hx hb dX12_slot_37 ?_
          exact W.iret (v := zI ((-1))) hx hb hr (fun t9 ht9_ hW => ⟨⟨zI ((-1)), u, rfl, (by skip; refine ⟨?_, ?_⟩ <;> unfold mSlot <;> (repeat (first | rw [if_pos (by omega)] | rw [if_neg (by omega)])) <;> first | done | rfl | (congr 1; omega) | (subst_vars; rfl)), gB.mk' hG hC hS ht9_ hW⟩, hS.F ht9_⟩) hS.2.2 dX12_slot_38
set_option maxHeartbeats 4000000 in
set_option maxRecDepth 100000 in
theorem kX12_weightOf (l : Launch) (D : va_G) (cy : Nat → ClassId) (ad : Nat → Nat) (jf : Nat → Int64) (A : Nat → Prop) (u : gS) (p1 : Int) (j_s : 0 ≤ p1 ∧ p1 ≤ 9) (i34 : ∀ j, j < 10 → 0 ≤ u.2.1 34 j ∧ u.2.1 34 j ≤ 3) (i35 : ∀ j, j < 10 → 0 ≤ u.2.1 35 j ∧ u.2.1 35 j ≤ 20) (i36 : ∀ j, j < 10 → 0 ≤ u.2.1 36 j ∧ u.2.1 36 j ≤ 400) (i37 : ∀ j, j < 10 → 0 ≤ u.2.1 37 j ∧ u.2.1 37 j ≤ 40) : Met l yX12_weightOf wsX12_weightOf ({ frames := 0, cells := 0, slots := 0, locals := 0 }) (va_Pc [.ref (ad 8), .int (zI p1)] (gB D cy ad jf A u)) (va_Qi (fun (r : Int32) (v : gS) => r = zI (spWeight (u.2.1 34 p1.toNat) (u.2.1 35 p1.toNat) (u.2.1 36 p1.toNat) (u.2.1 37 p1.toNat)) ∧ v = u) (gB D cy ad jf A) A) 0 0 A := by
  refine Met.ofW (cc := cX12_weightOf) (maxL := 3) (ret := (some .int)) (by decide) rfl ?_
  intro p e s m args below meth c s₁ B hml hv
  obtain ⟨rfl, hG, hC⟩ := hv
  have hx := B.exec
  have hb := B.bytes
  have hr := B.returns
  have hts := atoms_spec (ws := wsX12_weightOf) B.pre
  have hown : s.vm.findClass RX12 = some m.cls := findClass_of_methodNamed B.named
  have hlocks := B.notSynchronized
  have hS : va_S A s.heap s.heap [] := va_S.rf
  have hl := lv_entry ([.ref (ad 8), .int (zI p1)]) (n := 3) (Nat.le_of_ble_eq_true rfl)
  rw [lg_entry_eq]
  generalize (lg_sl ([.ref (ad 8), .int (zI p1)]) ++ List.replicate (3 - (lg_sl ([.ref (ad 8), .int (zI p1)])).length) Slot.unset).toArray = ls at hl ⊢
  have hl : lv_has ls 3 [(0, .ref (ad 8)), (1, .int (zI p1))] := hl
  refine z_bipush hx hb dX12_weightOf_0 (by decide) ?_
  refine lv_aload_n hx hb dX12_weightOf_2 rfl (lv_at hl 0 rfl) ?_
  refine g_get (C := RX12) (T := TX12) (N := 42) (ci := 11) hx hb hts (fun _ h => (List.mem_cons_of_mem _ (List.mem_append_right _ h))) hown hC.1 hG 8 (by decide) rfl rfl 8 (by decide) (hts (.fieldLink RX12 30 "StraitSwimModel" "speed" "[I") (List.mem_cons_of_mem _ (List.mem_append_left _ (List.mem_of_getElem? (i := 0) rfl)))) (fun _ h9 => h9) rfl dX12_weightOf_3 ?_
  refine lv_iload_n hx hb dX12_weightOf_6 rfl (lv_at hl 1 rfl) ?_
  refine g_iald (n := 10) hx hb hC.1 hG 35 (by decide) rfl (by omega) (by omega) (by decide) dX12_weightOf_7 ?_
  have q_1 := i35 p1.toNat (by omega)
  refine z_iadd hx hb dX12_weightOf_8 ?_
  refine lv_aload_n hx hb dX12_weightOf_9 rfl (lv_at hl 0 rfl) ?_
  refine g_get (C := RX12) (T := TX12) (N := 42) (ci := 11) hx hb hts (fun _ h => (List.mem_cons_of_mem _ (List.mem_append_right _ h))) hown hC.1 hG 8 (by decide) rfl rfl 10 (by decide) (hts (.fieldLink RX12 36 "StraitSwimModel" "feeds" "[I") (List.mem_cons_of_mem _ (List.mem_append_left _ (List.mem_of_getElem? (i := 1) rfl)))) (fun _ h9 => h9) rfl dX12_weightOf_10 ?_
  refine lv_iload_n hx hb dX12_weightOf_13 rfl (lv_at hl 1 rfl) ?_
  refine g_iald (n := 10) hx hb hC.1 hG 37 (by decide) rfl (by omega) (by omega) (by decide) dX12_weightOf_14 ?_
  have q_2 := i37 p1.toNat (by omega)
  refine z_iadd hx hb dX12_weightOf_15 ?_
  refine lv_istore_n (lv' := [(2, .int (zI ((10 + (u.2.1 35 p1.toNat)) + (u.2.1 37 p1.toNat)))), (0, .ref (ad 8)), (1, .int (zI p1))]) hx hb dX12_weightOf_16 rfl hl (by decide) rfl (fun ls hl => ?_)
  refine lv_aload_n hx hb dX12_weightOf_17 rfl (lv_at hl 1 rfl) ?_
  refine g_get (C := RX12) (T := TX12) (N := 42) (ci := 11) hx hb hts (fun _ h => (List.mem_cons_of_mem _ (List.mem_append_right _ h))) hown hC.1 hG 8 (by decide) rfl rfl 7 (by decide) (hts (.fieldLink RX12 27 "StraitSwimModel" "kind" "[I") (List.mem_cons_of_mem _ (List.mem_append_left _ (List.mem_of_getElem? (i := 2) rfl)))) (fun _ h9 => h9) rfl dX12_weightOf_18 ?_
  refine lv_iload_n hx hb dX12_weightOf_21 rfl (lv_at hl 2 rfl) ?_
  refine g_iald (n := 10) hx hb hC.1 hG 34 (by decide) rfl (by omega) (by omega) (by decide) dX12_weightOf_22 ?_
  have q_3 := i34 p1.toNat (by omega)
  refine z_if_ne (tgt := 30) hx hb dX12_weightOf_23 (by decide) (by omega) (by omega) (fun c_4 => ?_) (fun c_4 => ?_)
  · refine lv_aload_n hx hb dX12_weightOf_30 rfl (lv_at hl 1 rfl) ?_
    refine g_get (C := RX12) (T := TX12) (N := 42) (ci := 11) hx hb hts (fun _ h => (List.mem_cons_of_mem _ (List.mem_append_right _ h))) hown hC.1 hG 8 (by decide) rfl rfl 7 (by decide) (hts (.fieldLink RX12 27 "StraitSwimModel" "kind" "[I") (List.mem_cons_of_mem _ (List.mem_append_left _ (List.mem_of_getElem? (i := 2) rfl)))) (fun _ h9 => h9) rfl dX12_weightOf_31 ?_
    refine lv_iload_n hx hb dX12_weightOf_34 rfl (lv_at hl 2 rfl) ?_
    refine g_iald (n := 10) hx hb hC.1 hG 34 (by decide) rfl (by omega) (by omega) (by decide) dX12_weightOf_35 ?_
    have q_5 := i34 p1.toNat (by omega)
    refine z_iconst hx hb dX12_weightOf_36 ?_
    refine z_icmp_ne (tgt := 51) hx hb dX12_weightOf_37 (by decide) (by omega) (by omega) (by omega) (by omega) (fun c_6 => ?_) (fun c_6 => ?_)
    · refine lv_aload_n hx hb dX12_weightOf_51 rfl (lv_at hl 1 rfl) ?_
      refine g_get (C := RX12) (T := TX12) (N := 42) (ci := 11) hx hb hts (fun _ h => (List.mem_cons_of_mem _ (List.mem_append_right _ h))) hown hC.1 hG 8 (by decide) rfl rfl 7 (by decide) (hts (.fieldLink RX12 27 "StraitSwimModel" "kind" "[I") (List.mem_cons_of_mem _ (List.mem_append_left _ (List.mem_of_getElem? (i := 2) rfl)))) (fun _ h9 => h9) rfl dX12_weightOf_52 ?_
      refine lv_iload_n hx hb dX12_weightOf_55 rfl (lv_at hl 2 rfl) ?_
      refine g_iald (n := 10) hx hb hC.1 hG 34 (by decide) rfl (by omega) (by omega) (by decide) dX12_weightOf_56 ?_
      have q_7 := i34 p1.toNat (by omega)
      refine z_iconst hx hb dX12_weightOf_57 ?_
      refine z_icmp_ne (tgt := 68) hx hb dX12_weightOf_58 (by decide) (by omega) (by omega) (by omega) (by omega) (fun c_8 => ?_) (fun c_8 => ?_)
      · refine z_iconst hx hb dX12_weightOf_68 ?_
        refine lv_iload_n hx hb dX12_weightOf_69 rfl (lv_at hl 0 rfl) ?_
        refine z_bipush hx hb dX12_weightOf_70 (by decide) ?_
        refine z_iadd hx hb dX12_weightOf_72 ?_
        refine z_imul hx hb dX12_weightOf_73 ?_
        exact W.iret (v := zI (2 * (((10 + (u.2.1 35 p1.toNat)) + (u.2.1 37 p1.toNat)) + 100))) hx hb hr (fun t9 ht9_ hW => ⟨⟨zI (2 * (((10 + (u.2.1 35 p1.toNat)) + (u.2.1 37 p1.toNat)) + 100)), u, rfl, (by refine ⟨?_, rfl⟩; unfold spWeight; (repeat (first | rw [if_pos (by omega)] | rw [if_neg (by omega)])); all_goals (first | rfl | (congr 1; omega) | (subst_vars; rfl))), gB.mk' hG hC hS ht9_ hW⟩, hS.F ht9_⟩) hS.2.2 dX12_weightOf_74
      · refine lv_iload_n hx hb dX12_weightOf_61 rfl (lv_at hl 0 rfl) ?_
        refine z_bipush hx hb dX12_weightOf_62 (by decide) ?_
        refine z_iadd hx hb dX12_weightOf_64 ?_
        refine lv_goto (tgt := 74) hx hb dX12_weightOf_65 (by decide) ?_
        exact W.iret (v := zI (((10 + (u.2.1 35 p1.toNat)) + (u.2.1 37 p1.toNat)) + 100)) hx hb hr (fun t9 ht9_ hW => ⟨⟨zI (((10 + (u.2.1 35 p1.toNat)) + (u.2.1 37 p1.toNat)) + 100), u, rfl, (by refine ⟨?_, rfl⟩; unfold spWeight; (repeat (first | rw [if_pos (by omega)] | rw [if_neg (by omega)])); all_goals (first | rfl | (congr 1; omega) | (subst_vars; rfl))), gB.mk' hG hC hS ht9_ hW⟩, hS.F ht9_⟩) hS.2.2 dX12_weightOf_74
    · refine lv_iload_n hx hb dX12_weightOf_40 rfl (lv_at hl 0 rfl) ?_
      refine lv_aload_n hx hb dX12_weightOf_41 rfl (lv_at hl 1 rfl) ?_
      refine g_get (C := RX12) (T := TX12) (N := 42) (ci := 11) hx hb hts (fun _ h => (List.mem_cons_of_mem _ (List.mem_append_right _ h))) hown hC.1 hG 8 (by decide) rfl rfl 9 (by decide) (hts (.fieldLink RX12 33 "StraitSwimModel" "limit" "[I") (List.mem_cons_of_mem _ (List.mem_append_left _ (List.mem_of_getElem? (i := 3) rfl)))) (fun _ h9 => h9) rfl dX12_weightOf_42 ?_
      refine lv_iload_n hx hb dX12_weightOf_45 rfl (lv_at hl 2 rfl) ?_
      refine g_iald (n := 10) hx hb hC.1 hG 36 (by decide) rfl (by omega) (by omega) (by decide) dX12_weightOf_46 ?_
      have q_9 := i36 p1.toNat (by omega)
      refine z_iadd hx hb dX12_weightOf_47 ?_
      refine lv_goto (tgt := 74) hx hb dX12_weightOf_48 (by decide) ?_
      exact W.iret (v := zI (((10 + (u.2.1 35 p1.toNat)) + (u.2.1 37 p1.toNat)) + (u.2.1 36 p1.toNat))) hx hb hr (fun t9 ht9_ hW => ⟨⟨zI (((10 + (u.2.1 35 p1.toNat)) + (u.2.1 37 p1.toNat)) + (u.2.1 36 p1.toNat)), u, rfl, (by refine ⟨?_, rfl⟩; unfold spWeight; (repeat (first | rw [if_pos (by omega)] | rw [if_neg (by omega)])); all_goals (first | rfl | (congr 1; omega) | (subst_vars; rfl))), gB.mk' hG hC hS ht9_ hW⟩, hS.F ht9_⟩) hS.2.2 dX12_weightOf_74
  · refine lv_iload_n hx hb dX12_weightOf_26 rfl (lv_at hl 0 rfl) ?_
    refine lv_goto (tgt := 74) hx hb dX12_weightOf_27 (by decide) ?_
    exact W.iret (v := zI ((10 + (u.2.1 35 p1.toNat)) + (u.2.1 37 p1.toNat))) hx hb hr (fun t9 ht9_ hW => ⟨⟨zI ((10 + (u.2.1 35 p1.toNat)) + (u.2.1 37 p1.toNat)), u, rfl, (by refine ⟨?_, rfl⟩; unfold spWeight; (repeat (first | rw [if_pos (by omega)] | rw [if_neg (by omega)])); all_goals (first | rfl | (congr 1; omega) | (subst_vars; rfl))), gB.mk' hG hC hS ht9_ hW⟩, hS.F ht9_⟩) hS.2.2 dX12_weightOf_74
set_option maxHeartbeats 4000000 in
set_option maxRecDepth 100000 in
theorem kX12_noSwimmer (l : Launch) (D : va_G) (cy : Nat → ClassId) (ad : Nat → Nat) (jf : Nat → Int64) (A : Nat → Prop) (u : gS) (p1 : Int) (j_p1 : -2147483648 ≤ p1 ∧ p1 < 2147483648) (i58 : ∀ j, j < 8 → 0 ≤ u.2.1 58 j ∧ u.2.1 58 j ≤ 4) : Met l yX12_noSwimmer wsX12_noSwimmer ({ frames := 2, cells := 0, slots := 0, locals := 42 }) (va_Pc [.ref (ad 8), .int (zI p1)] (gB D cy ad jf A u)) (va_Qi (fun (r : Int32) (v : gS) => r = zI (mNoSw u p1) ∧ v = u) (gB D cy ad jf A) A) 0 0 A := by
  refine Met.ofW (cc := cX12_noSwimmer) (maxL := 2) (ret := (some .int)) (by decide) rfl ?_
  intro p e s m args below meth c s₁ B hml hv
  obtain ⟨rfl, hG, hC⟩ := hv
  have hx := B.exec
  have hb := B.bytes
  have hr := B.returns
  have hts := atoms_spec (ws := wsX12_noSwimmer) B.pre
  have hown : s.vm.findClass RX12 = some m.cls := findClass_of_methodNamed B.named
  have hlocks := B.notSynchronized
  have hS : va_S A s.heap s.heap [] := va_S.rf
  have hl := lv_entry ([.ref (ad 8), .int (zI p1)]) (n := 2) (Nat.le_of_ble_eq_true rfl)
  rw [lg_entry_eq]
  generalize (lg_sl ([.ref (ad 8), .int (zI p1)]) ++ List.replicate (2 - (lg_sl ([.ref (ad 8), .int (zI p1)])).length) Slot.unset).toArray = ls at hl ⊢
  have hl : lv_has ls 2 [(0, .ref (ad 8)), (1, .int (zI p1))] := hl
  refine lv_iload_n hx hb dX12_noSwimmer_0 rfl (lv_at hl 1 rfl) ?_
  refine g_calli (va_runS (As := [.int (zI p1)]) (rest := []) ⟨hx, hb, hml, hown, hts⟩ (kX12_isShelf l D cy ad jf A u p1 (by omega)) (va_cwS 1 hts gX12_noSwimmer_X12_isShelf rfl rfl rfl (by decide +kernel) ⟨by decide, by decide⟩) (g_preS hG hC hS) rfl rfl hl.1 rfl (lv_room (Nat.le_of_ble_eq_true rfl)) dX12_noSwimmer_1 ⟨Nat.le_of_ble_eq_true rfl, Nat.le_of_ble_eq_true rfl⟩) hS (fun r1 u2 H locs p_3 hG hS => ?_)
  obtain ⟨⟨b4, rfl, q_5⟩, he_⟩ := p_3
  rw [he_] at hG; clear he_
  have hbb4 : 0 ≤ b4 ∧ b4 ≤ 1 := by rcases q_5 with ⟨h, _⟩ | ⟨h, _⟩ <;> omega
  refine z_if_ne (tgt := 11) hx hb dX12_noSwimmer_4 (by decide) (by omega) (by omega) (fun c_6 => ?_) (fun c_6 => ?_)
  · refine lv_aload_n hx hb dX12_noSwimmer_11 rfl (lv_at hl 0 rfl) ?_
    refine g_get (C := RX12) (T := TX12) (N := 42) (ci := 11) hx hb hts (fun _ h => (List.mem_cons_of_mem _ (List.mem_append_right _ h))) hown hC.1 hG 8 (by decide) rfl rfl 36 (by decide) (hts (.fieldLink RX12 102 "StraitSwimModel" "held" "[I") (List.mem_cons_of_mem _ (List.mem_append_left _ (List.mem_of_getElem? (i := 0) rfl)))) (fun _ h9 => h9) rfl dX12_noSwimmer_12 ?_
    refine lv_iload_n hx hb dX12_noSwimmer_15 rfl (lv_at hl 1 rfl) ?_
    refine g_iald (n := 8) hx hb hC.1 hG 58 (by decide) rfl (by omega) (by omega) (by decide) dX12_noSwimmer_16 ?_
    have q_7 := i58 p1.toNat (by omega)
    refine z_if_ne (tgt := 25) hx hb dX12_noSwimmer_17 (by decide) (by omega) (by omega) (fun c_8 => ?_) (fun c_8 => ?_)
    · refine lv_aload_n hx hb dX12_noSwimmer_25 rfl (lv_at hl 0 rfl) ?_
      refine g_get (C := RX12) (T := TX12) (N := 42) (ci := 11) hx hb hts (fun _ h => (List.mem_cons_of_mem _ (List.mem_append_right _ h))) hown hC.1 hG 8 (by decide) rfl rfl 36 (by decide) (hts (.fieldLink RX12 102 "StraitSwimModel" "held" "[I") (List.mem_cons_of_mem _ (List.mem_append_left _ (List.mem_of_getElem? (i := 0) rfl)))) (fun _ h9 => h9) rfl dX12_noSwimmer_26 ?_
      refine lv_iload_n hx hb dX12_noSwimmer_29 rfl (lv_at hl 1 rfl) ?_
      refine g_iald (n := 8) hx hb hC.1 hG 58 (by decide) rfl (by omega) (by omega) (by decide) dX12_noSwimmer_30 ?_
      have q_9 := i58 p1.toNat (by omega)
      refine z_iconst hx hb dX12_noSwimmer_31 ?_
      refine z_icmp_eq (tgt := 40) hx hb dX12_noSwimmer_32 (by decide) (by omega) (by omega) (by omega) (by omega) (fun c_10 => ?_) (fun c_10 => ?_)
      · refine z_iconst hx hb dX12_noSwimmer_40 ?_
        exact W.iret (v := zI 0) hx hb hr (fun t9 ht9_ hW => ⟨⟨zI 0, u, rfl, (by refine ⟨?_, rfl⟩; unfold mNoSw; (repeat (first | rw [if_pos (by omega)] | rw [if_neg (by omega)])); all_goals (first | rfl | (congr 1; omega) | (subst_vars; rfl))), gB.mk' hG hC hS ht9_ hW⟩, hS.F ht9_⟩) hS.2.2 dX12_noSwimmer_41
      · refine z_bipush hx hb dX12_noSwimmer_35 (by decide) ?_
        refine lv_goto (tgt := 41) hx hb dX12_noSwimmer_37 (by decide) ?_
        exact W.iret (v := zI ((-12))) hx hb hr (fun t9 ht9_ hW => ⟨⟨zI ((-12)), u, rfl, (by refine ⟨?_, rfl⟩; unfold mNoSw; (repeat (first | rw [if_pos (by omega)] | rw [if_neg (by omega)])); all_goals (first | rfl | (congr 1; omega) | (subst_vars; rfl))), gB.mk' hG hC hS ht9_ hW⟩, hS.F ht9_⟩) hS.2.2 dX12_noSwimmer_41
    · refine z_bipush hx hb dX12_noSwimmer_20 (by decide) ?_
      refine lv_goto (tgt := 41) hx hb dX12_noSwimmer_22 (by decide) ?_
      exact W.iret (v := zI ((-11))) hx hb hr (fun t9 ht9_ hW => ⟨⟨zI ((-11)), u, rfl, (by refine ⟨?_, rfl⟩; unfold mNoSw; (repeat (first | rw [if_pos (by omega)] | rw [if_neg (by omega)])); all_goals (first | rfl | (congr 1; omega) | (subst_vars; rfl))), gB.mk' hG hC hS ht9_ hW⟩, hS.F ht9_⟩) hS.2.2 dX12_noSwimmer_41
  · refine z_iconst hx hb dX12_noSwimmer_7 ?_
    refine lv_goto (tgt := 41) hx hb dX12_noSwimmer_8 (by decide) ?_
    exact W.iret (v := zI ((-1))) hx hb hr (fun t9 ht9_ hW => ⟨⟨zI ((-1)), u, rfl, (by refine ⟨?_, rfl⟩; unfold mNoSw; (repeat (first | rw [if_pos (by omega)] | rw [if_neg (by omega)])); all_goals (first | rfl | (congr 1; omega) | (subst_vars; rfl))), gB.mk' hG hC hS ht9_ hW⟩, hS.F ht9_⟩) hS.2.2 dX12_noSwimmer_41
set_option maxHeartbeats 4000000 in
set_option maxRecDepth 100000 in
theorem kX12_weight (l : Launch) (D : va_G) (cy : Nat → ClassId) (ad : Nat → Nat) (jf : Nat → Int64) (A : Nat → Prop) (u : gS) (p1 : Int) (j_p1 : -2147483648 ≤ p1 ∧ p1 < 2147483648) (i58 : ∀ j, j < 8 → 0 ≤ u.2.1 58 j ∧ u.2.1 58 j ≤ 4) (i61 : ∀ j, j < 8 → 0 ≤ u.2.1 61 j ∧ u.2.1 61 j ≤ 100000) : Met l yX12_weight wsX12_weight ({ frames := 3, cells := 0, slots := 0, locals := 63 }) (va_Pc [.ref (ad 8), .int (zI p1)] (gB D cy ad jf A u)) (va_Qi (fun (r : Int32) (v : gS) => r = zI (mWeight u p1) ∧ v = u) (gB D cy ad jf A) A) 0 0 A := by
  refine Met.ofW (cc := cX12_weight) (maxL := 3) (ret := (some .int)) (by decide) rfl ?_
  intro p e s m args below meth c s₁ B hml hv
  obtain ⟨rfl, hG, hC⟩ := hv
  have hx := B.exec
  have hb := B.bytes
  have hr := B.returns
  have hts := atoms_spec (ws := wsX12_weight) B.pre
  have hown : s.vm.findClass RX12 = some m.cls := findClass_of_methodNamed B.named
  have hlocks := B.notSynchronized
  have hS : va_S A s.heap s.heap [] := va_S.rf
  have hl := lv_entry ([.ref (ad 8), .int (zI p1)]) (n := 3) (Nat.le_of_ble_eq_true rfl)
  rw [lg_entry_eq]
  generalize (lg_sl ([.ref (ad 8), .int (zI p1)]) ++ List.replicate (3 - (lg_sl ([.ref (ad 8), .int (zI p1)])).length) Slot.unset).toArray = ls at hl ⊢
  have hl : lv_has ls 3 [(0, .ref (ad 8)), (1, .int (zI p1))] := hl
  refine lv_aload_n hx hb dX12_weight_0 rfl (lv_at hl 0 rfl) ?_
  refine lv_iload_n hx hb dX12_weight_1 rfl (lv_at hl 1 rfl) ?_
  refine g_calli (va_runV (As := [.int (zI p1)]) (rest := []) ⟨hx, hb, hml, hown, hts⟩ (kX12_noSwimmer l D cy ad jf A u p1 (by omega) i58) (cwV 1 hts gX12_weight_X12_noSwimmer rfl rfl rfl (by decide +kernel) ⟨by decide, by decide⟩) (g_preV (C := RX12) hG hC hS 8 (by decide) rfl rfl) rfl rfl hl.1 rfl (lv_room (Nat.le_of_ble_eq_true rfl)) dX12_weight_2 ⟨Nat.le_of_ble_eq_true rfl, Nat.le_of_ble_eq_true rfl⟩) hS (fun r1 u2 H locs p_3 hG hS => ?_)
  obtain ⟨rfl, he_⟩ := p_3
  rw [he_] at hG; clear he_
  obtain ⟨z4, hz4⟩ : ∃ z : Int, z = mNoSw u p1 := ⟨_, rfl⟩
  rw [← hz4]
  have qz4 : -12 ≤ z4 ∧ z4 ≤ 0 ∧ (0 ≤ z4 → 0 ≤ p1 ∧ p1 ≤ 7) := by rw [hz4]; unfold mNoSw; (repeat split) <;> omega
  refine lv_istore_n (lv' := [(2, .int (zI z4)), (0, .ref (ad 8)), (1, .int (zI p1))]) hx hb dX12_weight_5 rfl hl (by decide) rfl (fun ls hl => ?_)
  refine lv_iload_n hx hb dX12_weight_6 rfl (lv_at hl 0 rfl) ?_
  refine z_if_ge (tgt := 14) hx hb dX12_weight_7 (by decide) (by omega) (by omega) (fun c_5 => ?_) (fun c_5 => ?_)
  · refine lv_aload_n hx hb dX12_weight_14 rfl (lv_at hl 1 rfl) ?_
    refine g_get (C := RX12) (T := TX12) (N := 42) (ci := 11) hx hb hts (fun _ h => (List.mem_cons_of_mem _ (List.mem_append_right _ h))) hown hC.1 hG 8 (by decide) rfl rfl 39 (by decide) (hts (.fieldLink RX12 111 "StraitSwimModel" "heldWeight" "[I") (List.mem_cons_of_mem _ (List.mem_append_left _ (List.mem_of_getElem? (i := 0) rfl)))) (fun _ h9 => h9) rfl dX12_weight_15 ?_
    refine lv_iload_n hx hb dX12_weight_18 rfl (lv_at hl 2 rfl) ?_
    refine g_iald (n := 8) hx hb hC.1 hG 61 (by decide) rfl (by omega) (by omega) (by decide) dX12_weight_19 ?_
    have q_6 := i61 p1.toNat (by omega)
    exact W.iret (v := zI (u.2.1 61 p1.toNat)) hx hb hr (fun t9 ht9_ hW => ⟨⟨zI (u.2.1 61 p1.toNat), u, rfl, (by refine ⟨?_, rfl⟩; unfold mWeight; subst_vars; (repeat (first | rw [if_pos (by assumption)] | rw [if_neg (by omega)])); all_goals rfl), gB.mk' hG hC hS ht9_ hW⟩, hS.F ht9_⟩) hS.2.2 dX12_weight_20
  · refine lv_iload_n hx hb dX12_weight_10 rfl (lv_at hl 0 rfl) ?_
    refine lv_goto (tgt := 20) hx hb dX12_weight_11 (by decide) ?_
    exact W.iret (v := zI z4) hx hb hr (fun t9 ht9_ hW => ⟨⟨zI z4, u, rfl, (by refine ⟨?_, rfl⟩; unfold mWeight; subst_vars; (repeat (first | rw [if_pos (by assumption)] | rw [if_neg (by omega)])); all_goals rfl), gB.mk' hG hC hS ht9_ hW⟩, hS.F ht9_⟩) hS.2.2 dX12_weight_20
set_option maxHeartbeats 4000000 in
set_option maxRecDepth 100000 in
theorem kX12_toss (l : Launch) (D : va_G) (cy : Nat → ClassId) (ad : Nat → Nat) (jf : Nat → Int64) (A : Nat → Prop) (u : gS) (p1 : Int) (j_p1 : -2147483648 ≤ p1 ∧ p1 < 2147483648) (i58 : ∀ j, j < 8 → 0 ≤ u.2.1 58 j ∧ u.2.1 58 j ≤ 4) (i59 : ∀ j, j < 8 → 0 ≤ u.2.1 59 j ∧ u.2.1 59 j ≤ 9) (i60 : ∀ j, j < 8 → 0 ≤ u.2.1 60 j ∧ u.2.1 60 j ≤ 3) : Met l yX12_toss wsX12_toss ({ frames := 3, cells := 0, slots := 0, locals := 63 }) (va_Pc [.ref (ad 8), .int (zI p1)] (gB D cy ad jf A u)) (va_Qi (fun (r : Int32) (v : gS) => r = zI (mToss u p1) ∧ v = u) (gB D cy ad jf A) A) 0 0 A := by
  refine Met.ofW (cc := cX12_toss) (maxL := 3) (ret := (some .int)) (by decide) rfl ?_
  intro p e s m args below meth c s₁ B hml hv
  obtain ⟨rfl, hG, hC⟩ := hv
  have hx := B.exec
  have hb := B.bytes
  have hr := B.returns
  have hts := atoms_spec (ws := wsX12_toss) B.pre
  have hown : s.vm.findClass RX12 = some m.cls := findClass_of_methodNamed B.named
  have hlocks := B.notSynchronized
  have hS : va_S A s.heap s.heap [] := va_S.rf
  have hl := lv_entry ([.ref (ad 8), .int (zI p1)]) (n := 3) (Nat.le_of_ble_eq_true rfl)
  rw [lg_entry_eq]
  generalize (lg_sl ([.ref (ad 8), .int (zI p1)]) ++ List.replicate (3 - (lg_sl ([.ref (ad 8), .int (zI p1)])).length) Slot.unset).toArray = ls at hl ⊢
  have hl : lv_has ls 3 [(0, .ref (ad 8)), (1, .int (zI p1))] := hl
  refine lv_aload_n hx hb dX12_toss_0 rfl (lv_at hl 0 rfl) ?_
  refine lv_iload_n hx hb dX12_toss_1 rfl (lv_at hl 1 rfl) ?_
  refine g_calli (va_runV (As := [.int (zI p1)]) (rest := []) ⟨hx, hb, hml, hown, hts⟩ (kX12_noSwimmer l D cy ad jf A u p1 (by omega) i58) (cwV 1 hts gX12_toss_X12_noSwimmer rfl rfl rfl (by decide +kernel) ⟨by decide, by decide⟩) (g_preV (C := RX12) hG hC hS 8 (by decide) rfl rfl) rfl rfl hl.1 rfl (lv_room (Nat.le_of_ble_eq_true rfl)) dX12_toss_2 ⟨Nat.le_of_ble_eq_true rfl, Nat.le_of_ble_eq_true rfl⟩) hS (fun r1 u2 H locs p_3 hG hS => ?_)
  obtain ⟨rfl, he_⟩ := p_3
  rw [he_] at hG; clear he_
  obtain ⟨z4, hz4⟩ : ∃ z : Int, z = mNoSw u p1 := ⟨_, rfl⟩
  rw [← hz4]
  have qz4 : -12 ≤ z4 ∧ z4 ≤ 0 ∧ (0 ≤ z4 → 0 ≤ p1 ∧ p1 ≤ 7) := by rw [hz4]; unfold mNoSw; (repeat split) <;> omega
  refine lv_istore_n (lv' := [(2, .int (zI z4)), (0, .ref (ad 8)), (1, .int (zI p1))]) hx hb dX12_toss_5 rfl hl (by decide) rfl (fun ls hl => ?_)
  refine lv_iload_n hx hb dX12_toss_6 rfl (lv_at hl 0 rfl) ?_
  refine z_if_ge (tgt := 14) hx hb dX12_toss_7 (by decide) (by omega) (by omega) (fun c_5 => ?_) (fun c_5 => ?_)
  · refine lv_aload_n hx hb dX12_toss_14 rfl (lv_at hl 1 rfl) ?_
    refine g_get (C := RX12) (T := TX12) (N := 42) (ci := 11) hx hb hts (fun _ h => (List.mem_cons_of_mem _ (List.mem_append_right _ h))) hown hC.1 hG 8 (by decide) rfl rfl 38 (by decide) (hts (.fieldLink RX12 108 "StraitSwimModel" "heldKind" "[I") (List.mem_cons_of_mem _ (List.mem_append_left _ (List.mem_of_getElem? (i := 0) rfl)))) (fun _ h9 => h9) rfl dX12_toss_15 ?_
    refine lv_iload_n hx hb dX12_toss_18 rfl (lv_at hl 2 rfl) ?_
    refine g_iald (n := 8) hx hb hC.1 hG 60 (by decide) rfl (by omega) (by omega) (by decide) dX12_toss_19 ?_
    have q_6 := i60 p1.toNat (by omega)
    refine z_if_ne (tgt := 28) hx hb dX12_toss_20 (by decide) (by omega) (by omega) (fun c_7 => ?_) (fun c_7 => ?_)
    · refine lv_aload_n hx hb dX12_toss_28 rfl (lv_at hl 1 rfl) ?_
      refine g_get (C := RX12) (T := TX12) (N := 42) (ci := 11) hx hb hts (fun _ h => (List.mem_cons_of_mem _ (List.mem_append_right _ h))) hown hC.1 hG 8 (by decide) rfl rfl 37 (by decide) (hts (.fieldLink RX12 105 "StraitSwimModel" "heldNumber" "[I") (List.mem_cons_of_mem _ (List.mem_append_left _ (List.mem_of_getElem? (i := 1) rfl)))) (fun _ h9 => h9) rfl dX12_toss_29 ?_
      refine lv_iload_n hx hb dX12_toss_32 rfl (lv_at hl 2 rfl) ?_
      refine g_iald (n := 8) hx hb hC.1 hG 59 (by decide) rfl (by omega) (by omega) (by decide) dX12_toss_33 ?_
      have q_8 := i59 p1.toNat (by omega)
      exact W.iret (v := zI (u.2.1 59 p1.toNat)) hx hb hr (fun t9 ht9_ hW => ⟨⟨zI (u.2.1 59 p1.toNat), u, rfl, (by refine ⟨?_, rfl⟩; unfold mToss; subst_vars; (repeat (first | rw [if_pos (by assumption)] | rw [if_pos (by omega)] | rw [if_neg (by omega)])); all_goals rfl), gB.mk' hG hC hS ht9_ hW⟩, hS.F ht9_⟩) hS.2.2 dX12_toss_34
    · refine z_bipush hx hb dX12_toss_23 (by decide) ?_
      refine lv_goto (tgt := 34) hx hb dX12_toss_25 (by decide) ?_
      exact W.iret (v := zI ((-15))) hx hb hr (fun t9 ht9_ hW => ⟨⟨zI ((-15)), u, rfl, (by refine ⟨?_, rfl⟩; unfold mToss; subst_vars; (repeat (first | rw [if_pos (by assumption)] | rw [if_pos (by omega)] | rw [if_neg (by omega)])); all_goals rfl), gB.mk' hG hC hS ht9_ hW⟩, hS.F ht9_⟩) hS.2.2 dX12_toss_34
  · refine lv_iload_n hx hb dX12_toss_10 rfl (lv_at hl 0 rfl) ?_
    refine lv_goto (tgt := 34) hx hb dX12_toss_11 (by decide) ?_
    exact W.iret (v := zI z4) hx hb hr (fun t9 ht9_ hW => ⟨⟨zI z4, u, rfl, (by refine ⟨?_, rfl⟩; unfold mToss; subst_vars; (repeat (first | rw [if_pos (by assumption)] | rw [if_pos (by omega)] | rw [if_neg (by omega)])); all_goals rfl), gB.mk' hG hC hS ht9_ hW⟩, hS.F ht9_⟩) hS.2.2 dX12_toss_34
set_option maxHeartbeats 4000000 in
set_option maxRecDepth 100000 in
theorem kX12_thrown (l : Launch) (D : va_G) (cy : Nat → ClassId) (ad : Nat → Nat) (jf : Nat → Int64) (A : Nat → Prop) (u : gS) : Met l yX12_thrown wsX12_thrown ({ frames := 0, cells := 0, slots := 0, locals := 0 }) (va_Pc [.ref (ad 8)] (gB D cy ad jf A u)) (va_Qi (fun (r : Int32) (v : gS) => r = zI (u.1 20) ∧ v = u) (gB D cy ad jf A) A) 0 0 A := by
  refine Met.ofW (cc := cX12_thrown) (maxL := 1) (ret := (some .int)) (by decide) rfl ?_
  intro p e s m args below meth c s₁ B hml hv
  obtain ⟨rfl, hG, hC⟩ := hv
  have hx := B.exec
  have hb := B.bytes
  have hr := B.returns
  have hts := atoms_spec (ws := wsX12_thrown) B.pre
  have hown : s.vm.findClass RX12 = some m.cls := findClass_of_methodNamed B.named
  have hlocks := B.notSynchronized
  have hS : va_S A s.heap s.heap [] := va_S.rf
  have hl := lv_entry ([.ref (ad 8)]) (n := 1) (Nat.le_of_ble_eq_true rfl)
  rw [lg_entry_eq]
  generalize (lg_sl ([.ref (ad 8)]) ++ List.replicate (1 - (lg_sl ([.ref (ad 8)])).length) Slot.unset).toArray = ls at hl ⊢
  have hl : lv_has ls 1 [(0, .ref (ad 8))] := hl
  refine lv_aload_n hx hb dX12_thrown_0 rfl (lv_at hl 0 rfl) ?_
  refine g_get (C := RX12) (T := TX12) (N := 42) (ci := 11) hx hb hts (fun _ h => (List.mem_cons_of_mem _ (List.mem_append_right _ h))) hown hC.1 hG 8 (by decide) rfl rfl 0 (by decide) (hts (.fieldLink RX12 120 "StraitSwimModel" "thrown" "I") (List.mem_cons_of_mem _ (List.mem_append_left _ (List.mem_of_getElem? (i := 0) rfl)))) (fun _ h9 => h9) rfl dX12_thrown_1 ?_
  exact W.iret (v := zI (u.1 20)) hx hb hr (fun t9 ht9_ hW => ⟨⟨zI (u.1 20), u, rfl, (by exact ⟨rfl, rfl⟩), gB.mk' hG hC hS ht9_ hW⟩, hS.F ht9_⟩) hS.2.2 dX12_thrown_4
