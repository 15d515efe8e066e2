set_option maxHeartbeats 4000000 in
set_option maxRecDepth 100000 in
theorem kX2_isOf (l : Launch) (D : va_G) (cy : Nat → ClassId) (ad : Nat → Nat) (jf : Nat → Int64) (A : Nat → Prop) (u : gS) (p1 p2 p3 : Int) (j_1 : 0 ≤ p1 ∧ p1 ≤ 9) (j_p2 : -2147483648 ≤ p2 ∧ p2 < 2147483648) (j_p3 : -2147483648 ≤ p3 ∧ p3 < 2147483648) (i25 : ∀ j, j < 10 → u.2.1 25 j = 0 ∨ u.2.1 25 j = 1) (i26 : ∀ j, j < 10 → 0 ≤ u.2.1 26 j ∧ u.2.1 26 j ≤ 3) : Met l yX2_isOf wsX2_isOf ({ frames := 0, cells := 0, slots := 0, locals := 0 }) (va_Pc [.ref (ad 7), .int (zI p1), .int (zI p2), .int (zI p3)] (gB D cy ad jf A u)) (va_Qi (fun (r : Int32) (v : gS) => (∃ b : Int, r = zI b ∧ (b = 1 ∧ u.2.1 25 p1.toNat = 1 ∧ u.2.1 26 p1.toNat = p2 ∧ bAnd (bShr p3 p1) 1 = 0 ∨ b = 0 ∧ ¬ (u.2.1 25 p1.toNat = 1 ∧ u.2.1 26 p1.toNat = p2 ∧ bAnd (bShr p3 p1) 1 = 0))) ∧ v = u) (gB D cy ad jf A) A) 0 0 A := by
  refine Met.ofW (cc := cX2_isOf) (maxL := 4) (ret := (some .boolean)) (by decide) rfl ?_
  intro p e s m args below meth c s₁ B hml hv
  obtain ⟨rfl, hG, hC⟩ := hv
  have hx := B.exec
  have hb := B.bytes
  have hr := B.returns
  have hts := atoms_spec (ws := wsX2_isOf) B.pre
  have hown : s.vm.findClass RX2 = some m.cls := findClass_of_methodNamed B.named
  have hlocks := B.notSynchronized
  have hS : va_S A s.heap s.heap [] := va_S.rf
  have hl := lv_entry ([.ref (ad 7), .int (zI p1), .int (zI p2), .int (zI p3)]) (n := 4) (Nat.le_of_ble_eq_true rfl)
  rw [lg_entry_eq]
  generalize (lg_sl ([.ref (ad 7), .int (zI p1), .int (zI p2), .int (zI p3)]) ++ List.replicate (4 - (lg_sl ([.ref (ad 7), .int (zI p1), .int (zI p2), .int (zI p3)])).length) Slot.unset).toArray = ls at hl ⊢
  have hl : lv_has ls 4 [(0, .ref (ad 7)), (1, .int (zI p1)), (2, .int (zI p2)), (3, .int (zI p3))] := hl
  refine lv_aload_n hx hb dX2_isOf_0 rfl (lv_at hl 0 rfl) ?_
  refine g_get (C := RX2) (T := TX2) (N := 7) (ci := 1) hx hb hts (fun _ h => (List.mem_cons_of_mem _ (List.mem_append_right _ h))) hown hC.1 hG 7 (by decide) rfl rfl 1 (by decide) (hts (.fieldLink RX2 15 "StraitSwim$Neap" "entered" "[Z") (List.mem_cons_of_mem _ (List.mem_append_left _ (List.mem_of_getElem? (i := 0) rfl)))) (fun _ h9 => h9) rfl dX2_isOf_1 ?_
  refine lv_iload_n hx hb dX2_isOf_4 rfl (lv_at hl 1 rfl) ?_
  refine g_zald (n := 10) hx hb hC.1 hG 25 (by decide) rfl (by omega) (by omega) (by decide) dX2_isOf_5 ?_
  have q_1 := i25 p1.toNat (by omega)
  refine z_if_eq (tgt := 31) hx hb dX2_isOf_6 (by decide) (by omega) (by omega) (fun c_2 => ?_) (fun c_2 => ?_)
  · refine z_iconst hx hb dX2_isOf_31 ?_
    exact W.zret (ty := .boolean) (v := zI 0) hx hb hr (nar_b (by omega)) (fun t9 ht9_ hW => ⟨⟨zI 0, u, rfl, (by exact ⟨⟨0, rfl, by omega⟩, rfl⟩), gB.mk' hG hC hS ht9_ hW⟩, hS.F ht9_⟩) hS.2.2 dX2_isOf_32
  · refine lv_aload_n hx hb dX2_isOf_9 rfl (lv_at hl 0 rfl) ?_
    refine g_get (C := RX2) (T := TX2) (N := 7) (ci := 1) hx hb hts (fun _ h => (List.mem_cons_of_mem _ (List.mem_append_right _ h))) hown hC.1 hG 7 (by decide) rfl rfl 2 (by decide) (hts (.fieldLink RX2 19 "StraitSwim$Neap" "pilots" "[I") (List.mem_cons_of_mem _ (List.mem_append_left _ (List.mem_of_getElem? (i := 1) rfl)))) (fun _ h9 => h9) rfl dX2_isOf_10 ?_
    refine lv_iload_n hx hb dX2_isOf_13 rfl (lv_at hl 1 rfl) ?_
    refine g_iald (n := 10) hx hb hC.1 hG 26 (by decide) rfl (by omega) (by omega) (by decide) dX2_isOf_14 ?_
    have q_3 := i26 p1.toNat (by omega)
    refine lv_iload_n hx hb dX2_isOf_15 rfl (lv_at hl 2 rfl) ?_
    refine z_icmp_ne (tgt := 31) hx hb dX2_isOf_16 (by decide) (by omega) (by omega) (by omega) (by omega) (fun c_4 => ?_) (fun c_4 => ?_)
    · refine z_iconst hx hb dX2_isOf_31 ?_
      exact W.zret (ty := .boolean) (v := zI 0) hx hb hr (nar_b (by omega)) (fun t9 ht9_ hW => ⟨⟨zI 0, u, rfl, (by exact ⟨⟨0, rfl, by omega⟩, rfl⟩), gB.mk' hG hC hS ht9_ hW⟩, hS.F ht9_⟩) hS.2.2 dX2_isOf_32
    · refine lv_iload_n hx hb dX2_isOf_19 rfl (lv_at hl 3 rfl) ?_
      refine lv_iload_n hx hb dX2_isOf_20 rfl (lv_at hl 1 rfl) ?_
      have q_5 := bShr_bnd p3 p1
      refine z_ishr hx hb dX2_isOf_21 ?_
      refine z_iconst hx hb dX2_isOf_22 ?_
      have q_6 := bAnd_bnd (bShr p3 p1) 1
      have q_7 := bAnd_1 (bShr p3 p1)
      refine z_iand hx hb dX2_isOf_23 ?_
      refine z_if_ne (tgt := 31) hx hb dX2_isOf_24 (by decide) (by omega) (by omega) (fun c_8 => ?_) (fun c_8 => ?_)
      · refine z_iconst hx hb dX2_isOf_31 ?_
        exact W.zret (ty := .boolean) (v := zI 0) hx hb hr (nar_b (by omega)) (fun t9 ht9_ hW => ⟨⟨zI 0, u, rfl, (by exact ⟨⟨0, rfl, by omega⟩, rfl⟩), gB.mk' hG hC hS ht9_ hW⟩, hS.F ht9_⟩) hS.2.2 dX2_isOf_32
      · refine z_iconst hx hb dX2_isOf_27 ?_
        refine lv_goto (tgt := 32) hx hb dX2_isOf_28 (by decide) ?_
        exact W.zret (ty := .boolean) (v := zI 1) hx hb hr (nar_b (by omega)) (fun t9 ht9_ hW => ⟨⟨zI 1, u, rfl, (by exact ⟨⟨1, rfl, by omega⟩, rfl⟩), gB.mk' hG hC hS ht9_ hW⟩, hS.F ht9_⟩) hS.2.2 dX2_isOf_32
set_option maxHeartbeats 4000000 in
set_option maxRecDepth 100000 in
theorem kX12_mayGo (l : Launch) (D : va_G) (cy : Nat → ClassId) (ad : Nat → Nat) (jf : Nat → Int64) (A : Nat → Prop) (u : gS) (p1 p2 p3 : Int) (j_1 : 0 ≤ p1 ∧ p1 ≤ 9) (j_2 : 0 ≤ p2 ∧ p2 ≤ 15) (j_p3 : -2147483648 ≤ p3 ∧ p3 < 2147483648) (i49 : ∀ j, j < 16 → u.2.1 49 j = 0 ∨ u.2.1 49 j = 1) (i50 : ∀ j, j < 10 → 0 ≤ u.2.1 50 j ∧ u.2.1 50 j ≤ 3) (i51 : ∀ j, j < 10 → 0 ≤ u.2.1 51 j ∧ u.2.1 51 j ≤ 4) : Met l yX12_mayGo wsX12_mayGo ({ frames := 0, cells := 0, slots := 0, locals := 0 }) (va_Pc [.ref (ad 8), .int (zI p1), .int (zI p2), .int (zI p3)] (gB D cy ad jf A u)) (va_Qi (fun (r : Int32) (v : gS) => (∃ b : Int, r = zI b ∧ (b = 1 ∧ 0 < u.2.1 51 p1.toNat ∧ u.2.1 50 p1.toNat = p3 ∧ u.2.1 49 p2.toNat = 1 ∧ bAnd (bShr (u.2.1 52 p1.toNat) p2) 1 = 1 ∨ b = 0 ∧ ¬ (0 < u.2.1 51 p1.toNat ∧ u.2.1 50 p1.toNat = p3 ∧ u.2.1 49 p2.toNat = 1 ∧ bAnd (bShr (u.2.1 52 p1.toNat) p2) 1 = 1))) ∧ v = u) (gB D cy ad jf A) A) 0 0 A := by
  refine Met.ofW (cc := cX12_mayGo) (maxL := 4) (ret := (some .boolean)) (by decide) rfl ?_
  intro p e s m args below meth c s₁ B hml hv
  obtain ⟨rfl, hG, hC⟩ := hv
  have hx := B.exec
  have hb := B.bytes
  have hr := B.returns
  have hts := atoms_spec (ws := wsX12_mayGo) B.pre
  have hown : s.vm.findClass RX12 = some m.cls := findClass_of_methodNamed B.named
  have hlocks := B.notSynchronized
  have hS : va_S A s.heap s.heap [] := va_S.rf
  have hl := lv_entry ([.ref (ad 8), .int (zI p1), .int (zI p2), .int (zI p3)]) (n := 4) (Nat.le_of_ble_eq_true rfl)
  rw [lg_entry_eq]
  generalize (lg_sl ([.ref (ad 8), .int (zI p1), .int (zI p2), .int (zI p3)]) ++ List.replicate (4 - (lg_sl ([.ref (ad 8), .int (zI p1), .int (zI p2), .int (zI p3)])).length) Slot.unset).toArray = ls at hl ⊢
  have hl : lv_has ls 4 [(0, .ref (ad 8)), (1, .int (zI p1)), (2, .int (zI p2)), (3, .int (zI p3))] := hl
  refine lv_aload_n hx hb dX12_mayGo_0 rfl (lv_at hl 0 rfl) ?_
  refine g_get (C := RX12) (T := TX12) (N := 42) (ci := 11) hx hb hts (fun _ h => (List.mem_cons_of_mem _ (List.mem_append_right _ h))) hown hC.1 hG 8 (by decide) rfl rfl 29 (by decide) (hts (.fieldLink RX12 81 "StraitSwimModel" "slots" "[I") (List.mem_cons_of_mem _ (List.mem_append_left _ (List.mem_of_getElem? (i := 0) rfl)))) (fun _ h9 => h9) rfl dX12_mayGo_1 ?_
  refine lv_iload_n hx hb dX12_mayGo_4 rfl (lv_at hl 1 rfl) ?_
  refine g_iald (n := 10) hx hb hC.1 hG 51 (by decide) rfl (by omega) (by omega) (by decide) dX12_mayGo_5 ?_
  have q_1 := i51 p1.toNat (by omega)
  refine z_if_le (tgt := 46) hx hb dX12_mayGo_6 (by decide) (by omega) (by omega) (fun c_2 => ?_) (fun c_2 => ?_)
  · refine z_iconst hx hb dX12_mayGo_46 ?_
    exact W.zret (ty := .boolean) (v := zI 0) hx hb hr (nar_b (by omega)) (fun t9 ht9_ hW => ⟨⟨zI 0, u, rfl, (by exact ⟨⟨0, rfl, by omega⟩, rfl⟩), gB.mk' hG hC hS ht9_ hW⟩, hS.F ht9_⟩) hS.2.2 dX12_mayGo_47
  · refine lv_aload_n hx hb dX12_mayGo_9 rfl (lv_at hl 0 rfl) ?_
    refine g_get (C := RX12) (T := TX12) (N := 42) (ci := 11) hx hb hts (fun _ h => (List.mem_cons_of_mem _ (List.mem_append_right _ h))) hown hC.1 hG 8 (by decide) rfl rfl 28 (by decide) (hts (.fieldLink RX12 78 "StraitSwimModel" "pilots" "[I") (List.mem_cons_of_mem _ (List.mem_append_left _ (List.mem_of_getElem? (i := 1) rfl)))) (fun _ h9 => h9) rfl dX12_mayGo_10 ?_
    refine lv_iload_n hx hb dX12_mayGo_13 rfl (lv_at hl 1 rfl) ?_
    refine g_iald (n := 10) hx hb hC.1 hG 50 (by decide) rfl (by omega) (by omega) (by decide) dX12_mayGo_14 ?_
    have q_3 := i50 p1.toNat (by omega)
    refine lv_iload_n hx hb dX12_mayGo_15 rfl (lv_at hl 3 rfl) ?_
    refine z_icmp_ne (tgt := 46) hx hb dX12_mayGo_16 (by decide) (by omega) (by omega) (by omega) (by omega) (fun c_4 => ?_) (fun c_4 => ?_)
    · refine z_iconst hx hb dX12_mayGo_46 ?_
      exact W.zret (ty := .boolean) (v := zI 0) hx hb hr (nar_b (by omega)) (fun t9 ht9_ hW => ⟨⟨zI 0, u, rfl, (by exact ⟨⟨0, rfl, by omega⟩, rfl⟩), gB.mk' hG hC hS ht9_ hW⟩, hS.F ht9_⟩) hS.2.2 dX12_mayGo_47
    · refine lv_aload_n hx hb dX12_mayGo_19 rfl (lv_at hl 0 rfl) ?_
      refine g_get (C := RX12) (T := TX12) (N := 42) (ci := 11) hx hb hts (fun _ h => (List.mem_cons_of_mem _ (List.mem_append_right _ h))) hown hC.1 hG 8 (by decide) rfl rfl 27 (by decide) (hts (.fieldLink RX12 75 "StraitSwimModel" "calms" "[Z") (List.mem_cons_of_mem _ (List.mem_append_left _ (List.mem_of_getElem? (i := 2) rfl)))) (fun _ h9 => h9) rfl dX12_mayGo_20 ?_
      refine lv_iload_n hx hb dX12_mayGo_23 rfl (lv_at hl 2 rfl) ?_
      refine g_zald (n := 16) hx hb hC.1 hG 49 (by decide) rfl (by omega) (by omega) (by decide) dX12_mayGo_24 ?_
      have q_5 := i49 p2.toNat (by omega)
      refine z_if_eq (tgt := 46) hx hb dX12_mayGo_25 (by decide) (by omega) (by omega) (fun c_6 => ?_) (fun c_6 => ?_)
      · refine z_iconst hx hb dX12_mayGo_46 ?_
        exact W.zret (ty := .boolean) (v := zI 0) hx hb hr (nar_b (by omega)) (fun t9 ht9_ hW => ⟨⟨zI 0, u, rfl, (by exact ⟨⟨0, rfl, by omega⟩, rfl⟩), gB.mk' hG hC hS ht9_ hW⟩, hS.F ht9_⟩) hS.2.2 dX12_mayGo_47
      · refine lv_aload_n hx hb dX12_mayGo_28 rfl (lv_at hl 0 rfl) ?_
        refine g_get (C := RX12) (T := TX12) (N := 42) (ci := 11) hx hb hts (fun _ h => (List.mem_cons_of_mem _ (List.mem_append_right _ h))) hown hC.1 hG 8 (by decide) rfl rfl 30 (by decide) (hts (.fieldLink RX12 84 "StraitSwimModel" "canOn" "[I") (List.mem_cons_of_mem _ (List.mem_append_left _ (List.mem_of_getElem? (i := 3) rfl)))) (fun _ h9 => h9) rfl dX12_mayGo_29 ?_
        refine lv_iload_n hx hb dX12_mayGo_32 rfl (lv_at hl 1 rfl) ?_
        refine g_iald (n := 10) hx hb hC.1 hG 52 (by decide) rfl (by omega) (by omega) (by decide) dX12_mayGo_33 ?_
        refine lv_iload_n hx hb dX12_mayGo_34 rfl (lv_at hl 2 rfl) ?_
        have q_7 := bShr_bnd (u.2.1 52 p1.toNat) p2
        refine z_ishr hx hb dX12_mayGo_35 ?_
        refine z_iconst hx hb dX12_mayGo_36 ?_
        have q_8 := bAnd_bnd (bShr (u.2.1 52 p1.toNat) p2) 1
        have q_9 := bAnd_1 (bShr (u.2.1 52 p1.toNat) p2)
        refine z_iand hx hb dX12_mayGo_37 ?_
        refine z_iconst hx hb dX12_mayGo_38 ?_
        refine z_icmp_ne (tgt := 46) hx hb dX12_mayGo_39 (by decide) (by omega) (by omega) (by omega) (by omega) (fun c_10 => ?_) (fun c_10 => ?_)
        · refine z_iconst hx hb dX12_mayGo_46 ?_
          exact W.zret (ty := .boolean) (v := zI 0) hx hb hr (nar_b (by omega)) (fun t9 ht9_ hW => ⟨⟨zI 0, u, rfl, (by exact ⟨⟨0, rfl, by omega⟩, rfl⟩), gB.mk' hG hC hS ht9_ hW⟩, hS.F ht9_⟩) hS.2.2 dX12_mayGo_47
        · refine z_iconst hx hb dX12_mayGo_42 ?_
          refine lv_goto (tgt := 47) hx hb dX12_mayGo_43 (by decide) ?_
          exact W.zret (ty := .boolean) (v := zI 1) hx hb hr (nar_b (by omega)) (fun t9 ht9_ hW => ⟨⟨zI 1, u, rfl, (by exact ⟨⟨1, rfl, by omega⟩, rfl⟩), gB.mk' hG hC hS ht9_ hW⟩, hS.F ht9_⟩) hS.2.2 dX12_mayGo_47
set_option maxHeartbeats 4000000 in
set_option maxRecDepth 100000 in
theorem kX11_orderDigit (l : Launch) (D : va_G) (cy : Nat → ClassId) (ad : Nat → Nat) (jf : Nat → Int64) (A : Nat → Prop) (u : gS) (p1 p2 : Int) (j_p1 : -2147483648 ≤ p1 ∧ p1 < 2147483648) (j_2 : 0 ≤ p2 ∧ p2 ≤ 6) : Met l yX11_orderDigit wsX11_orderDigit ({ frames := 0, cells := 0, slots := 0, locals := 0 }) (va_Pc [.int (zI p1), .int (zI p2)] (gB D cy ad jf A u)) (va_Qi (fun (r : Int32) (v : gS) => r = zI (bAnd (bUshr p1 (4 * p2)) 15) ∧ v = u) (gB D cy ad jf A) A) 0 0 A := by
  refine Met.ofW (cc := cX11_orderDigit) (maxL := 2) (ret := (some .int)) (by decide) rfl ?_
  intro p e s m args below meth c s₁ B hml hv
  obtain ⟨rfl, hG, hC⟩ := hv
  have hx := B.exec
  have hb := B.bytes
  have hr := B.returns
  have hts := atoms_spec (ws := wsX11_orderDigit) B.pre
  have hown : s.vm.findClass RX11 = some m.cls := findClass_of_methodNamed B.named
  have hlocks := B.notSynchronized
  have hS : va_S A s.heap s.heap [] := va_S.rf
  have hl := lv_entry ([.int (zI p1), .int (zI p2)]) (n := 2) (Nat.le_of_ble_eq_true rfl)
  rw [lg_entry_eq]
  generalize (lg_sl ([.int (zI p1), .int (zI p2)]) ++ List.replicate (2 - (lg_sl ([.int (zI p1), .int (zI p2)])).length) Slot.unset).toArray = ls at hl ⊢
  have hl : lv_has ls 2 [(0, .int (zI p1)), (1, .int (zI p2))] := hl
  refine lv_iload_n hx hb dX11_orderDigit_0 rfl (lv_at hl 0 rfl) ?_
  refine z_iconst hx hb dX11_orderDigit_1 ?_
  refine lv_iload_n hx hb dX11_orderDigit_2 rfl (lv_at hl 1 rfl) ?_
  refine z_imul hx hb dX11_orderDigit_3 ?_
  have q_1 := bUshr_bnd p1 (4 * p2)
  refine z_iushr hx hb dX11_orderDigit_4 ?_
  refine z_bipush hx hb dX11_orderDigit_5 (by decide) ?_
  have q_2 := bAnd_bnd (bUshr p1 (4 * p2)) 15
  have q_3 := bAnd_15 (bUshr p1 (4 * p2))
  refine z_iand hx hb dX11_orderDigit_7 ?_
  exact W.iret (v := zI (bAnd (bUshr p1 (4 * p2)) 15)) hx hb hr (fun t9 ht9_ hW => ⟨⟨zI (bAnd (bUshr p1 (4 * p2)) 15), u, rfl, (by exact ⟨rfl, rfl⟩), gB.mk' hG hC hS ht9_ hW⟩, hS.F ht9_⟩) hS.2.2 dX11_orderDigit_8
set_option maxHeartbeats 4000000 in
set_option maxRecDepth 100000 in
theorem kX11_orderSize (l : Launch) (D : va_G) (cy : Nat → ClassId) (ad : Nat → Nat) (jf : Nat → Int64) (A : Nat → Prop) (u : gS) (p1 : Int) (j_p1 : -2147483648 ≤ p1 ∧ p1 < 2147483648) (i0 : 0 ≤ u.1 0 ∧ u.1 0 ≤ 10) (K S9 L9 F9 : Nat → Int) (hsw : ∀ j : Nat, (j : Int) < u.1 0 → ∃ a, swAt u j a (K j) (S9 j) (L9 j) (F9 j)) : Met l yX11_orderSize wsX11_orderSize ({ frames := 2, cells := 0, slots := 0, locals := 43 }) (va_Pc [.ref (ad 0), .int (zI p1)] (gB D cy ad jf A u)) (va_Qi (fun (r : Int32) (v : gS) => r = zI (cOsz (u.1 0) p1 7 0 0) ∧ v = u) (gB D cy ad jf A) A) 0 0 A := by
  refine Met.ofW (cc := cX11_orderSize) (maxL := 5) (ret := (some .int)) (by decide) rfl ?_
  intro p e s m args below meth c s₁ B hml hv
  obtain ⟨rfl, hG, hC⟩ := hv
  have hx := B.exec
  have hb := B.bytes
  have hr := B.returns
  have hts := atoms_spec (ws := wsX11_orderSize) B.pre
  have hown : s.vm.findClass RX11 = some m.cls := findClass_of_methodNamed B.named
  have hlocks := B.notSynchronized
  have hS : va_S A s.heap s.heap [] := va_S.rf
  have hl := lv_entry ([.ref (ad 0), .int (zI p1)]) (n := 5) (Nat.le_of_ble_eq_true rfl)
  rw [lg_entry_eq]
  generalize (lg_sl ([.ref (ad 0), .int (zI p1)]) ++ List.replicate (5 - (lg_sl ([.ref (ad 0), .int (zI p1)])).length) Slot.unset).toArray = ls at hl ⊢
  have hl : lv_has ls 5 [(0, .ref (ad 0)), (1, .int (zI p1))] := hl
  refine z_iconst hx hb dX11_orderSize_0 ?_
  refine lv_istore_n (lv' := [(2, .int (zI 0)), (0, .ref (ad 0)), (1, .int (zI p1))]) hx hb dX11_orderSize_1 rfl hl (by decide) rfl (fun ls hl => ?_)
  refine z_iconst hx hb dX11_orderSize_2 ?_
  refine lv_istore_n (lv' := [(3, .int (zI 0)), (2, .int (zI 0)), (0, .ref (ad 0)), (1, .int (zI p1))]) hx hb dX11_orderSize_3 rfl hl (by decide) rfl (fun ls hl => ?_)
  have loop4 : ∀ (n : Nat) (told sz : Int) (H : Heap) (locs : List Loc) (ls : Array Slot), (6 - sz).toNat < n → (0 ≤ sz ∧ sz ≤ 6) → (-2147483648 ≤ told ∧ told < 2147483648) → (cOsz (u.1 0) p1 7 0 0 = cOsz (u.1 0) p1 n told sz) → gH D cy ad jf A u H → va_S A s.heap H locs → lv_has ls 5 [(3, .int (zI sz)), (2, .int (zI told)), (0, .ref (ad 0)), (1, .int (zI p1))] → W p l e (headSpec wsX11_orderSize ({ frames := 2, cells := 0, slots := 0, locals := 43 })).room s m ([.ref (ad 0), .int (zI p1)]).toArray below meth c H locs 0 0 (MQ below (va_Qi (fun (r : Int32) (v : gS) => r = zI (cOsz (u.1 0) p1 7 0 0) ∧ v = u) (gB D cy ad jf A) A) ([.ref (ad 0), .int (zI p1)]).toArray s 0 0 A) (F0 m 4 ls []) := by
    intro n
    induction n with
    | zero => intro told sz  H locs ls hm; exact absurd hm (Nat.not_lt_zero _)
    | succ n ih4 =>
      intro told sz  H locs ls hm hz9 ho9 hT hG hS hl
      refine lv_iload_n hx hb dX11_orderSize_4 rfl (lv_at hl 0 rfl) ?_
      refine z_bipush hx hb dX11_orderSize_5 (by decide) ?_
      refine z_icmp_ge (tgt := 60) hx hb dX11_orderSize_7 (by decide) (by omega) (by omega) (by omega) (by omega) (fun c_1 => ?_) (fun c_1 => ?_)
      · refine lv_iload_n hx hb dX11_orderSize_60 rfl (lv_at hl 3 rfl) ?_
        refine z_bipush hx hb dX11_orderSize_61 (by decide) ?_
        have q_2 := bUshr_bnd p1 24
        refine z_iushr hx hb dX11_orderSize_63 ?_
        refine z_if_ne (tgt := 71) hx hb dX11_orderSize_64 (by decide) (by omega) (by omega) (fun c_3 => ?_) (fun c_3 => ?_)
        · refine z_iconst hx hb dX11_orderSize_71 ?_
          exact W.iret (v := zI ((-1))) hx hb hr (fun t9 ht9_ hW => ⟨⟨zI ((-1)), u, rfl, (by refine ⟨?_, rfl⟩; rw [hT, cOsz]; (repeat (first | rw [if_pos (by omega)] | rw [if_neg (by omega)])); all_goals (first | rfl | (unfold cOszF; (repeat (first | rw [if_pos (by omega)] | rw [if_neg (by omega)])); all_goals rfl))), gB.mk' hG hC hS ht9_ hW⟩, hS.F ht9_⟩) hS.2.2 dX11_orderSize_72
        · refine lv_iload_n hx hb dX11_orderSize_67 rfl (lv_at hl 0 rfl) ?_
          refine lv_goto (tgt := 72) hx hb dX11_orderSize_68 (by decide) ?_
          exact W.iret (v := zI sz) hx hb hr (fun t9 ht9_ hW => ⟨⟨zI sz, u, rfl, (by refine ⟨?_, rfl⟩; rw [hT, cOsz]; (repeat (first | rw [if_pos (by omega)] | rw [if_neg (by omega)])); all_goals (first | rfl | (unfold cOszF; (repeat (first | rw [if_pos (by omega)] | rw [if_neg (by omega)])); all_goals rfl))), gB.mk' hG hC hS ht9_ hW⟩, hS.F ht9_⟩) hS.2.2 dX11_orderSize_72
      · refine lv_iload_n hx hb dX11_orderSize_10 rfl (lv_at hl 3 rfl) ?_
        refine z_iconst hx hb dX11_orderSize_11 ?_
        refine lv_iload_n hx hb dX11_orderSize_12 rfl (lv_at hl 0 rfl) ?_
        refine z_imul hx hb dX11_orderSize_13 ?_
        have q_4 := bUshr_bnd p1 (4 * sz)
        refine z_iushr hx hb dX11_orderSize_14 ?_
        refine z_if_eq (tgt := 60) hx hb dX11_orderSize_15 (by decide) (by omega) (by omega) (fun c_5 => ?_) (fun c_5 => ?_)
        · refine lv_iload_n hx hb dX11_orderSize_60 rfl (lv_at hl 3 rfl) ?_
          refine z_bipush hx hb dX11_orderSize_61 (by decide) ?_
          have q_6 := bUshr_bnd p1 24
          refine z_iushr hx hb dX11_orderSize_63 ?_
          refine z_if_ne (tgt := 71) hx hb dX11_orderSize_64 (by decide) (by omega) (by omega) (fun c_7 => ?_) (fun c_7 => ?_)
          · refine z_iconst hx hb dX11_orderSize_71 ?_
            exact W.iret (v := zI ((-1))) hx hb hr (fun t9 ht9_ hW => ⟨⟨zI ((-1)), u, rfl, (by refine ⟨?_, rfl⟩; rw [hT, cOsz]; (repeat (first | rw [if_pos (by omega)] | rw [if_neg (by omega)])); all_goals (first | rfl | (unfold cOszF; (repeat (first | rw [if_pos (by omega)] | rw [if_neg (by omega)])); all_goals rfl))), gB.mk' hG hC hS ht9_ hW⟩, hS.F ht9_⟩) hS.2.2 dX11_orderSize_72
          · refine lv_iload_n hx hb dX11_orderSize_67 rfl (lv_at hl 0 rfl) ?_
            refine lv_goto (tgt := 72) hx hb dX11_orderSize_68 (by decide) ?_
            exact W.iret (v := zI sz) hx hb hr (fun t9 ht9_ hW => ⟨⟨zI sz, u, rfl, (by refine ⟨?_, rfl⟩; rw [hT, cOsz]; (repeat (first | rw [if_pos (by omega)] | rw [if_neg (by omega)])); all_goals (first | rfl | (unfold cOszF; (repeat (first | rw [if_pos (by omega)] | rw [if_neg (by omega)])); all_goals rfl))), gB.mk' hG hC hS ht9_ hW⟩, hS.F ht9_⟩) hS.2.2 dX11_orderSize_72
        · refine lv_iload_n hx hb dX11_orderSize_18 rfl (lv_at hl 3 rfl) ?_
          refine lv_iload_n hx hb dX11_orderSize_19 rfl (lv_at hl 0 rfl) ?_
          refine g_calli (va_runS (As := [.int (zI p1), .int (zI sz)]) (rest := []) ⟨hx, hb, hml, hown, hts⟩ (kX11_orderDigit l D cy ad jf A u p1 sz (by omega) (by omega)) (va_cwS 2 hts gX11_orderSize_X11_orderDigit rfl rfl rfl (by decide +kernel) ⟨by decide, by decide⟩) (g_preS hG hC hS) rfl rfl hl.1 rfl (lv_room (Nat.le_of_ble_eq_true rfl)) dX11_orderSize_20 ⟨Nat.le_of_ble_eq_true rfl, Nat.le_of_ble_eq_true rfl⟩) hS (fun r8 u9 H locs p_10 hG hS => ?_)
          obtain ⟨rfl, he_⟩ := p_10
          rw [he_] at hG; clear he_
          have q_11 := bAnd_15 (bUshr p1 (4 * sz))
          refine z_iconst hx hb dX11_orderSize_23 ?_
          refine z_isub hx hb dX11_orderSize_24 ?_
          obtain ⟨dg, hdg⟩ : ∃ z : Int, z = (bAnd (bUshr p1 (4 * sz)) 15) - 1 := ⟨_, rfl⟩
          rw [← hdg]
          refine lv_istore (lv' := [(4, .int (zI dg)), (3, .int (zI sz)), (2, .int (zI told)), (0, .ref (ad 0)), (1, .int (zI p1))]) hx hb dX11_orderSize_25 hl (by decide) rfl (fun ls hl => ?_)
          refine lv_aload_n hx hb dX11_orderSize_27 rfl (lv_at hl 3 rfl) ?_
          refine lv_iload hx hb dX11_orderSize_28 (lv_at hl 0 rfl) ?_
          refine g_callq (va_runV (As := [.int (zI dg)]) (rest := []) ⟨hx, hb, hml, hown, hts⟩ (kX11_known l D cy ad jf A u dg (by omega) i0) (cwV 1 hts gX11_orderSize_X11_known rfl rfl rfl (by decide +kernel) ⟨by decide, by decide⟩) (g_preV (C := RX11) hG hC hS 0 (by decide) rfl rfl) rfl rfl hl.1 rfl (lv_room (Nat.le_of_ble_eq_true rfl)) dX11_orderSize_30 ⟨Nat.le_of_ble_eq_true rfl, Nat.le_of_ble_eq_true rfl⟩) hS (fun r12 u13 H locs p_14 hG hS => ?_)
          obtain ⟨hr_, he_⟩ := p_14
          rw [he_] at hG; clear he_
          by_cases hk_ : 0 ≤ dg ∧ dg ≤ u.1 0 - 1
          · rw [if_pos hk_] at hr_
            obtain ⟨a, ha0, ha, hE0, hki, hsp, hli, hfd⟩ := hsw dg.toNat (by omega)
            rw [ha0] at hr_
            subst hr_
            simp only [va_rf]
            refine lv_ifnull hx hb dX11_orderSize_33 ?_
            refine lv_iload_n hx hb dX11_orderSize_36 rfl (lv_at hl 2 rfl) ?_
            refine lv_iload hx hb dX11_orderSize_37 (lv_at hl 0 rfl) ?_
            have q_15 := bShr_bnd told dg
            refine z_ishr hx hb dX11_orderSize_39 ?_
            refine z_iconst hx hb dX11_orderSize_40 ?_
            have q_16 := bAnd_bnd (bShr told dg) 1
            have q_17 := bAnd_1 (bShr told dg)
            refine z_iand hx hb dX11_orderSize_41 ?_
            refine z_if_eq (tgt := 47) hx hb dX11_orderSize_42 (by decide) (by omega) (by omega) (fun c_18 => ?_) (fun c_18 => ?_)
            · refine lv_iload_n hx hb dX11_orderSize_47 rfl (lv_at hl 2 rfl) ?_
              refine z_iconst hx hb dX11_orderSize_48 ?_
              refine lv_iload hx hb dX11_orderSize_49 (lv_at hl 0 rfl) ?_
              have q_19 := bShl_bnd 1 dg
              refine z_ishl hx hb dX11_orderSize_51 ?_
              have q_20 := bOr_bnd told (bShl 1 dg)
              refine z_ior hx hb dX11_orderSize_52 ?_
              refine lv_istore_n (lv' := [(2, .int (zI (bOr told (bShl 1 dg)))), (4, .int (zI dg)), (3, .int (zI sz)), (0, .ref (ad 0)), (1, .int (zI p1))]) hx hb dX11_orderSize_53 rfl hl (by decide) rfl (fun ls hl => ?_)
              refine z_iinc (lv' := [(3, .int (zI (sz + 1))), (2, .int (zI (bOr told (bShl 1 dg)))), (4, .int (zI dg)), (0, .ref (ad 0)), (1, .int (zI p1))]) hx hb dX11_orderSize_54 hl (k := 2) rfl (by decide) rfl (fun ls hl => ?_)
              refine lv_goto (tgt := 4) hx hb dX11_orderSize_57 (by decide) ?_
              exact ih4 (bOr told (bShl 1 dg)) (sz + 1) _ _ _ (by omega) (by omega) (by omega) (by rw [hT, cOsz]; simp only [← hdg]; (repeat (first | rw [if_pos (by omega)] | rw [if_neg (by omega)]))) hG hS (lv_sub hl [0, 1, 3, 4] rfl)
            · refine z_iconst hx hb dX11_orderSize_45 ?_
              exact W.iret (v := zI ((-1))) hx hb hr (fun t9 ht9_ hW => ⟨⟨zI ((-1)), u, rfl, (by refine ⟨?_, rfl⟩; rw [hT, cOsz]; simp only [← hdg]; (repeat (first | rw [if_pos (by omega)] | rw [if_neg (by omega)])); all_goals (first | rfl | (unfold cOszF; (repeat (first | rw [if_pos (by omega)] | rw [if_neg (by omega)])); all_goals rfl))), gB.mk' hG hC hS ht9_ hW⟩, hS.F ht9_⟩) hS.2.2 dX11_orderSize_46
          · rw [if_neg hk_] at hr_
            subst hr_
            simp only [va_rf]
            refine lv_ifnullN (tgt := 45) hx hb dX11_orderSize_33 (by decide) ?_
            refine z_iconst hx hb dX11_orderSize_45 ?_
            exact W.iret (v := zI ((-1))) hx hb hr (fun t9 ht9_ hW => ⟨⟨zI ((-1)), u, rfl, (by refine ⟨?_, rfl⟩; rw [hT, cOsz]; simp only [← hdg]; (repeat (first | rw [if_pos (by omega)] | rw [if_neg (by omega)])); all_goals (first | rfl | (unfold cOszF; (repeat (first | rw [if_pos (by omega)] | rw [if_neg (by omega)])); all_goals rfl))), gB.mk' hG hC hS ht9_ hW⟩, hS.F ht9_⟩) hS.2.2 dX11_orderSize_46
  exact loop4 7 0 0 _ _ _ (by omega) (by omega) (by omega) (by rfl) hG hS (lv_sub hl [0, 1, 2, 3] rfl)
set_option maxHeartbeats 4000000 in
set_option maxRecDepth 100000 in
theorem kX11_order (l : Launch) (D : va_G) (cy : Nat → ClassId) (ad : Nat → Nat) (jf : Nat → Int64) (A : Nat → Prop) (u : gS) (p1 : Int) (j_p1 : -2147483648 ≤ p1 ∧ p1 < 2147483648) (i0 : 0 ≤ u.1 0 ∧ u.1 0 ≤ 10) (K S9 L9 F9 : Nat → Int) (hsw : ∀ j : Nat, (j : Int) < u.1 0 → ∃ a, swAt u j a (K j) (S9 j) (L9 j) (F9 j)) : Met l yX11_order wsX11_order ({ frames := 3, cells := 0, slots := 0, locals := 67 }) (va_Pc [.ref (ad 0), .int (zI p1)] (gB D cy ad jf A u)) (va_Qi (fun (r : Int32) (v : gS) => r = zI (cOrder u p1).1 ∧ v = (cOrder u p1).2) (gB D cy ad jf A) A) 0 0 A := by
  refine Met.ofW (cc := cX11_order) (maxL := 4) (ret := (some .int)) (by decide) rfl ?_
  intro p e s m args below meth c s₁ B hml hv
  obtain ⟨rfl, hG, hC⟩ := hv
  have hx := B.exec
  have hb := B.bytes
  have hr := B.returns
  have hts := atoms_spec (ws := wsX11_order) B.pre
  have hown : s.vm.findClass RX11 = some m.cls := findClass_of_methodNamed B.named
  have hlocks := B.notSynchronized
  have hS : va_S A s.heap s.heap [] := va_S.rf
  have hl := lv_entry ([.ref (ad 0), .int (zI p1)]) (n := 4) (Nat.le_of_ble_eq_true rfl)
  rw [lg_entry_eq]
  generalize (lg_sl ([.ref (ad 0), .int (zI p1)]) ++ List.replicate (4 - (lg_sl ([.ref (ad 0), .int (zI p1)])).length) Slot.unset).toArray = ls at hl ⊢
  have hl : lv_has ls 4 [(0, .ref (ad 0)), (1, .int (zI p1))] := hl
  refine lv_aload_n hx hb dX11_order_0 rfl (lv_at hl 0 rfl) ?_
  refine lv_iload_n hx hb dX11_order_1 rfl (lv_at hl 1 rfl) ?_
  refine g_calli (va_runV (As := [.int (zI p1)]) (rest := []) ⟨hx, hb, hml, hown, hts⟩ (kX11_orderSize l D cy ad jf A u p1 (by omega) i0 K S9 L9 F9 hsw) (cwV 1 hts gX11_order_X11_orderSize rfl rfl rfl (by decide +kernel) ⟨by decide, by decide⟩) (g_preV (C := RX11) hG hC hS 0 (by decide) rfl rfl) rfl rfl hl.1 rfl (lv_room (Nat.le_of_ble_eq_true rfl)) dX11_order_2 ⟨Nat.le_of_ble_eq_true rfl, Nat.le_of_ble_eq_true rfl⟩) hS (fun r1 u2 H locs p_3 hG hS => ?_)
  obtain ⟨rfl, he_⟩ := p_3
  rw [he_] at hG; clear he_
  obtain ⟨z4, hz4⟩ : ∃ z : Int, z = cOsz (u.1 0) p1 7 0 0 := ⟨_, rfl⟩
  rw [← hz4]
  have qz4 : -1 ≤ z4 ∧ z4 ≤ 6 := by rw [hz4]; exact cOsz_bnd _ _ _ _ _ (by omega) (by omega)
  obtain ⟨sz, hsz⟩ : ∃ z : Int, z = z4 := ⟨_, rfl⟩
  rw [← hsz]
  refine lv_istore_n (lv' := [(2, .int (zI sz)), (0, .ref (ad 0)), (1, .int (zI p1))]) hx hb dX11_order_5 rfl hl (by decide) rfl (fun ls hl => ?_)
  have hsz : sz = cOsz (u.1 0) p1 7 0 0 := by subst_vars; rfl
  refine lv_iload_n hx hb dX11_order_6 rfl (lv_at hl 0 rfl) ?_
  refine z_iconst hx hb dX11_order_7 ?_
  refine z_icmp_ge (tgt := 13) hx hb dX11_order_8 (by decide) (by omega) (by omega) (by omega) (by omega) (fun c_5 => ?_) (fun c_5 => ?_)
  · refine lv_aload_n hx hb dX11_order_13 rfl (lv_at hl 1 rfl) ?_
    refine g_get (C := RX11) (T := TX11) (N := 14) (ci := 10) hx hb hts (fun _ h => (List.mem_cons_of_mem _ (List.mem_append_left _ (List.mem_append_right _ h)))) hown hC.1 hG 0 (by decide) rfl rfl 10 (by decide) (hts (.fieldLink RX11 60 "StraitSwim" "relay" "LStraitSwim$Tally;") (List.mem_cons_of_mem _ (List.mem_append_left _ (List.mem_append_left _ (List.mem_append_left _ (List.mem_of_getElem? (i := 0) rfl)))))) (fun _ h9 => h9) rfl dX11_order_14 ?_
    refine z_iconst hx hb dX11_order_17 ?_
    refine g_put (C := RX10) (T := TX10) (N := 2) (ci := 9) (ty := .int) hx hb hts (fun _ h => (List.mem_cons_of_mem _ (List.mem_append_right _ h))) tyX10 tyX10_ok nmX10 hown hC.1 hG hS 5 (by decide) rfl rfl 1 16 (by decide) (hts (.fieldLink RX11 173 "StraitSwim$Tally" "size" "I") (List.mem_cons_of_mem _ (List.mem_append_left _ (List.mem_append_left _ (List.mem_append_left _ (List.mem_of_getElem? (i := 1) rfl)))))) (fun _ h9 => h9) rfl (by decide +kernel) rfl rfl (Nat.le_of_ble_eq_true rfl) rfl (gO_16 ad _ _) dX11_order_18 (fun u6 H locs hu6 hG hS => ?_)
    refine lv_aload_n hx hb dX11_order_21 rfl (lv_at hl 1 rfl) ?_
    refine g_get (C := RX11) (T := TX11) (N := 14) (ci := 10) hx hb hts (fun _ h => (List.mem_cons_of_mem _ (List.mem_append_left _ (List.mem_append_right _ h)))) hown hC.1 hG 0 (by decide) rfl rfl 11 (by decide) (hts (.fieldLink RX11 63 "StraitSwim" "turns" "LStraitSwim$Tally;") (List.mem_cons_of_mem _ (List.mem_append_left _ (List.mem_append_left _ (List.mem_append_left _ (List.mem_of_getElem? (i := 2) rfl)))))) (fun _ h9 => h9) rfl dX11_order_22 ?_
    refine z_iconst hx hb dX11_order_25 ?_
    refine g_put (C := RX10) (T := TX10) (N := 2) (ci := 9) (ty := .int) hx hb hts (fun _ h => (List.mem_cons_of_mem _ (List.mem_append_right _ h))) tyX10 tyX10_ok nmX10 hown hC.1 hG hS 6 (by decide) rfl rfl 1 17 (by decide) (hts (.fieldLink RX11 173 "StraitSwim$Tally" "size" "I") (List.mem_cons_of_mem _ (List.mem_append_left _ (List.mem_append_left _ (List.mem_append_left _ (List.mem_of_getElem? (i := 1) rfl)))))) (fun _ h9 => h9) rfl (by decide +kernel) rfl rfl (Nat.le_of_ble_eq_true rfl) rfl (gO_17 ad _ _) dX11_order_26 (fun u7 H locs hu7 hG hS => ?_)
    refine z_iconst hx hb dX11_order_29 ?_
    refine lv_istore_n (lv' := [(3, .int (zI 0)), (2, .int (zI sz)), (0, .ref (ad 0)), (1, .int (zI p1))]) hx hb dX11_order_30 rfl hl (by decide) rfl (fun ls hl => ?_)
    have loop31 : ∀ (n : Nat) (i : Int) (w : gS) (H : Heap) (locs : List Loc) (ls : Array Slot), (sz - i).toNat < n → (0 ≤ i ∧ i ≤ 6) → (w.1 16 = i) → (cOrdW p1 sz 7 0 (sI (sI u 16 0) 17 0) = cOrdW p1 sz n i w) → gH D cy ad jf A w H → va_S A s.heap H locs → lv_has ls 4 [(3, .int (zI i)), (2, .int (zI sz)), (0, .ref (ad 0)), (1, .int (zI p1))] → W p l e (headSpec wsX11_order ({ frames := 3, cells := 0, slots := 0, locals := 67 })).room s m ([.ref (ad 0), .int (zI p1)]).toArray below meth c H locs 0 0 (MQ below (va_Qi (fun (r : Int32) (v : gS) => r = zI (cOrder u p1).1 ∧ v = (cOrder u p1).2) (gB D cy ad jf A) A) ([.ref (ad 0), .int (zI p1)]).toArray s 0 0 A) (F0 m 31 ls []) := by
      intro n
      induction n with
      | zero => intro i w H locs ls hm; exact absurd hm (Nat.not_lt_zero _)
      | succ n ih31 =>
        intro i w H locs ls hm hi hz hT hG hS hl
        refine lv_iload_n hx hb dX11_order_31 rfl (lv_at hl 0 rfl) ?_
        refine lv_iload_n hx hb dX11_order_32 rfl (lv_at hl 1 rfl) ?_
        refine z_icmp_ge (tgt := 56) hx hb dX11_order_33 (by decide) (by omega) (by omega) (by omega) (by omega) (fun c_8 => ?_) (fun c_8 => ?_)
        · refine lv_iload_n hx hb dX11_order_56 rfl (lv_at hl 1 rfl) ?_
          exact W.iret (v := zI sz) hx hb hr (fun t9 ht9_ hW => ⟨⟨zI sz, w, rfl, (by unfold cOrder; rw [← hsz, if_neg (by omega), hT, cOrdW, if_neg (by omega)]; exact ⟨rfl, rfl⟩), gB.mk' hG hC hS ht9_ hW⟩, hS.F ht9_⟩) hS.2.2 dX11_order_57
        · refine lv_aload_n hx hb dX11_order_36 rfl (lv_at hl 2 rfl) ?_
          refine g_get (C := RX11) (T := TX11) (N := 14) (ci := 10) hx hb hts (fun _ h => (List.mem_cons_of_mem _ (List.mem_append_left _ (List.mem_append_right _ h)))) hown hC.1 hG 0 (by decide) rfl rfl 10 (by decide) (hts (.fieldLink RX11 60 "StraitSwim" "relay" "LStraitSwim$Tally;") (List.mem_cons_of_mem _ (List.mem_append_left _ (List.mem_append_left _ (List.mem_append_left _ (List.mem_of_getElem? (i := 0) rfl)))))) (fun _ h9 => h9) rfl dX11_order_37 ?_
          refine lv_iload_n hx hb dX11_order_40 rfl (lv_at hl 3 rfl) ?_
          refine lv_iload_n hx hb dX11_order_41 rfl (lv_at hl 0 rfl) ?_
          refine g_calli (va_runS (As := [.int (zI p1), .int (zI i)]) (rest := [.ref (ad 5)]) ⟨hx, hb, hml, hown, hts⟩ (kX11_orderDigit l D cy ad jf A w p1 i (by omega) (by omega)) (va_cwS 2 hts gX11_order_X11_orderDigit rfl rfl rfl (by decide +kernel) ⟨by decide, by decide⟩) (g_preS hG hC hS) rfl rfl hl.1 rfl (lv_room (Nat.le_of_ble_eq_true rfl)) dX11_order_42 ⟨Nat.le_of_ble_eq_true rfl, Nat.le_of_ble_eq_true rfl⟩) hS (fun r9 u10 H locs p_11 hG hS => ?_)
          obtain ⟨rfl, he_⟩ := p_11
          rw [he_] at hG; clear he_
          have q_12 := bAnd_15 (bUshr p1 (4 * i))
          refine z_iconst hx hb dX11_order_45 ?_
          refine z_isub hx hb dX11_order_46 ?_
          refine g_callv (va_runV (As := [.int (zI ((bAnd (bUshr p1 (4 * i)) 15) - 1))]) (rest := []) ⟨hx, hb, hml, hown, hts⟩ (kX10_add_5 l D cy ad jf A w ((bAnd (bUshr p1 (4 * i)) 15) - 1) (by omega)) (cwV 1 hts gX11_order_X10_add rfl rfl rfl (by decide +kernel) ⟨by decide, by decide⟩) (g_preV (C := RX10) hG hC hS 5 (by decide) rfl rfl) rfl rfl hl.1 rfl (lv_room (Nat.le_of_ble_eq_true rfl)) dX11_order_47 ⟨Nat.le_of_ble_eq_true rfl, Nat.le_of_ble_eq_true rfl⟩) hS (fun u14 H locs p_15 hG hS => ?_)
          refine z_iinc (lv' := [(3, .int (zI (i + 1))), (2, .int (zI sz)), (0, .ref (ad 0)), (1, .int (zI p1))]) hx hb dX11_order_50 hl (k := 0) rfl (by decide) rfl (fun ls hl => ?_)
          refine lv_goto (tgt := 31) hx hb dX11_order_53 (by decide) ?_
          exact ih31 (i + 1) u14 _ _ _ (by omega) (by omega) (by have e9 : u14.1 16 = w.1 16 + 1 := (by subst p_15; rfl); omega) (by rw [hT, cOrdW, if_pos (by omega)]; subst p_15; rfl) hG hS (lv_sub hl [0, 1, 2, 3] rfl)
    exact loop31 7 0 u7 _ _ _ (by omega) (by omega) (by subst hu7; subst hu6; rfl) (by subst hu7; subst hu6; rfl) hG hS (lv_sub hl [0, 1, 2, 3] rfl)
  · refine z_iconst hx hb dX11_order_11 ?_
    exact W.iret (v := zI ((-1))) hx hb hr (fun t9 ht9_ hW => ⟨⟨zI ((-1)), u, rfl, (by unfold cOrder; rw [← hsz, if_pos (by omega)]; exact ⟨rfl, rfl⟩), gB.mk' hG hC hS ht9_ hW⟩, hS.F ht9_⟩) hS.2.2 dX11_order_12
set_option maxHeartbeats 4000000 in
set_option maxRecDepth 100000 in
theorem kX7_isBy_X7 (l : Launch) (D : va_G) (cy : Nat → ClassId) (ad : Nat → Nat) (jf : Nat → Int64) (A : Nat → Prop) (u : gS) (a : Nat) (nm sp li fd : Int) (p1 p2 p3 p4 : Int) (ha : a ∈ u.2.2.2.1) (hE : u.2.2.2.2 a = .inr (6, [.int (zI nm), .int (zI sp), .int (zI li), .int (zI fd)])) (j_1 : -1000 ≤ p1 ∧ p1 ≤ 1000) (j_2 : -1000 ≤ p2 ∧ p2 ≤ 1000) (j_3 : 0 ≤ p3 ∧ p3 ≤ 101) (j_4 : 1 ≤ p4 ∧ p4 ≤ 60) (j_x : 0 ≤ nm ∧ nm ≤ 239) (j_y : 0 ≤ sp ∧ sp ≤ 119) (j_e : -20 ≤ li ∧ li ≤ 20) (j_n : -20 ≤ fd ∧ fd ≤ 20) : Met l yX7_isBy wsX7_isBy ({ frames := 1, cells := 0, slots := 0, locals := 30 }) (va_Pc [.ref a, .int (zI p1), .int (zI p2), .int (zI p3), .int (zI p4)] (gB D cy ad jf A u)) (va_Qi (fun (r : Int32) (v : gS) => (∃ b : Int, r = zI b ∧ (b = 1 ∧ spApart (nm + p3 * li) p1 < p4 ∧ spApart (sp + p3 * fd) p2 < p4 ∨ b = 0 ∧ ¬ (spApart (nm + p3 * li) p1 < p4 ∧ spApart (sp + p3 * fd) p2 < p4))) ∧ v = u) (gB D cy ad jf A) A) 0 0 A := by
  refine Met.ofW (cc := cX7_isBy) (maxL := 5) (ret := (some .boolean)) (by decide) rfl ?_
  intro p e s m args below meth c s₁ B hml hv
  obtain ⟨rfl, hG, hC⟩ := hv
  have hx := B.exec
  have hb := B.bytes
  have hr := B.returns
  have hts := atoms_spec (ws := wsX7_isBy) B.pre
  have hown : s.vm.findClass RX7 = some m.cls := findClass_of_methodNamed B.named
  have hlocks := B.notSynchronized
  have hS : va_S A s.heap s.heap [] := va_S.rf
  have hl := lv_entry ([.ref a, .int (zI p1), .int (zI p2), .int (zI p3), .int (zI p4)]) (n := 5) (Nat.le_of_ble_eq_true rfl)
  rw [lg_entry_eq]
  generalize (lg_sl ([.ref a, .int (zI p1), .int (zI p2), .int (zI p3), .int (zI p4)]) ++ List.replicate (5 - (lg_sl ([.ref a, .int (zI p1), .int (zI p2), .int (zI p3), .int (zI p4)])).length) Slot.unset).toArray = ls at hl ⊢
  have hl : lv_has ls 5 [(0, .ref a), (1, .int (zI p1)), (2, .int (zI p2)), (3, .int (zI p3)), (4, .int (zI p4))] := hl
  refine lv_aload_n hx hb dX7_isBy_0 rfl (lv_at hl 0 rfl) ?_
  obtain ⟨k9, hk9⟩ := va_pl_get (X := gFx cy ad jf u) (f := u.2.2.2.2) ha
  refine va_get (C := RX7) (T := TX7) (N := 4) (ci := 6) hx hb hts (fun _ h => (List.mem_cons_of_mem _ (List.mem_append_right _ h))) hown hC.1 hG.1 k9 (hk9.trans (by rw [hE])) rfl 0 (by decide) (hts (.fieldLink RX7 7 "StraitSwim$Ship" "x" "I") (List.mem_cons_of_mem _ (List.mem_append_left _ (List.mem_of_getElem? (i := 0) rfl)))) (fun _ h9 => h9) rfl dX7_isBy_1 ?_
  refine lv_iload_n hx hb dX7_isBy_4 rfl (lv_at hl 3 rfl) ?_
  refine lv_aload_n hx hb dX7_isBy_5 rfl (lv_at hl 0 rfl) ?_
  obtain ⟨k9, hk9⟩ := va_pl_get (X := gFx cy ad jf u) (f := u.2.2.2.2) ha
  refine va_get (C := RX7) (T := TX7) (N := 4) (ci := 6) hx hb hts (fun _ h => (List.mem_cons_of_mem _ (List.mem_append_right _ h))) hown hC.1 hG.1 k9 (hk9.trans (by rw [hE])) rfl 2 (by decide) (hts (.fieldLink RX7 16 "StraitSwim$Ship" "east" "I") (List.mem_cons_of_mem _ (List.mem_append_left _ (List.mem_of_getElem? (i := 1) rfl)))) (fun _ h9 => h9) rfl dX7_isBy_6 ?_
  have q_1 := mul20 (a := p3) (b := li) (by omega) (by omega)
  refine z_imul hx hb dX7_isBy_9 ?_
  refine z_iadd hx hb dX7_isBy_10 ?_
  refine lv_iload_n hx hb dX7_isBy_11 rfl (lv_at hl 1 rfl) ?_
  refine z_isub hx hb dX7_isBy_12 ?_
  refine va_mabs hx hb (hml.trans hl.1.symm) hown (hts (.methodLink RX7 22 Lib.Math.abs.name) (List.mem_cons_of_mem _ (List.mem_append_left _ (List.mem_of_getElem? (i := 2) rfl)))) (hts (.static Lib.Math.abs.name) (List.mem_cons_of_mem _ (List.mem_append_left _ (List.mem_of_getElem? (i := 3) rfl)))) (hts (.initialized "java/lang/Math") (List.mem_cons_of_mem _ (List.mem_append_left _ (List.mem_of_getElem? (i := 4) rfl)))) (hts (.code Lib.Math.abs.name Lib.Math.abs.code 1 (some .int)) (List.mem_cons_of_mem _ (List.mem_append_left _ (List.mem_of_getElem? (i := 5) rfl)))) (Nat.le_of_ble_eq_true rfl) (Nat.le_of_ble_eq_true rfl) (Nat.le_of_ble_eq_true rfl) (Nat.le_of_ble_eq_true rfl) dX7_isBy_13 ?_
  rw [z_abs (a := (nm + (p3 * li)) - p1) (by omega) (by omega)]
  obtain ⟨x2, hx2⟩ : ∃ z : Int, z = (if 0 ≤ ((nm + (p3 * li)) - p1) then ((nm + (p3 * li)) - p1) else 0 - ((nm + (p3 * li)) - p1)) := ⟨_, rfl⟩
  rw [← hx2]
  have qx2 : (0 ≤ ((nm + (p3 * li)) - p1) ∧ x2 = (nm + (p3 * li)) - p1) ∨ (((nm + (p3 * li)) - p1) < 0 ∧ x2 = 0 - ((nm + (p3 * li)) - p1)) := by rw [hx2]; split <;> omega
  refine lv_iload hx hb dX7_isBy_16 (lv_at hl 4 rfl) ?_
  refine z_icmp_ge (tgt := 46) hx hb dX7_isBy_18 (by decide) (by omega) (by omega) (by omega) (by omega) (fun c_3 => ?_) (fun c_3 => ?_)
  · refine z_iconst hx hb dX7_isBy_46 ?_
    exact W.zret (ty := .boolean) (v := zI 0) hx hb hr (nar_b (by omega)) (fun t9 ht9_ hW => ⟨⟨zI 0, u, rfl, (by refine ⟨⟨0, rfl, ?_⟩, rfl⟩; unfold spApart; (repeat split) <;> omega), gB.mk' hG hC hS ht9_ hW⟩, hS.F ht9_⟩) hS.2.2 dX7_isBy_47
  · refine lv_aload_n hx hb dX7_isBy_21 rfl (lv_at hl 0 rfl) ?_
    obtain ⟨k9, hk9⟩ := va_pl_get (X := gFx cy ad jf u) (f := u.2.2.2.2) ha
    refine va_get (C := RX7) (T := TX7) (N := 4) (ci := 6) hx hb hts (fun _ h => (List.mem_cons_of_mem _ (List.mem_append_right _ h))) hown hC.1 hG.1 k9 (hk9.trans (by rw [hE])) rfl 1 (by decide) (hts (.fieldLink RX7 13 "StraitSwim$Ship" "y" "I") (List.mem_cons_of_mem _ (List.mem_append_left _ (List.mem_of_getElem? (i := 6) rfl)))) (fun _ h9 => h9) rfl dX7_isBy_22 ?_
    refine lv_iload_n hx hb dX7_isBy_25 rfl (lv_at hl 3 rfl) ?_
    refine lv_aload_n hx hb dX7_isBy_26 rfl (lv_at hl 0 rfl) ?_
    obtain ⟨k9, hk9⟩ := va_pl_get (X := gFx cy ad jf u) (f := u.2.2.2.2) ha
    refine va_get (C := RX7) (T := TX7) (N := 4) (ci := 6) hx hb hts (fun _ h => (List.mem_cons_of_mem _ (List.mem_append_right _ h))) hown hC.1 hG.1 k9 (hk9.trans (by rw [hE])) rfl 3 (by decide) (hts (.fieldLink RX7 19 "StraitSwim$Ship" "north" "I") (List.mem_cons_of_mem _ (List.mem_append_left _ (List.mem_of_getElem? (i := 7) rfl)))) (fun _ h9 => h9) rfl dX7_isBy_27 ?_
    have q_4 := mul20 (a := p3) (b := fd) (by omega) (by omega)
    refine z_imul hx hb dX7_isBy_30 ?_
    refine z_iadd hx hb dX7_isBy_31 ?_
    refine lv_iload_n hx hb dX7_isBy_32 rfl (lv_at hl 2 rfl) ?_
    refine z_isub hx hb dX7_isBy_33 ?_
    refine va_mabs hx hb (hml.trans hl.1.symm) hown (hts (.methodLink RX7 22 Lib.Math.abs.name) (List.mem_cons_of_mem _ (List.mem_append_left _ (List.mem_of_getElem? (i := 2) rfl)))) (hts (.static Lib.Math.abs.name) (List.mem_cons_of_mem _ (List.mem_append_left _ (List.mem_of_getElem? (i := 3) rfl)))) (hts (.initialized "java/lang/Math") (List.mem_cons_of_mem _ (List.mem_append_left _ (List.mem_of_getElem? (i := 4) rfl)))) (hts (.code Lib.Math.abs.name Lib.Math.abs.code 1 (some .int)) (List.mem_cons_of_mem _ (List.mem_append_left _ (List.mem_of_getElem? (i := 5) rfl)))) (Nat.le_of_ble_eq_true rfl) (Nat.le_of_ble_eq_true rfl) (Nat.le_of_ble_eq_true rfl) (Nat.le_of_ble_eq_true rfl) dX7_isBy_34 ?_
    rw [z_abs (a := (sp + (p3 * fd)) - p2) (by omega) (by omega)]
    obtain ⟨x5, hx5⟩ : ∃ z : Int, z = (if 0 ≤ ((sp + (p3 * fd)) - p2) then ((sp + (p3 * fd)) - p2) else 0 - ((sp + (p3 * fd)) - p2)) := ⟨_, rfl⟩
    rw [← hx5]
    have qx5 : (0 ≤ ((sp + (p3 * fd)) - p2) ∧ x5 = (sp + (p3 * fd)) - p2) ∨ (((sp + (p3 * fd)) - p2) < 0 ∧ x5 = 0 - ((sp + (p3 * fd)) - p2)) := by rw [hx5]; split <;> omega
    refine lv_iload hx hb dX7_isBy_37 (lv_at hl 4 rfl) ?_
    refine z_icmp_ge (tgt := 46) hx hb dX7_isBy_39 (by decide) (by omega) (by omega) (by omega) (by omega) (fun c_6 => ?_) (fun c_6 => ?_)
    · refine z_iconst hx hb dX7_isBy_46 ?_
      exact W.zret (ty := .boolean) (v := zI 0) hx hb hr (nar_b (by omega)) (fun t9 ht9_ hW => ⟨⟨zI 0, u, rfl, (by refine ⟨⟨0, rfl, ?_⟩, rfl⟩; unfold spApart; (repeat split) <;> omega), gB.mk' hG hC hS ht9_ hW⟩, hS.F ht9_⟩) hS.2.2 dX7_isBy_47
    · refine z_iconst hx hb dX7_isBy_42 ?_
      refine lv_goto (tgt := 47) hx hb dX7_isBy_43 (by decide) ?_
      exact W.zret (ty := .boolean) (v := zI 1) hx hb hr (nar_b (by omega)) (fun t9 ht9_ hW => ⟨⟨zI 1, u, rfl, (by refine ⟨⟨1, rfl, ?_⟩, rfl⟩; unfold spApart; (repeat split) <;> omega), gB.mk' hG hC hS ht9_ hW⟩, hS.F ht9_⟩) hS.2.2 dX7_isBy_47
set_option maxHeartbeats 4000000 in
set_option maxRecDepth 100000 in
theorem kX11_firstNear (l : Launch) (D : va_G) (cy : Nat → ClassId) (ad : Nat → Nat) (jf : Nat → Int64) (A : Nat → Prop) (u : gS) (a : Nat) (nm sp li fd : Int) (ha : a ∈ u.2.2.2.1) (hE : u.2.2.2.2 a = .inr (6, [.int (zI nm), .int (zI sp), .int (zI li), .int (zI fd)])) (j_x : 0 ≤ nm ∧ nm ≤ 239) (j_y : 0 ≤ sp ∧ sp ≤ 119) (j_e : -20 ≤ li ∧ li ≤ 20) (j_n : -20 ≤ fd ∧ fd ≤ 20) (hq : 0 ≤ u.1 6 ∧ u.1 6 ≤ 100) (i2 : 1 ≤ u.1 2 ∧ u.1 2 ≤ 60) (i13 : ∀ j, j < 101 → -1000 ≤ u.2.1 13 j ∧ u.2.1 13 j ≤ 1000) (i14 : ∀ j, j < 101 → -1000 ≤ u.2.1 14 j ∧ u.2.1 14 j ≤ 1000) : Met l yX11_firstNear wsX11_firstNear ({ frames := 2, cells := 0, slots := 0, locals := 54 }) (va_Pc [.ref (ad 0), .ref a] (gB D cy ad jf A u)) (va_Qi (fun (r : Int32) (v : gS) => r = zI (spNr (u.2.1 13) (u.2.1 14) (u.1 6) nm sp li fd (u.1 2) 101 0) ∧ v = u) (gB D cy ad jf A) A) 0 0 A := by
  refine Met.ofW (cc := cX11_firstNear) (maxL := 3) (ret := (some .int)) (by decide) rfl ?_
  intro p e s m args below meth c s₁ B hml hv
  obtain ⟨rfl, hG, hC⟩ := hv
  have hx := B.exec
  have hb := B.bytes
  have hr := B.returns
  have hts := atoms_spec (ws := wsX11_firstNear) B.pre
  have hown : s.vm.findClass RX11 = some m.cls := findClass_of_methodNamed B.named
  have hlocks := B.notSynchronized
  have hS : va_S A s.heap s.heap [] := va_S.rf
  have hl := lv_entry ([.ref (ad 0), .ref a]) (n := 3) (Nat.le_of_ble_eq_true rfl)
  rw [lg_entry_eq]
  generalize (lg_sl ([.ref (ad 0), .ref a]) ++ List.replicate (3 - (lg_sl ([.ref (ad 0), .ref a])).length) Slot.unset).toArray = ls at hl ⊢
  have hl : lv_has ls 3 [(0, .ref (ad 0)), (1, .ref a)] := hl
  refine lv_aload_n hx hb dX11_firstNear_0 rfl (lv_at hl 1 rfl) ?_
  refine lv_ifnonnull (tgt := 7) hx hb dX11_firstNear_1 (by decide) ?_
  refine z_iconst hx hb dX11_firstNear_7 ?_
  refine lv_istore_n (lv' := [(2, .int (zI 0)), (0, .ref (ad 0)), (1, .ref a)]) hx hb dX11_firstNear_8 rfl hl (by decide) rfl (fun ls hl => ?_)
  have loop9 : ∀ (n : Nat) (t : Int) (H : Heap) (locs : List Loc) (ls : Array Slot), (u.1 6 - t).toNat < n → (0 ≤ t ∧ t ≤ 100) → (spNr (u.2.1 13) (u.2.1 14) (u.1 6) nm sp li fd (u.1 2) 101 0 = spNr (u.2.1 13) (u.2.1 14) (u.1 6) nm sp li fd (u.1 2) n t) → gH D cy ad jf A u H → va_S A s.heap H locs → lv_has ls 3 [(2, .int (zI t)), (0, .ref (ad 0)), (1, .ref a)] → W p l e (headSpec wsX11_firstNear ({ frames := 2, cells := 0, slots := 0, locals := 54 })).room s m ([.ref (ad 0), .ref a]).toArray below meth c H locs 0 0 (MQ below (va_Qi (fun (r : Int32) (v : gS) => r = zI (spNr (u.2.1 13) (u.2.1 14) (u.1 6) nm sp li fd (u.1 2) 101 0) ∧ v = u) (gB D cy ad jf A) A) ([.ref (ad 0), .ref a]).toArray s 0 0 A) (F0 m 9 ls []) := by
    intro n
    induction n with
    | zero => intro t  H locs ls hm; exact absurd hm (Nat.not_lt_zero _)
    | succ n ih9 =>
      intro t  H locs ls hm ht9 hT hG hS hl
      refine lv_iload_n hx hb dX11_firstNear_9 rfl (lv_at hl 0 rfl) ?_
      refine lv_aload_n hx hb dX11_firstNear_10 rfl (lv_at hl 1 rfl) ?_
      refine g_get (C := RX11) (T := TX11) (N := 14) (ci := 10) hx hb hts (fun _ h => (List.mem_cons_of_mem _ (List.mem_append_left _ (List.mem_append_left _ (List.mem_append_right _ h))))) hown hC.1 hG 0 (by decide) rfl rfl 5 (by decide) (hts (.fieldLink RX11 35 "StraitSwim" "latest" "LStraitSwim$Swim;") (List.mem_cons_of_mem _ (List.mem_append_left _ (List.mem_append_left _ (List.mem_append_left _ (List.mem_of_getElem? (i := 0) rfl)))))) (fun _ h9 => h9) rfl dX11_firstNear_11 ?_
      refine g_get (C := RX9) (T := TX9) (N := 9) (ci := 8) hx hb hts (fun _ h => (List.mem_cons_of_mem _ (List.mem_append_left _ (List.mem_append_right _ h)))) hown hC.1 hG 2 (by decide) rfl rfl 1 (by decide) (hts (.fieldLink RX11 148 "StraitSwim$Swim" "quarters" "I") (List.mem_cons_of_mem _ (List.mem_append_left _ (List.mem_append_left _ (List.mem_append_left _ (List.mem_of_getElem? (i := 1) rfl)))))) (fun _ h9 => h9) rfl dX11_firstNear_14 ?_
      refine z_icmp_ge (tgt := 64) hx hb dX11_firstNear_17 (by decide) (by omega) (by omega) (by omega) (by omega) (fun c_1 => ?_) (fun c_1 => ?_)
      · refine z_bipush hx hb dX11_firstNear_64 (by decide) ?_
        exact W.iret (v := zI ((-4))) hx hb hr (fun t9 ht9_ hW => ⟨⟨zI ((-4)), u, rfl, (by refine ⟨?_, rfl⟩; rw [hT, spNr]; (repeat (first | rw [if_pos (by omega)] | rw [if_neg (by omega)])); all_goals rfl), gB.mk' hG hC hS ht9_ hW⟩, hS.F ht9_⟩) hS.2.2 dX11_firstNear_66
      · refine lv_aload_n hx hb dX11_firstNear_20 rfl (lv_at hl 2 rfl) ?_
        refine lv_aload_n hx hb dX11_firstNear_21 rfl (lv_at hl 1 rfl) ?_
        refine g_get (C := RX11) (T := TX11) (N := 14) (ci := 10) hx hb hts (fun _ h => (List.mem_cons_of_mem _ (List.mem_append_left _ (List.mem_append_left _ (List.mem_append_right _ h))))) hown hC.1 hG 0 (by decide) rfl rfl 5 (by decide) (hts (.fieldLink RX11 35 "StraitSwim" "latest" "LStraitSwim$Swim;") (List.mem_cons_of_mem _ (List.mem_append_left _ (List.mem_append_left _ (List.mem_append_left _ (List.mem_of_getElem? (i := 0) rfl)))))) (fun _ h9 => h9) rfl dX11_firstNear_22 ?_
        refine g_get (C := RX9) (T := TX9) (N := 9) (ci := 8) hx hb hts (fun _ h => (List.mem_cons_of_mem _ (List.mem_append_left _ (List.mem_append_right _ h)))) hown hC.1 hG 2 (by decide) rfl rfl 3 (by decide) (hts (.fieldLink RX11 145 "StraitSwim$Swim" "xs" "[I") (List.mem_cons_of_mem _ (List.mem_append_left _ (List.mem_append_left _ (List.mem_append_left _ (List.mem_of_getElem? (i := 2) rfl)))))) (fun _ h9 => h9) rfl dX11_firstNear_25 ?_
        refine lv_iload_n hx hb dX11_firstNear_28 rfl (lv_at hl 0 rfl) ?_
        refine z_iconst hx hb dX11_firstNear_29 ?_
        refine z_iadd hx hb dX11_firstNear_30 ?_
        refine g_iald (n := 101) hx hb hC.1 hG 13 (by decide) rfl (by omega) (by omega) (by decide) dX11_firstNear_31 ?_
        have q_2 := i13 (t + 1).toNat (by omega)
        refine lv_aload_n hx hb dX11_firstNear_32 rfl (lv_at hl 1 rfl) ?_
        refine g_get (C := RX11) (T := TX11) (N := 14) (ci := 10) hx hb hts (fun _ h => (List.mem_cons_of_mem _ (List.mem_append_left _ (List.mem_append_left _ (List.mem_append_right _ h))))) hown hC.1 hG 0 (by decide) rfl rfl 5 (by decide) (hts (.fieldLink RX11 35 "StraitSwim" "latest" "LStraitSwim$Swim;") (List.mem_cons_of_mem _ (List.mem_append_left _ (List.mem_append_left _ (List.mem_append_left _ (List.mem_of_getElem? (i := 0) rfl)))))) (fun _ h9 => h9) rfl dX11_firstNear_33 ?_
        refine g_get (C := RX9) (T := TX9) (N := 9) (ci := 8) hx hb hts (fun _ h => (List.mem_cons_of_mem _ (List.mem_append_left _ (List.mem_append_right _ h)))) hown hC.1 hG 2 (by decide) rfl rfl 4 (by decide) (hts (.fieldLink RX11 151 "StraitSwim$Swim" "ys" "[I") (List.mem_cons_of_mem _ (List.mem_append_left _ (List.mem_append_left _ (List.mem_append_left _ (List.mem_of_getElem? (i := 3) rfl)))))) (fun _ h9 => h9) rfl dX11_firstNear_36 ?_
        refine lv_iload_n hx hb dX11_firstNear_39 rfl (lv_at hl 0 rfl) ?_
        refine z_iconst hx hb dX11_firstNear_40 ?_
        refine z_iadd hx hb dX11_firstNear_41 ?_
        refine g_iald (n := 101) hx hb hC.1 hG 14 (by decide) rfl (by omega) (by omega) (by decide) dX11_firstNear_42 ?_
        have q_3 := i14 (t + 1).toNat (by omega)
        refine lv_iload_n hx hb dX11_firstNear_43 rfl (lv_at hl 0 rfl) ?_
        refine z_iconst hx hb dX11_firstNear_44 ?_
        refine z_iadd hx hb dX11_firstNear_45 ?_
        refine lv_aload_n hx hb dX11_firstNear_46 rfl (lv_at hl 1 rfl) ?_
        refine g_get (C := RX11) (T := TX11) (N := 14) (ci := 10) hx hb hts (fun _ h => (List.mem_cons_of_mem _ (List.mem_append_left _ (List.mem_append_left _ (List.mem_append_right _ h))))) hown hC.1 hG 0 (by decide) rfl rfl 4 (by decide) (hts (.fieldLink RX11 29 "StraitSwim" "nearness" "I") (List.mem_cons_of_mem _ (List.mem_append_left _ (List.mem_append_left _ (List.mem_append_left _ (List.mem_of_getElem? (i := 4) rfl)))))) (fun _ h9 => h9) rfl dX11_firstNear_47 ?_
        obtain ⟨k9, hk9⟩ := va_pl_get (X := gFx cy ad jf u) (f := u.2.2.2.2) ha
        refine g_calli (va_runV (As := [.int (zI (u.2.1 13 (t + 1).toNat)), .int (zI (u.2.1 14 (t + 1).toNat)), .int (zI (t + 1)), .int (zI (u.1 2))]) (rest := []) ⟨hx, hb, hml, hown, hts⟩ (kX7_isBy_X7 l D cy ad jf A u a nm sp li fd (u.2.1 13 (t + 1).toNat) (u.2.1 14 (t + 1).toNat) (t + 1) (u.1 2) ha hE (by omega) (by omega) (by omega) (by omega) (by omega) (by omega) (by omega) (by omega)) (cwV 4 hts gX11_firstNear_X7_isBy rfl rfl rfl (by decide +kernel) ⟨by decide, by decide⟩) (g_preD (C := RX7) hG hC hS (hk9.trans (by rw [hE])) rfl) rfl rfl hl.1 rfl (lv_room (Nat.le_of_ble_eq_true rfl)) dX11_firstNear_50 ⟨Nat.le_of_ble_eq_true rfl, Nat.le_of_ble_eq_true rfl⟩) hS (fun r4 u5 H locs p_6 hG hS => ?_)
        obtain ⟨⟨b7, rfl, q_8⟩, he_⟩ := p_6
        rw [he_] at hG; clear he_
        have hbb7 : 0 ≤ b7 ∧ b7 ≤ 1 := by rcases q_8 with ⟨h, _⟩ | ⟨h, _⟩ <;> omega
        refine z_if_eq (tgt := 58) hx hb dX11_firstNear_53 (by decide) (by omega) (by omega) (fun c_9 => ?_) (fun c_9 => ?_)
        · refine z_iinc (lv' := [(2, .int (zI (t + 1))), (0, .ref (ad 0)), (1, .ref a)]) hx hb dX11_firstNear_58 hl (k := 0) rfl (by decide) rfl (fun ls hl => ?_)
          refine lv_goto (tgt := 9) hx hb dX11_firstNear_61 (by decide) ?_
          exact ih9 (t + 1) _ _ _ (by omega) (by omega) (by rw [hT, spNr]; (repeat (first | rw [if_pos (by omega)] | rw [if_neg (by omega)]))) hG hS (lv_sub hl [0, 1, 2] rfl)
        · refine lv_iload_n hx hb dX11_firstNear_56 rfl (lv_at hl 0 rfl) ?_
          exact W.iret (v := zI t) hx hb hr (fun t9 ht9_ hW => ⟨⟨zI t, u, rfl, (by refine ⟨?_, rfl⟩; rw [hT, spNr]; (repeat (first | rw [if_pos (by omega)] | rw [if_neg (by omega)])); all_goals rfl), gB.mk' hG hC hS ht9_ hW⟩, hS.F ht9_⟩) hS.2.2 dX11_firstNear_57
  exact loop9 101 0 _ _ _ (by omega) (by omega) (by rfl) hG hS (lv_sub hl [0, 1, 2] rfl)
set_option maxHeartbeats 4000000 in
set_option maxRecDepth 100000 in
theorem kX11_near (l : Launch) (D : va_G) (cy : Nat → ClassId) (ad : Nat → Nat) (jf : Nat → Int64) (A : Nat → Prop) (u : gS) (p1 : Int) (j_p1 : -2147483648 ≤ p1 ∧ p1 < 2147483648) (hq : 0 ≤ u.1 6 ∧ u.1 6 ≤ 100) (i2 : 1 ≤ u.1 2 ∧ u.1 2 ≤ 60) (i13 : ∀ j, j < 101 → -1000 ≤ u.2.1 13 j ∧ u.2.1 13 j ≤ 1000) (i14 : ∀ j, j < 101 → -1000 ≤ u.2.1 14 j ∧ u.2.1 14 j ≤ 1000) (SX SY SE SN : Nat → Int) (hsh : ∀ j : Nat, (j : Int) < u.1 3 → ∃ a, shAt u j a (SX j) (SY j) (SE j) (SN j)) (i3 : 0 ≤ u.1 3 ∧ u.1 3 ≤ 8) : Met l yX11_near wsX11_near ({ frames := 3, cells := 0, slots := 0, locals := 76 }) (va_Pc [.ref (ad 0), .int (zI p1)] (gB D cy ad jf A u)) (va_Qi (fun (r : Int32) (v : gS) => r = zI (cNear u SX SY SE SN p1) ∧ v = u) (gB D cy ad jf A) A) 0 0 A := by
  refine Met.ofW (cc := cX11_near) (maxL := 2) (ret := (some .int)) (by decide) rfl ?_
  intro p e s m args below meth c s₁ B hml hv
  obtain ⟨rfl, hG, hC⟩ := hv
  have hx := B.exec
  have hb := B.bytes
  have hr := B.returns
  have hts := atoms_spec (ws := wsX11_near) B.pre
  have hown : s.vm.findClass RX11 = some m.cls := findClass_of_methodNamed B.named
  have hlocks := B.notSynchronized
  have hS : va_S A s.heap s.heap [] := va_S.rf
  have hl := lv_entry ([.ref (ad 0), .int (zI p1)]) (n := 2) (Nat.le_of_ble_eq_true rfl)
  rw [lg_entry_eq]
  generalize (lg_sl ([.ref (ad 0), .int (zI p1)]) ++ List.replicate (2 - (lg_sl ([.ref (ad 0), .int (zI p1)])).length) Slot.unset).toArray = ls at hl ⊢
  have hl : lv_has ls 2 [(0, .ref (ad 0)), (1, .int (zI p1))] := hl
  refine lv_iload_n hx hb dX11_near_0 rfl (lv_at hl 1 rfl) ?_
  refine z_iconst hx hb dX11_near_1 ?_
  refine lv_aload_n hx hb dX11_near_2 rfl (lv_at hl 0 rfl) ?_
  refine g_get (C := RX11) (T := TX11) (N := 14) (ci := 10) hx hb hts (fun _ h => (List.mem_cons_of_mem _ (List.mem_append_left _ (List.mem_append_left _ (List.mem_append_right _ h))))) hown hC.1 hG 0 (by decide) rfl rfl 8 (by decide) (hts (.fieldLink RX11 48 "StraitSwim" "shipCount" "I") (List.mem_cons_of_mem _ (List.mem_append_left _ (List.mem_append_left _ (List.mem_append_left _ (List.mem_append_left _ (List.mem_of_getElem? (i := 0) rfl))))))) (fun _ h9 => h9) rfl dX11_near_3 ?_
  refine z_iconst hx hb dX11_near_6 ?_
  refine z_isub hx hb dX11_near_7 ?_
  refine g_calli (va_runS (As := [.int (zI p1), .int (zI 0), .int (zI ((u.1 3) - 1))]) (rest := []) ⟨hx, hb, hml, hown, hts⟩ (kX11_isWithin l D cy ad jf A u p1 0 ((u.1 3) - 1) (by omega) (by omega) (by omega)) (va_cwS 3 hts gX11_near_X11_isWithin rfl rfl rfl (by decide +kernel) ⟨by decide, by decide⟩) (g_preS hG hC hS) rfl rfl hl.1 rfl (lv_room (Nat.le_of_ble_eq_true rfl)) dX11_near_8 ⟨Nat.le_of_ble_eq_true rfl, Nat.le_of_ble_eq_true rfl⟩) hS (fun r1 u2 H locs p_3 hG hS => ?_)
  obtain ⟨⟨b4, rfl, q_5⟩, he_⟩ := p_3
  rw [he_] at hG; clear he_
  have hbb4 : 0 ≤ b4 ∧ b4 ≤ 1 := by rcases q_5 with ⟨h, _⟩ | ⟨h, _⟩ <;> omega
  refine z_if_ne (tgt := 16) hx hb dX11_near_11 (by decide) (by omega) (by omega) (fun c_6 => ?_) (fun c_6 => ?_)
  · refine lv_aload_n hx hb dX11_near_16 rfl (lv_at hl 0 rfl) ?_
    refine g_get (C := RX11) (T := TX11) (N := 14) (ci := 10) hx hb hts (fun _ h => (List.mem_cons_of_mem _ (List.mem_append_left _ (List.mem_append_left _ (List.mem_append_right _ h))))) hown hC.1 hG 0 (by decide) rfl rfl 5 (by decide) (hts (.fieldLink RX11 35 "StraitSwim" "latest" "LStraitSwim$Swim;") (List.mem_cons_of_mem _ (List.mem_append_left _ (List.mem_append_left _ (List.mem_append_left _ (List.mem_append_left _ (List.mem_of_getElem? (i := 1) rfl))))))) (fun _ h9 => h9) rfl dX11_near_17 ?_
    refine g_calli (va_runV (As := []) (rest := []) ⟨hx, hb, hml, hown, hts⟩ (kX9_hasBeen_2 l D cy ad jf A u  hq) (cwV 0 hts gX11_near_X9_hasBeen rfl rfl rfl (by decide +kernel) ⟨by decide, by decide⟩) (g_preV (C := RX9) hG hC hS 2 (by decide) rfl rfl) rfl rfl hl.1 rfl (lv_room (Nat.le_of_ble_eq_true rfl)) dX11_near_20 ⟨Nat.le_of_ble_eq_true rfl, Nat.le_of_ble_eq_true rfl⟩) hS (fun r7 u8 H locs p_9 hG hS => ?_)
    obtain ⟨⟨b10, rfl, q_11⟩, he_⟩ := p_9
    rw [he_] at hG; clear he_
    have hbb10 : 0 ≤ b10 ∧ b10 ≤ 1 := by rcases q_11 with ⟨h, _⟩ | ⟨h, _⟩ <;> omega
    refine z_if_ne (tgt := 29) hx hb dX11_near_23 (by decide) (by omega) (by omega) (fun c_12 => ?_) (fun c_12 => ?_)
    · refine lv_aload_n hx hb dX11_near_29 rfl (lv_at hl 0 rfl) ?_
      refine lv_aload_n hx hb dX11_near_30 rfl (lv_at hl 0 rfl) ?_
      refine g_get (C := RX11) (T := TX11) (N := 14) (ci := 10) hx hb hts (fun _ h => (List.mem_cons_of_mem _ (List.mem_append_left _ (List.mem_append_left _ (List.mem_append_right _ h))))) hown hC.1 hG 0 (by decide) rfl rfl 7 (by decide) (hts (.fieldLink RX11 44 "StraitSwim" "ships" "[LStraitSwim$Ship;") (List.mem_cons_of_mem _ (List.mem_append_left _ (List.mem_append_left _ (List.mem_append_left _ (List.mem_append_left _ (List.mem_of_getElem? (i := 2) rfl))))))) (fun _ h9 => h9) rfl dX11_near_31 ?_
      refine lv_iload_n hx hb dX11_near_34 rfl (lv_at hl 1 rfl) ?_
      refine g_aald (n := 8) hx hb hC.1 hG 21 5 (by decide) rfl rfl (by omega) (by omega) (by decide) dX11_near_35 ?_
      obtain ⟨a, ha0, ha, hE, gx, gy, ge, gn⟩ := hsh p1.toNat (by omega)
      rw [ha0]
      simp only [va_rf]
      refine g_calli (va_runV (As := [.ref a]) (rest := []) ⟨hx, hb, hml, hown, hts⟩ (kX11_firstNear l D cy ad jf A u a (SX p1.toNat) (SY p1.toNat) (SE p1.toNat) (SN p1.toNat)  ha hE (by omega) (by omega) (by omega) (by omega) hq i2 i13 i14) (cwV 1 hts gX11_near_X11_firstNear rfl rfl rfl (by decide +kernel) ⟨by decide, by decide⟩) (g_preV (C := RX11) hG hC hS 0 (by decide) rfl rfl) rfl rfl hl.1 rfl (lv_room (Nat.le_of_ble_eq_true rfl)) dX11_near_36 ⟨Nat.le_of_ble_eq_true rfl, Nat.le_of_ble_eq_true rfl⟩) hS (fun r13 u14 H locs p_15 hG hS => ?_)
      obtain ⟨rfl, he_⟩ := p_15
      rw [he_] at hG; clear he_
      obtain ⟨z16, hz16⟩ : ∃ z : Int, z = cNr u SX SY SE SN p1 := ⟨_, rfl⟩
      rw [show spNr (u.2.1 13) (u.2.1 14) (u.1 6) (SX p1.toNat) (SY p1.toNat) (SE p1.toNat) (SN p1.toNat) (u.1 2) 101 0 = z16 by rw [hz16]; rfl]
      have qz16 : -4 ≤ z16 ∧ z16 ≤ 100 := by rw [hz16]; exact spNr_bnd _ _ _ _ _ _ _ _ (by omega) _ _ (by omega)
      exact W.iret (v := zI z16) hx hb hr (fun t9 ht9_ hW => ⟨⟨zI z16, u, rfl, (by refine ⟨?_, rfl⟩; unfold cNear; (repeat (first | rw [if_pos (by omega)] | rw [if_neg (by omega)])); all_goals (first | rfl | (congr 1; omega) | (subst_vars; rfl))), gB.mk' hG hC hS ht9_ hW⟩, hS.F ht9_⟩) hS.2.2 dX11_near_39
    · refine z_bipush hx hb dX11_near_26 (by decide) ?_
      exact W.iret (v := zI ((-3))) hx hb hr (fun t9 ht9_ hW => ⟨⟨zI ((-3)), u, rfl, (by refine ⟨?_, rfl⟩; unfold cNear; (repeat (first | rw [if_pos (by omega)] | rw [if_neg (by omega)])); all_goals (first | rfl | (congr 1; omega) | (subst_vars; rfl))), gB.mk' hG hC hS ht9_ hW⟩, hS.F ht9_⟩) hS.2.2 dX11_near_28
  · refine z_iconst hx hb dX11_near_14 ?_
    exact W.iret (v := zI ((-1))) hx hb hr (fun t9 ht9_ hW => ⟨⟨zI ((-1)), u, rfl, (by refine ⟨?_, rfl⟩; unfold cNear; (repeat (first | rw [if_pos (by omega)] | rw [if_neg (by omega)])); all_goals (first | rfl | (congr 1; omega) | (subst_vars; rfl))), gB.mk' hG hC hS ht9_ hW⟩, hS.F ht9_⟩) hS.2.2 dX11_near_15
set_option maxHeartbeats 4000000 in
set_option maxRecDepth 100000 in
theorem kX11_lanes (l : Launch) (D : va_G) (cy : Nat → ClassId) (ad : Nat → Nat) (jf : Nat → Int64) (A : Nat → Prop) (u : gS) (hq : 0 ≤ u.1 6 ∧ u.1 6 ≤ 100) (i2 : 1 ≤ u.1 2 ∧ u.1 2 ≤ 60) (i13 : ∀ j, j < 101 → -1000 ≤ u.2.1 13 j ∧ u.2.1 13 j ≤ 1000) (i14 : ∀ j, j < 101 → -1000 ≤ u.2.1 14 j ∧ u.2.1 14 j ≤ 1000) (SX SY SE SN : Nat → Int) (hsh : ∀ j : Nat, (j : Int) < u.1 3 → ∃ a, shAt u j a (SX j) (SY j) (SE j) (SN j)) (i3 : 0 ≤ u.1 3 ∧ u.1 3 ≤ 8) : Met l yX11_lanes wsX11_lanes ({ frames := 3, cells := 0, slots := 0, locals := 76 }) (va_Pc [.ref (ad 0)] (gB D cy ad jf A u)) (va_Qi (fun (r : Int32) (v : gS) => r = zI (cLanes u SX SY SE SN) ∧ v = u) (gB D cy ad jf A) A) 0 0 A := by
  refine Met.ofW (cc := cX11_lanes) (maxL := 3) (ret := (some .int)) (by decide) rfl ?_
  intro p e s m args below meth c s₁ B hml hv
  obtain ⟨rfl, hG, hC⟩ := hv
  have hx := B.exec
  have hb := B.bytes
  have hr := B.returns
  have hts := atoms_spec (ws := wsX11_lanes) B.pre
  have hown : s.vm.findClass RX11 = some m.cls := findClass_of_methodNamed B.named
  have hlocks := B.notSynchronized
  have hS : va_S A s.heap s.heap [] := va_S.rf
  have hl := lv_entry ([.ref (ad 0)]) (n := 3) (Nat.le_of_ble_eq_true rfl)
  rw [lg_entry_eq]
  generalize (lg_sl ([.ref (ad 0)]) ++ List.replicate (3 - (lg_sl ([.ref (ad 0)])).length) Slot.unset).toArray = ls at hl ⊢
  have hl : lv_has ls 3 [(0, .ref (ad 0))] := hl
  refine lv_aload_n hx hb dX11_lanes_0 rfl (lv_at hl 0 rfl) ?_
  refine g_get (C := RX11) (T := TX11) (N := 14) (ci := 10) hx hb hts (fun _ h => (List.mem_cons_of_mem _ (List.mem_append_left _ (List.mem_append_left _ (List.mem_append_right _ h))))) hown hC.1 hG 0 (by decide) rfl rfl 5 (by decide) (hts (.fieldLink RX11 35 "StraitSwim" "latest" "LStraitSwim$Swim;") (List.mem_cons_of_mem _ (List.mem_append_left _ (List.mem_append_left _ (List.mem_append_left _ (List.mem_append_left _ (List.mem_of_getElem? (i := 0) rfl))))))) (fun _ h9 => h9) rfl dX11_lanes_1 ?_
  refine g_calli (va_runV (As := []) (rest := []) ⟨hx, hb, hml, hown, hts⟩ (kX9_hasBeen_2 l D cy ad jf A u  hq) (cwV 0 hts gX11_lanes_X9_hasBeen rfl rfl rfl (by decide +kernel) ⟨by decide, by decide⟩) (g_preV (C := RX9) hG hC hS 2 (by decide) rfl rfl) rfl rfl hl.1 rfl (lv_room (Nat.le_of_ble_eq_true rfl)) dX11_lanes_4 ⟨Nat.le_of_ble_eq_true rfl, Nat.le_of_ble_eq_true rfl⟩) hS (fun r1 u2 H locs p_3 hG hS => ?_)
  obtain ⟨⟨b4, rfl, q_5⟩, he_⟩ := p_3
  rw [he_] at hG; clear he_
  have hbb4 : 0 ≤ b4 ∧ b4 ≤ 1 := by rcases q_5 with ⟨h, _⟩ | ⟨h, _⟩ <;> omega
  refine z_if_ne (tgt := 13) hx hb dX11_lanes_7 (by decide) (by omega) (by omega) (fun c_6 => ?_) (fun c_6 => ?_)
  · refine z_iconst hx hb dX11_lanes_13 ?_
    refine lv_istore_n (lv' := [(1, .int (zI 0)), (0, .ref (ad 0))]) hx hb dX11_lanes_14 rfl hl (by decide) rfl (fun ls hl => ?_)
    refine z_iconst hx hb dX11_lanes_15 ?_
    refine lv_istore_n (lv' := [(2, .int (zI 0)), (1, .int (zI 0)), (0, .ref (ad 0))]) hx hb dX11_lanes_16 rfl hl (by decide) rfl (fun ls hl => ?_)
    have loop17 : ∀ (n : Nat) (k b : Int) (H : Heap) (locs : List Loc) (ls : Array Slot), (u.1 3 - k).toNat < n → (0 ≤ k ∧ k ≤ 8) → (cLanL u SX SY SE SN 9 0 0 = cLanL u SX SY SE SN n k b) → gH D cy ad jf A u H → va_S A s.heap H locs → lv_has ls 3 [(2, .int (zI k)), (1, .int (zI b)), (0, .ref (ad 0))] → W p l e (headSpec wsX11_lanes ({ frames := 3, cells := 0, slots := 0, locals := 76 })).room s m ([.ref (ad 0)]).toArray below meth c H locs 0 0 (MQ below (va_Qi (fun (r : Int32) (v : gS) => r = zI (cLanes u SX SY SE SN) ∧ v = u) (gB D cy ad jf A) A) ([.ref (ad 0)]).toArray s 0 0 A) (F0 m 17 ls []) := by
      intro n
      induction n with
      | zero => intro k b  H locs ls hm; exact absurd hm (Nat.not_lt_zero _)
      | succ n ih17 =>
        intro k b  H locs ls hm hk9 hT hG hS hl
        refine lv_iload_n hx hb dX11_lanes_17 rfl (lv_at hl 0 rfl) ?_
        refine lv_aload_n hx hb dX11_lanes_18 rfl (lv_at hl 2 rfl) ?_
        refine g_get (C := RX11) (T := TX11) (N := 14) (ci := 10) hx hb hts (fun _ h => (List.mem_cons_of_mem _ (List.mem_append_left _ (List.mem_append_left _ (List.mem_append_right _ h))))) hown hC.1 hG 0 (by decide) rfl rfl 8 (by decide) (hts (.fieldLink RX11 48 "StraitSwim" "shipCount" "I") (List.mem_cons_of_mem _ (List.mem_append_left _ (List.mem_append_left _ (List.mem_append_left _ (List.mem_append_left _ (List.mem_of_getElem? (i := 1) rfl))))))) (fun _ h9 => h9) rfl dX11_lanes_19 ?_
        refine z_icmp_ge (tgt := 52) hx hb dX11_lanes_22 (by decide) (by omega) (by omega) (by omega) (by omega) (fun c_7 => ?_) (fun c_7 => ?_)
        · refine lv_iload_n hx hb dX11_lanes_52 rfl (lv_at hl 1 rfl) ?_
          exact W.iret (v := zI b) hx hb hr (fun t9 ht9_ hW => ⟨⟨zI b, u, rfl, (by refine ⟨?_, rfl⟩; unfold cLanes; (repeat (first | rw [if_pos (by omega)] | rw [if_neg (by omega)])); all_goals (rw [hT, cLanL]; (repeat (first | rw [if_pos (by omega)] | rw [if_neg (by omega)])); all_goals rfl)), gB.mk' hG hC hS ht9_ hW⟩, hS.F ht9_⟩) hS.2.2 dX11_lanes_53
        · refine lv_aload_n hx hb dX11_lanes_25 rfl (lv_at hl 2 rfl) ?_
          refine lv_aload_n hx hb dX11_lanes_26 rfl (lv_at hl 2 rfl) ?_
          refine g_get (C := RX11) (T := TX11) (N := 14) (ci := 10) hx hb hts (fun _ h => (List.mem_cons_of_mem _ (List.mem_append_left _ (List.mem_append_left _ (List.mem_append_right _ h))))) hown hC.1 hG 0 (by decide) rfl rfl 7 (by decide) (hts (.fieldLink RX11 44 "StraitSwim" "ships" "[LStraitSwim$Ship;") (List.mem_cons_of_mem _ (List.mem_append_left _ (List.mem_append_left _ (List.mem_append_left _ (List.mem_append_left _ (List.mem_of_getElem? (i := 2) rfl))))))) (fun _ h9 => h9) rfl dX11_lanes_27 ?_
          refine lv_iload_n hx hb dX11_lanes_30 rfl (lv_at hl 0 rfl) ?_
          refine g_aald (n := 8) hx hb hC.1 hG 21 5 (by decide) rfl rfl (by omega) (by omega) (by decide) dX11_lanes_31 ?_
          obtain ⟨a, ha0, ha, hE, gx, gy, ge, gn⟩ := hsh k.toNat (by omega)
          rw [ha0]
          simp only [va_rf]
          refine g_calli (va_runV (As := [.ref a]) (rest := []) ⟨hx, hb, hml, hown, hts⟩ (kX11_firstNear l D cy ad jf A u a (SX k.toNat) (SY k.toNat) (SE k.toNat) (SN k.toNat)  ha hE (by omega) (by omega) (by omega) (by omega) hq i2 i13 i14) (cwV 1 hts gX11_lanes_X11_firstNear rfl rfl rfl (by decide +kernel) ⟨by decide, by decide⟩) (g_preV (C := RX11) hG hC hS 0 (by decide) rfl rfl) rfl rfl hl.1 rfl (lv_room (Nat.le_of_ble_eq_true rfl)) dX11_lanes_32 ⟨Nat.le_of_ble_eq_true rfl, Nat.le_of_ble_eq_true rfl⟩) hS (fun r8 u9 H locs p_10 hG hS => ?_)
          obtain ⟨rfl, he_⟩ := p_10
          rw [he_] at hG; clear he_
          obtain ⟨z11, hz11⟩ : ∃ z : Int, z = cNr u SX SY SE SN k := ⟨_, rfl⟩
          rw [show spNr (u.2.1 13) (u.2.1 14) (u.1 6) (SX k.toNat) (SY k.toNat) (SE k.toNat) (SN k.toNat) (u.1 2) 101 0 = z11 by rw [hz11]; rfl]
          have qz11 : -4 ≤ z11 ∧ z11 ≤ 100 := by rw [hz11]; exact spNr_bnd _ _ _ _ _ _ _ _ (by omega) _ _ (by omega)
          refine z_bipush hx hb dX11_lanes_35 (by decide) ?_
          refine z_icmp_eq (tgt := 46) hx hb dX11_lanes_37 (by decide) (by omega) (by omega) (by omega) (by omega) (fun c_12 => ?_) (fun c_12 => ?_)
          · refine z_iinc (lv' := [(2, .int (zI (k + 1))), (1, .int (zI b)), (0, .ref (ad 0))]) hx hb dX11_lanes_46 hl (k := 0) rfl (by decide) rfl (fun ls hl => ?_)
            refine lv_goto (tgt := 17) hx hb dX11_lanes_49 (by decide) ?_
            exact ih17 (k + 1) b _ _ _ (by omega) (by omega) (by rw [hT, cLanL]; subst_vars; (repeat (first | rw [if_pos (by omega)] | rw [if_neg (by omega)]))) hG hS (lv_sub hl [0, 1, 2] rfl)
          · refine lv_iload_n hx hb dX11_lanes_40 rfl (lv_at hl 1 rfl) ?_
            refine z_iconst hx hb dX11_lanes_41 ?_
            refine lv_iload_n hx hb dX11_lanes_42 rfl (lv_at hl 0 rfl) ?_
            have q_13 := bShl_bnd 1 k
            refine z_ishl hx hb dX11_lanes_43 ?_
            have q_14 := bOr_bnd b (bShl 1 k)
            refine z_ior hx hb dX11_lanes_44 ?_
            refine lv_istore_n (lv' := [(1, .int (zI (bOr b (bShl 1 k)))), (2, .int (zI k)), (0, .ref (ad 0))]) hx hb dX11_lanes_45 rfl hl (by decide) rfl (fun ls hl => ?_)
            refine z_iinc (lv' := [(2, .int (zI (k + 1))), (1, .int (zI (bOr b (bShl 1 k)))), (0, .ref (ad 0))]) hx hb dX11_lanes_46 hl (k := 1) rfl (by decide) rfl (fun ls hl => ?_)
            refine lv_goto (tgt := 17) hx hb dX11_lanes_49 (by decide) ?_
            exact ih17 (k + 1) (bOr b (bShl 1 k)) _ _ _ (by omega) (by omega) (by rw [hT, cLanL]; subst_vars; (repeat (first | rw [if_pos (by omega)] | rw [if_neg (by omega)]))) hG hS (lv_sub hl [0, 1, 2] rfl)
    exact loop17 9 0 0 _ _ _ (by omega) (by omega) (by rfl) hG hS (lv_sub hl [0, 1, 2] rfl)
  · refine z_bipush hx hb dX11_lanes_10 (by decide) ?_
    exact W.iret (v := zI ((-3))) hx hb hr (fun t9 ht9_ hW => ⟨⟨zI ((-3)), u, rfl, (by refine ⟨?_, rfl⟩; unfold cLanes; (repeat (first | rw [if_pos (by omega)] | rw [if_neg (by omega)])); all_goals rfl), gB.mk' hG hC hS ht9_ hW⟩, hS.F ht9_⟩) hS.2.2 dX11_lanes_12
