set_option maxHeartbeats 4000000 in
set_option maxRecDepth 100000 in
theorem kX12_stopAt (l : Launch) (D : va_G) (cy : Nat → ClassId) (ad : Nat → Nat) (jf : Nat → Int64) (A : Nat → Prop) (u : gS) (p1 p2 : Int) (j_p1 : -2147483648 ≤ p1 ∧ p1 < 2147483648) (j_p2 : -2147483648 ≤ p2 ∧ p2 < 2147483648) (i26 : 0 ≤ u.1 26 ∧ u.1 26 ≤ 60) (i46 : ∀ j, j < 60 → 0 ≤ u.2.1 46 j ∧ u.2.1 46 j ≤ 99) : Met l yX12_stopAt wsX12_stopAt ({ frames := 0, cells := 0, slots := 0, locals := 0 }) (va_Pc [.ref (ad 8), .int (zI p1), .int (zI p2)] (gB D cy ad jf A u)) (va_Qi (fun (r : Int32) (v : gS) => r = zI (spStop (u.2.1 46) (u.1 26) p1 p2 61 0 0) ∧ v = u) (gB D cy ad jf A) A) 0 0 A := by
  refine Met.ofW (cc := cX12_stopAt) (maxL := 5) (ret := (some .int)) (by decide) rfl ?_
  intro p e s m args below meth c s₁ B hml hv
  obtain ⟨rfl, hG, hC⟩ := hv
  have hx := B.exec
  have hb := B.bytes
  have hr := B.returns
  have hts := atoms_spec (ws := wsX12_stopAt) B.pre
  have hown : s.vm.findClass RX12 = some m.cls := findClass_of_methodNamed B.named
  have hlocks := B.notSynchronized
  have hS : va_S A s.heap s.heap [] := va_S.rf
  have hl := lv_entry ([.ref (ad 8), .int (zI p1), .int (zI p2)]) (n := 5) (Nat.le_of_ble_eq_true rfl)
  rw [lg_entry_eq]
  generalize (lg_sl ([.ref (ad 8), .int (zI p1), .int (zI p2)]) ++ List.replicate (5 - (lg_sl ([.ref (ad 8), .int (zI p1), .int (zI p2)])).length) Slot.unset).toArray = ls at hl ⊢
  have hl : lv_has ls 5 [(0, .ref (ad 8)), (1, .int (zI p1)), (2, .int (zI p2))] := hl
  refine z_iconst hx hb dX12_stopAt_0 ?_
  refine lv_istore_n (lv' := [(3, .int (zI 0)), (0, .ref (ad 8)), (1, .int (zI p1)), (2, .int (zI p2))]) hx hb dX12_stopAt_1 rfl hl (by decide) rfl (fun ls hl => ?_)
  refine z_iconst hx hb dX12_stopAt_2 ?_
  refine lv_istore (lv' := [(4, .int (zI 0)), (3, .int (zI 0)), (0, .ref (ad 8)), (1, .int (zI p1)), (2, .int (zI p2))]) hx hb dX12_stopAt_3 hl (by decide) rfl (fun ls hl => ?_)
  have loop5 : ∀ (n : Nat) (i run : Int) (H : Heap) (locs : List Loc) (ls : Array Slot), (u.1 26 - i).toNat < n → (0 ≤ i ∧ i ≤ 60) → (0 ≤ run ∧ run ≤ i) → (spStop (u.2.1 46) (u.1 26) p1 p2 61 0 0 = spStop (u.2.1 46) (u.1 26) p1 p2 n i run) → gH D cy ad jf A u H → va_S A s.heap H locs → lv_has ls 5 [(4, .int (zI i)), (3, .int (zI run)), (0, .ref (ad 8)), (1, .int (zI p1)), (2, .int (zI p2))] → W p l e (headSpec wsX12_stopAt ({ frames := 0, cells := 0, slots := 0, locals := 0 })).room s m ([.ref (ad 8), .int (zI p1), .int (zI p2)]).toArray below meth c H locs 0 0 (MQ below (va_Qi (fun (r : Int32) (v : gS) => r = zI (spStop (u.2.1 46) (u.1 26) p1 p2 61 0 0) ∧ v = u) (gB D cy ad jf A) A) ([.ref (ad 8), .int (zI p1), .int (zI p2)]).toArray s 0 0 A) (F0 m 5 ls []) := by
    intro n
    induction n with
    | zero => intro i run  H locs ls hm; exact absurd hm (Nat.not_lt_zero _)
    | succ n ih5 =>
      intro i run  H locs ls hm hi hr9 hT hG hS hl
      refine lv_iload hx hb dX12_stopAt_5 (lv_at hl 0 rfl) ?_
      refine lv_aload_n hx hb dX12_stopAt_7 rfl (lv_at hl 2 rfl) ?_
      refine g_get (C := RX12) (T := TX12) (N := 42) (ci := 11) hx hb hts (fun _ h => (List.mem_cons_of_mem _ (List.mem_append_right _ h))) hown hC.1 hG 8 (by decide) rfl rfl 21 (by decide) (hts (.fieldLink RX12 177 "StraitSwimModel" "counted" "I") (List.mem_cons_of_mem _ (List.mem_append_left _ (List.mem_of_getElem? (i := 0) rfl)))) (fun _ h9 => h9) rfl dX12_stopAt_8 ?_
      refine z_icmp_ge (tgt := 47) hx hb dX12_stopAt_11 (by decide) (by omega) (by omega) (by omega) (by omega) (fun c_1 => ?_) (fun c_1 => ?_)
      · refine z_bipush hx hb dX12_stopAt_47 (by decide) ?_
        exact W.iret (v := zI ((-4))) hx hb hr (fun t9 ht9_ hW => ⟨⟨zI ((-4)), u, rfl, (by refine ⟨?_, rfl⟩; rw [hT, spStop]; (repeat (first | rw [if_pos (by omega)] | rw [if_neg (by omega)])); all_goals rfl), gB.mk' hG hC hS ht9_ hW⟩, hS.F ht9_⟩) hS.2.2 dX12_stopAt_49
      · refine lv_aload_n hx hb dX12_stopAt_14 rfl (lv_at hl 2 rfl) ?_
        refine g_get (C := RX12) (T := TX12) (N := 42) (ci := 11) hx hb hts (fun _ h => (List.mem_cons_of_mem _ (List.mem_append_right _ h))) hown hC.1 hG 8 (by decide) rfl rfl 22 (by decide) (hts (.fieldLink RX12 66 "StraitSwimModel" "counts" "[I") (List.mem_cons_of_mem _ (List.mem_append_left _ (List.mem_of_getElem? (i := 1) rfl)))) (fun _ h9 => h9) rfl dX12_stopAt_15 ?_
        refine lv_iload hx hb dX12_stopAt_18 (lv_at hl 0 rfl) ?_
        refine g_iald (n := 60) hx hb hC.1 hG 46 (by decide) rfl (by omega) (by omega) (by decide) dX12_stopAt_20 ?_
        have q_2 := i46 i.toNat (by omega)
        refine lv_iload_n hx hb dX12_stopAt_21 rfl (lv_at hl 3 rfl) ?_
        refine z_icmp_ge (tgt := 31) hx hb dX12_stopAt_22 (by decide) (by omega) (by omega) (by omega) (by omega) (fun c_3 => ?_) (fun c_3 => ?_)
        · refine z_iconst hx hb dX12_stopAt_31 ?_
          refine lv_istore_n (lv' := [(3, .int (zI 0)), (4, .int (zI i)), (0, .ref (ad 8)), (1, .int (zI p1)), (2, .int (zI p2))]) hx hb dX12_stopAt_32 rfl hl (by decide) rfl (fun ls hl => ?_)
          refine lv_iload_n hx hb dX12_stopAt_33 rfl (lv_at hl 0 rfl) ?_
          refine lv_iload_n hx hb dX12_stopAt_34 rfl (lv_at hl 4 rfl) ?_
          refine z_icmp_ne (tgt := 41) hx hb dX12_stopAt_35 (by decide) (by omega) (by omega) (by omega) (by omega) (fun c_4 => ?_) (fun c_4 => ?_)
          · refine z_iinc (lv' := [(4, .int (zI (i + 1))), (3, .int (zI 0)), (0, .ref (ad 8)), (1, .int (zI p1)), (2, .int (zI p2))]) hx hb dX12_stopAt_41 hl (k := 1) rfl (by decide) rfl (fun ls hl => ?_)
            refine lv_goto (tgt := 5) hx hb dX12_stopAt_44 (by decide) ?_
            exact ih5 (i + 1) 0 _ _ _ (by omega) (by omega) (by omega) (by rw [hT, spStop]; (repeat (first | rw [if_pos (by omega)] | rw [if_neg (by omega)]))) hG hS (lv_sub hl [0, 1, 2, 3, 4] rfl)
          · refine lv_iload hx hb dX12_stopAt_38 (lv_at hl 1 rfl) ?_
            exact W.iret (v := zI i) hx hb hr (fun t9 ht9_ hW => ⟨⟨zI i, u, rfl, (by refine ⟨?_, rfl⟩; rw [hT, spStop]; (repeat (first | rw [if_pos (by omega)] | rw [if_neg (by omega)])); all_goals rfl), gB.mk' hG hC hS ht9_ hW⟩, hS.F ht9_⟩) hS.2.2 dX12_stopAt_40
        · refine lv_iload_n hx hb dX12_stopAt_25 rfl (lv_at hl 1 rfl) ?_
          refine z_iconst hx hb dX12_stopAt_26 ?_
          refine z_iadd hx hb dX12_stopAt_27 ?_
          refine lv_goto (tgt := 32) hx hb dX12_stopAt_28 (by decide) ?_
          refine lv_istore_n (lv' := [(3, .int (zI (run + 1))), (4, .int (zI i)), (0, .ref (ad 8)), (1, .int (zI p1)), (2, .int (zI p2))]) hx hb dX12_stopAt_32 rfl hl (by decide) rfl (fun ls hl => ?_)
          refine lv_iload_n hx hb dX12_stopAt_33 rfl (lv_at hl 0 rfl) ?_
          refine lv_iload_n hx hb dX12_stopAt_34 rfl (lv_at hl 4 rfl) ?_
          refine z_icmp_ne (tgt := 41) hx hb dX12_stopAt_35 (by decide) (by omega) (by omega) (by omega) (by omega) (fun c_5 => ?_) (fun c_5 => ?_)
          · refine z_iinc (lv' := [(4, .int (zI (i + 1))), (3, .int (zI (run + 1))), (0, .ref (ad 8)), (1, .int (zI p1)), (2, .int (zI p2))]) hx hb dX12_stopAt_41 hl (k := 1) rfl (by decide) rfl (fun ls hl => ?_)
            refine lv_goto (tgt := 5) hx hb dX12_stopAt_44 (by decide) ?_
            exact ih5 (i + 1) (run + 1) _ _ _ (by omega) (by omega) (by omega) (by rw [hT, spStop]; (repeat (first | rw [if_pos (by omega)] | rw [if_neg (by omega)]))) hG hS (lv_sub hl [0, 1, 2, 3, 4] rfl)
          · refine lv_iload hx hb dX12_stopAt_38 (lv_at hl 1 rfl) ?_
            exact W.iret (v := zI i) hx hb hr (fun t9 ht9_ hW => ⟨⟨zI i, u, rfl, (by refine ⟨?_, rfl⟩; rw [hT, spStop]; (repeat (first | rw [if_pos (by omega)] | rw [if_neg (by omega)])); all_goals rfl), gB.mk' hG hC hS ht9_ hW⟩, hS.F ht9_⟩) hS.2.2 dX12_stopAt_40
  exact loop5 61 0 0 _ _ _ (by omega) (by omega) (by omega) (by rfl) hG hS (lv_sub hl [0, 1, 2, 3, 4] rfl)
set_option maxHeartbeats 4000000 in
set_option maxRecDepth 100000 in
theorem kX12_stop (l : Launch) (D : va_G) (cy : Nat → ClassId) (ad : Nat → Nat) (jf : Nat → Int64) (A : Nat → Prop) (u : gS) (p1 p2 : Int) (j_p1 : -2147483648 ≤ p1 ∧ p1 < 2147483648) (j_p2 : -2147483648 ≤ p2 ∧ p2 < 2147483648) (i26 : 0 ≤ u.1 26 ∧ u.1 26 ≤ 60) (i46 : ∀ j, j < 60 → 0 ≤ u.2.1 46 j ∧ u.2.1 46 j ≤ 99) : Met l yX12_stop wsX12_stop ({ frames := 1, cells := 0, slots := 0, locals := 24 }) (va_Pc [.ref (ad 8), .int (zI p1), .int (zI p2)] (gB D cy ad jf A u)) (va_Qi (fun (r : Int32) (v : gS) => r = zI (mStop u p1 p2) ∧ v = u) (gB D cy ad jf A) A) 0 0 A := by
  refine Met.ofW (cc := cX12_stop) (maxL := 3) (ret := (some .int)) (by decide) rfl ?_
  intro p e s m args below meth c s₁ B hml hv
  obtain ⟨rfl, hG, hC⟩ := hv
  have hx := B.exec
  have hb := B.bytes
  have hr := B.returns
  have hts := atoms_spec (ws := wsX12_stop) B.pre
  have hown : s.vm.findClass RX12 = some m.cls := findClass_of_methodNamed B.named
  have hlocks := B.notSynchronized
  have hS : va_S A s.heap s.heap [] := va_S.rf
  have hl := lv_entry ([.ref (ad 8), .int (zI p1), .int (zI p2)]) (n := 3) (Nat.le_of_ble_eq_true rfl)
  rw [lg_entry_eq]
  generalize (lg_sl ([.ref (ad 8), .int (zI p1), .int (zI p2)]) ++ List.replicate (3 - (lg_sl ([.ref (ad 8), .int (zI p1), .int (zI p2)])).length) Slot.unset).toArray = ls at hl ⊢
  have hl : lv_has ls 3 [(0, .ref (ad 8)), (1, .int (zI p1)), (2, .int (zI p2))] := hl
  refine lv_iload_n hx hb dX12_stop_0 rfl (lv_at hl 1 rfl) ?_
  refine z_iconst hx hb dX12_stop_1 ?_
  refine z_bipush hx hb dX12_stop_2 (by decide) ?_
  refine g_calli (va_runS (As := [.int (zI p1), .int (zI 0), .int (zI 99)]) (rest := []) ⟨hx, hb, hml, hown, hts⟩ (kX12_in l D cy ad jf A u p1 0 99 (by omega) (by omega) (by omega)) (va_cwS 3 hts gX12_stop_X12_in rfl rfl rfl (by decide +kernel) ⟨by decide, by decide⟩) (g_preS hG hC hS) rfl rfl hl.1 rfl (lv_room (Nat.le_of_ble_eq_true rfl)) dX12_stop_4 ⟨Nat.le_of_ble_eq_true rfl, Nat.le_of_ble_eq_true rfl⟩) hS (fun r1 u2 H locs p_3 hG hS => ?_)
  obtain ⟨⟨b4, rfl, q_5⟩, he_⟩ := p_3
  rw [he_] at hG; clear he_
  have hbb4 : 0 ≤ b4 ∧ b4 ≤ 1 := by rcases q_5 with ⟨h, _⟩ | ⟨h, _⟩ <;> omega
  refine z_if_eq (tgt := 29) hx hb dX12_stop_7 (by decide) (by omega) (by omega) (fun c_6 => ?_) (fun c_6 => ?_)
  · refine z_iconst hx hb dX12_stop_29 ?_
    exact W.iret (v := zI ((-1))) hx hb hr (fun t9 ht9_ hW => ⟨⟨zI ((-1)), u, rfl, (by refine ⟨?_, rfl⟩; unfold mStop; (repeat (first | rw [if_pos (by omega)] | rw [if_neg (by omega)])); all_goals (first | rfl | (congr 1; omega) | (subst_vars; rfl))), gB.mk' hG hC hS ht9_ hW⟩, hS.F ht9_⟩) hS.2.2 dX12_stop_30
  · refine lv_iload_n hx hb dX12_stop_10 rfl (lv_at hl 2 rfl) ?_
    refine z_iconst hx hb dX12_stop_11 ?_
    refine z_bipush hx hb dX12_stop_12 (by decide) ?_
    refine g_calli (va_runS (As := [.int (zI p2), .int (zI 1), .int (zI 10)]) (rest := []) ⟨hx, hb, hml, hown, hts⟩ (kX12_in l D cy ad jf A u p2 1 10 (by omega) (by omega) (by omega)) (va_cwS 3 hts gX12_stop_X12_in rfl rfl rfl (by decide +kernel) ⟨by decide, by decide⟩) (g_preS hG hC hS) rfl rfl hl.1 rfl (lv_room (Nat.le_of_ble_eq_true rfl)) dX12_stop_14 ⟨Nat.le_of_ble_eq_true rfl, Nat.le_of_ble_eq_true rfl⟩) hS (fun r7 u8 H locs p_9 hG hS => ?_)
    obtain ⟨⟨b10, rfl, q_11⟩, he_⟩ := p_9
    rw [he_] at hG; clear he_
    have hbb10 : 0 ≤ b10 ∧ b10 ≤ 1 := by rcases q_11 with ⟨h, _⟩ | ⟨h, _⟩ <;> omega
    refine z_if_eq (tgt := 29) hx hb dX12_stop_17 (by decide) (by omega) (by omega) (fun c_12 => ?_) (fun c_12 => ?_)
    · refine z_iconst hx hb dX12_stop_29 ?_
      exact W.iret (v := zI ((-1))) hx hb hr (fun t9 ht9_ hW => ⟨⟨zI ((-1)), u, rfl, (by refine ⟨?_, rfl⟩; unfold mStop; (repeat (first | rw [if_pos (by omega)] | rw [if_neg (by omega)])); all_goals (first | rfl | (congr 1; omega) | (subst_vars; rfl))), gB.mk' hG hC hS ht9_ hW⟩, hS.F ht9_⟩) hS.2.2 dX12_stop_30
    · refine lv_aload_n hx hb dX12_stop_20 rfl (lv_at hl 0 rfl) ?_
      refine lv_iload_n hx hb dX12_stop_21 rfl (lv_at hl 1 rfl) ?_
      refine lv_iload_n hx hb dX12_stop_22 rfl (lv_at hl 2 rfl) ?_
      refine g_calli (va_runV (As := [.int (zI p1), .int (zI p2)]) (rest := []) ⟨hx, hb, hml, hown, hts⟩ (kX12_stopAt l D cy ad jf A u p1 p2 (by omega) (by omega) i26 i46) (cwV 2 hts gX12_stop_X12_stopAt rfl rfl rfl (by decide +kernel) ⟨by decide, by decide⟩) (g_preV (C := RX12) hG hC hS 8 (by decide) rfl rfl) rfl rfl hl.1 rfl (lv_room (Nat.le_of_ble_eq_true rfl)) dX12_stop_23 ⟨Nat.le_of_ble_eq_true rfl, Nat.le_of_ble_eq_true rfl⟩) hS (fun r13 u14 H locs p_15 hG hS => ?_)
      obtain ⟨rfl, he_⟩ := p_15
      rw [he_] at hG; clear he_
      obtain ⟨z16, hz16⟩ : ∃ z : Int, z = spStop (u.2.1 46) (u.1 26) p1 p2 61 0 0 := ⟨_, rfl⟩
      rw [← hz16]
      have qz16 : -4 ≤ z16 ∧ z16 ≤ 60 := by rw [hz16]; exact spStop_bnd _ _ _ _ (by omega) _ _ _ (by omega)
      refine lv_goto (tgt := 30) hx hb dX12_stop_26 (by decide) ?_
      exact W.iret (v := zI z16) hx hb hr (fun t9 ht9_ hW => ⟨⟨zI z16, u, rfl, (by refine ⟨?_, rfl⟩; unfold mStop; (repeat (first | rw [if_pos (by omega)] | rw [if_neg (by omega)])); all_goals (first | rfl | (congr 1; omega) | (subst_vars; rfl))), gB.mk' hG hC hS ht9_ hW⟩, hS.F ht9_⟩) hS.2.2 dX12_stop_30
set_option maxHeartbeats 4000000 in
set_option maxRecDepth 100000 in
theorem kX12_floor (l : Launch) (D : va_G) (cy : Nat → ClassId) (ad : Nat → Nat) (jf : Nat → Int64) (A : Nat → Prop) (u : gS) (p1 : Int) (j_p1 : -2147483648 ≤ p1 ∧ p1 < 2147483648) (i26 : 0 ≤ u.1 26 ∧ u.1 26 ≤ 60) (i46 : ∀ j, j < 60 → 0 ≤ u.2.1 46 j ∧ u.2.1 46 j ≤ 99) : Met l yX12_floor wsX12_floor ({ frames := 1, cells := 0, slots := 0, locals := 24 }) (va_Pc [.ref (ad 8), .int (zI p1)] (gB D cy ad jf A u)) (va_Qi (fun (r : Int32) (v : gS) => r = zI (mFloor u p1) ∧ v = u) (gB D cy ad jf A) A) 0 0 A := by
  refine Met.ofW (cc := cX12_floor) (maxL := 3) (ret := (some .int)) (by decide) rfl ?_
  intro p e s m args below meth c s₁ B hml hv
  obtain ⟨rfl, hG, hC⟩ := hv
  have hx := B.exec
  have hb := B.bytes
  have hr := B.returns
  have hts := atoms_spec (ws := wsX12_floor) B.pre
  have hown : s.vm.findClass RX12 = some m.cls := findClass_of_methodNamed B.named
  have hlocks := B.notSynchronized
  have hS : va_S A s.heap s.heap [] := va_S.rf
  have hl := lv_entry ([.ref (ad 8), .int (zI p1)]) (n := 3) (Nat.le_of_ble_eq_true rfl)
  rw [lg_entry_eq]
  generalize (lg_sl ([.ref (ad 8), .int (zI p1)]) ++ List.replicate (3 - (lg_sl ([.ref (ad 8), .int (zI p1)])).length) Slot.unset).toArray = ls at hl ⊢
  have hl : lv_has ls 3 [(0, .ref (ad 8)), (1, .int (zI p1))] := hl
  refine lv_iload_n hx hb dX12_floor_0 rfl (lv_at hl 1 rfl) ?_
  refine z_iconst hx hb dX12_floor_1 ?_
  refine z_bipush hx hb dX12_floor_2 (by decide) ?_
  refine g_calli (va_runS (As := [.int (zI p1), .int (zI 1), .int (zI 10)]) (rest := []) ⟨hx, hb, hml, hown, hts⟩ (kX12_in l D cy ad jf A u p1 1 10 (by omega) (by omega) (by omega)) (va_cwS 3 hts gX12_floor_X12_in rfl rfl rfl (by decide +kernel) ⟨by decide, by decide⟩) (g_preS hG hC hS) rfl rfl hl.1 rfl (lv_room (Nat.le_of_ble_eq_true rfl)) dX12_floor_4 ⟨Nat.le_of_ble_eq_true rfl, Nat.le_of_ble_eq_true rfl⟩) hS (fun r1 u2 H locs p_3 hG hS => ?_)
  obtain ⟨⟨b4, rfl, q_5⟩, he_⟩ := p_3
  rw [he_] at hG; clear he_
  have hbb4 : 0 ≤ b4 ∧ b4 ≤ 1 := by rcases q_5 with ⟨h, _⟩ | ⟨h, _⟩ <;> omega
  refine z_if_ne (tgt := 12) hx hb dX12_floor_7 (by decide) (by omega) (by omega) (fun c_6 => ?_) (fun c_6 => ?_)
  · refine z_iconst hx hb dX12_floor_12 ?_
    refine lv_istore_n (lv' := [(2, .int (zI 0)), (0, .ref (ad 8)), (1, .int (zI p1))]) hx hb dX12_floor_13 rfl hl (by decide) rfl (fun ls hl => ?_)
    have loop14 : ∀ (n : Nat) (f : Int) (H : Heap) (locs : List Loc) (ls : Array Slot), (100 - f).toNat < n → (0 ≤ f ∧ f ≤ 100) → (spFloor (u.2.1 46) (u.1 26) p1 101 0 = spFloor (u.2.1 46) (u.1 26) p1 n f) → gH D cy ad jf A u H → va_S A s.heap H locs → lv_has ls 3 [(2, .int (zI f)), (0, .ref (ad 8)), (1, .int (zI p1))] → W p l e (headSpec wsX12_floor ({ frames := 1, cells := 0, slots := 0, locals := 24 })).room s m ([.ref (ad 8), .int (zI p1)]).toArray below meth c H locs 0 0 (MQ below (va_Qi (fun (r : Int32) (v : gS) => r = zI (mFloor u p1) ∧ v = u) (gB D cy ad jf A) A) ([.ref (ad 8), .int (zI p1)]).toArray s 0 0 A) (F0 m 14 ls []) := by
      intro n
      induction n with
      | zero => intro f  H locs ls hm; exact absurd hm (Nat.not_lt_zero _)
      | succ n ih14 =>
        intro f  H locs ls hm hi hT hG hS hl
        refine lv_iload_n hx hb dX12_floor_14 rfl (lv_at hl 0 rfl) ?_
        refine z_bipush hx hb dX12_floor_15 (by decide) ?_
        refine z_icmp_ge (tgt := 39) hx hb dX12_floor_17 (by decide) (by omega) (by omega) (by omega) (by omega) (fun c_7 => ?_) (fun c_7 => ?_)
        · refine z_bipush hx hb dX12_floor_39 (by decide) ?_
          exact W.iret (v := zI ((-4))) hx hb hr (fun t9 ht9_ hW => ⟨⟨zI ((-4)), u, rfl, (by refine ⟨?_, rfl⟩; unfold mFloor; (repeat (first | rw [if_pos (by omega)] | rw [if_neg (by omega)])); all_goals (rw [hT, spFloor]; subst_vars; (repeat (first | rw [if_pos (by omega)] | rw [if_neg (by omega)])); all_goals rfl)), gB.mk' hG hC hS ht9_ hW⟩, hS.F ht9_⟩) hS.2.2 dX12_floor_41
        · refine lv_aload_n hx hb dX12_floor_20 rfl (lv_at hl 1 rfl) ?_
          refine lv_iload_n hx hb dX12_floor_21 rfl (lv_at hl 0 rfl) ?_
          refine lv_iload_n hx hb dX12_floor_22 rfl (lv_at hl 2 rfl) ?_
          refine g_calli (va_runV (As := [.int (zI f), .int (zI p1)]) (rest := []) ⟨hx, hb, hml, hown, hts⟩ (kX12_stopAt l D cy ad jf A u f p1 (by omega) (by omega) i26 i46) (cwV 2 hts gX12_floor_X12_stopAt rfl rfl rfl (by decide +kernel) ⟨by decide, by decide⟩) (g_preV (C := RX12) hG hC hS 8 (by decide) rfl rfl) rfl rfl hl.1 rfl (lv_room (Nat.le_of_ble_eq_true rfl)) dX12_floor_23 ⟨Nat.le_of_ble_eq_true rfl, Nat.le_of_ble_eq_true rfl⟩) hS (fun r8 u9 H locs p_10 hG hS => ?_)
          obtain ⟨rfl, he_⟩ := p_10
          rw [he_] at hG; clear he_
          obtain ⟨z11, hz11⟩ : ∃ z : Int, z = spStop (u.2.1 46) (u.1 26) f p1 61 0 0 := ⟨_, rfl⟩
          rw [← hz11]
          have qz11 : -4 ≤ z11 ∧ z11 ≤ 60 := by rw [hz11]; exact spStop_bnd _ _ _ _ (by omega) _ _ _ (by omega)
          refine z_bipush hx hb dX12_floor_26 (by decide) ?_
          refine z_icmp_eq (tgt := 33) hx hb dX12_floor_28 (by decide) (by omega) (by omega) (by omega) (by omega) (fun c_12 => ?_) (fun c_12 => ?_)
          · refine z_iinc (lv' := [(2, .int (zI (f + 1))), (0, .ref (ad 8)), (1, .int (zI p1))]) hx hb dX12_floor_33 hl (k := 0) rfl (by decide) rfl (fun ls hl => ?_)
            refine lv_goto (tgt := 14) hx hb dX12_floor_36 (by decide) ?_
            exact ih14 (f + 1) _ _ _ (by omega) (by omega) (by rw [hT, spFloor]; subst_vars; (repeat (first | rw [if_pos (by omega)] | rw [if_neg (by omega)]))) hG hS (lv_sub hl [0, 1, 2] rfl)
          · refine lv_iload_n hx hb dX12_floor_31 rfl (lv_at hl 0 rfl) ?_
            exact W.iret (v := zI f) hx hb hr (fun t9 ht9_ hW => ⟨⟨zI f, u, rfl, (by refine ⟨?_, rfl⟩; unfold mFloor; (repeat (first | rw [if_pos (by omega)] | rw [if_neg (by omega)])); all_goals (rw [hT, spFloor]; subst_vars; (repeat (first | rw [if_pos (by omega)] | rw [if_neg (by omega)])); all_goals rfl)), gB.mk' hG hC hS ht9_ hW⟩, hS.F ht9_⟩) hS.2.2 dX12_floor_32
    exact loop14 101 0 _ _ _ (by omega) (by omega) (by rfl) hG hS (lv_sub hl [0, 1, 2] rfl)
  · refine z_iconst hx hb dX12_floor_10 ?_
    exact W.iret (v := zI ((-1))) hx hb hr (fun t9 ht9_ hW => ⟨⟨zI ((-1)), u, rfl, (by refine ⟨?_, rfl⟩; unfold mFloor; (repeat (first | rw [if_pos (by omega)] | rw [if_neg (by omega)])); all_goals rfl), gB.mk' hG hC hS ht9_ hW⟩, hS.F ht9_⟩) hS.2.2 dX12_floor_11
set_option maxHeartbeats 4000000 in
set_option maxRecDepth 100000 in
theorem kX12_land (l : Launch) (D : va_G) (cy : Nat → ClassId) (ad : Nat → Nat) (jf : Nat → Int64) (A : Nat → Prop) (u : gS) (p1 p2 p3 p4 : Int) (j_p1 : -2147483648 ≤ p1 ∧ p1 < 2147483648) (j_p2 : -2147483648 ≤ p2 ∧ p2 < 2147483648) (j_p3 : -2147483648 ≤ p3 ∧ p3 < 2147483648) (j_b : p4 = 0 ∨ p4 = 1) (hd : ∀ j, j < 288 → u.2.1 31 j = 0 ∨ u.2.1 31 j = 1) : Met l yX12_land wsX12_land ({ frames := 1, cells := 0, slots := 0, locals := 22 }) (va_Pc [.ref (ad 8), .int (zI p1), .int (zI p2), .int (zI p3), .int (zI p4)] (gB D cy ad jf A u)) (va_Qi (fun (r : Int32) (v : gS) => r = zI (mLand u p1 p2 p3 p4).1 ∧ v = (mLand u p1 p2 p3 p4).2) (gB D cy ad jf A) A) 0 0 A := by
  refine Met.ofW (cc := cX12_land) (maxL := 7) (ret := (some .int)) (by decide) rfl ?_
  intro p e s m args below meth c s₁ B hml hv
  obtain ⟨rfl, hG, hC⟩ := hv
  have hx := B.exec
  have hb := B.bytes
  have hr := B.returns
  have hts := atoms_spec (ws := wsX12_land) B.pre
  have hown : s.vm.findClass RX12 = some m.cls := findClass_of_methodNamed B.named
  have hlocks := B.notSynchronized
  have hS : va_S A s.heap s.heap [] := va_S.rf
  have hl := lv_entry ([.ref (ad 8), .int (zI p1), .int (zI p2), .int (zI p3), .int (zI p4)]) (n := 7) (Nat.le_of_ble_eq_true rfl)
  rw [lg_entry_eq]
  generalize (lg_sl ([.ref (ad 8), .int (zI p1), .int (zI p2), .int (zI p3), .int (zI p4)]) ++ List.replicate (7 - (lg_sl ([.ref (ad 8), .int (zI p1), .int (zI p2), .int (zI p3), .int (zI p4)])).length) Slot.unset).toArray = ls at hl ⊢
  have hl : lv_has ls 7 [(0, .ref (ad 8)), (1, .int (zI p1)), (2, .int (zI p2)), (3, .int (zI p3)), (4, .int (zI p4))] := hl
  refine lv_iload_n hx hb dX12_land_0 rfl (lv_at hl 1 rfl) ?_
  refine z_iconst hx hb dX12_land_1 ?_
  refine z_bipush hx hb dX12_land_2 (by decide) ?_
  refine g_calli (va_runS (As := [.int (zI p1), .int (zI 0), .int (zI 11)]) (rest := []) ⟨hx, hb, hml, hown, hts⟩ (kX12_in l D cy ad jf A u p1 0 11 (by omega) (by omega) (by omega)) (va_cwS 3 hts gX12_land_X12_in rfl rfl rfl (by decide +kernel) ⟨by decide, by decide⟩) (g_preS hG hC hS) rfl rfl hl.1 rfl (lv_room (Nat.le_of_ble_eq_true rfl)) dX12_land_4 ⟨Nat.le_of_ble_eq_true rfl, Nat.le_of_ble_eq_true rfl⟩) hS (fun r1 u2 H locs p_3 hG hS => ?_)
  obtain ⟨⟨b4, rfl, q_5⟩, he_⟩ := p_3
  rw [he_] at hG; clear he_
  have hbb4 : 0 ≤ b4 ∧ b4 ≤ 1 := by rcases q_5 with ⟨h, _⟩ | ⟨h, _⟩ <;> omega
  refine z_if_eq (tgt := 30) hx hb dX12_land_7 (by decide) (by omega) (by omega) (fun c_6 => ?_) (fun c_6 => ?_)
  · refine z_iconst hx hb dX12_land_30 ?_
    exact W.iret (v := zI ((-1))) hx hb hr (fun t9 ht9_ hW => ⟨⟨zI ((-1)), u, rfl, (by unfold mLand; (repeat (first | rw [if_pos (by omega)] | rw [if_neg (by omega)])); all_goals exact ⟨rfl, rfl⟩), gB.mk' hG hC hS ht9_ hW⟩, hS.F ht9_⟩) hS.2.2 dX12_land_31
  · refine lv_iload_n hx hb dX12_land_10 rfl (lv_at hl 2 rfl) ?_
    refine z_iconst hx hb dX12_land_11 ?_
    refine z_bipush hx hb dX12_land_12 (by decide) ?_
    refine g_calli (va_runS (As := [.int (zI p2), .int (zI 0), .int (zI 23)]) (rest := []) ⟨hx, hb, hml, hown, hts⟩ (kX12_in l D cy ad jf A u p2 0 23 (by omega) (by omega) (by omega)) (va_cwS 3 hts gX12_land_X12_in rfl rfl rfl (by decide +kernel) ⟨by decide, by decide⟩) (g_preS hG hC hS) rfl rfl hl.1 rfl (lv_room (Nat.le_of_ble_eq_true rfl)) dX12_land_14 ⟨Nat.le_of_ble_eq_true rfl, Nat.le_of_ble_eq_true rfl⟩) hS (fun r7 u8 H locs p_9 hG hS => ?_)
    obtain ⟨⟨b10, rfl, q_11⟩, he_⟩ := p_9
    rw [he_] at hG; clear he_
    have hbb10 : 0 ≤ b10 ∧ b10 ≤ 1 := by rcases q_11 with ⟨h, _⟩ | ⟨h, _⟩ <;> omega
    refine z_if_eq (tgt := 30) hx hb dX12_land_17 (by decide) (by omega) (by omega) (fun c_12 => ?_) (fun c_12 => ?_)
    · refine z_iconst hx hb dX12_land_30 ?_
      exact W.iret (v := zI ((-1))) hx hb hr (fun t9 ht9_ hW => ⟨⟨zI ((-1)), u, rfl, (by unfold mLand; (repeat (first | rw [if_pos (by omega)] | rw [if_neg (by omega)])); all_goals exact ⟨rfl, rfl⟩), gB.mk' hG hC hS ht9_ hW⟩, hS.F ht9_⟩) hS.2.2 dX12_land_31
    · refine lv_iload_n hx hb dX12_land_20 rfl (lv_at hl 3 rfl) ?_
      refine lv_iload_n hx hb dX12_land_21 rfl (lv_at hl 2 rfl) ?_
      refine z_bipush hx hb dX12_land_22 (by decide) ?_
      refine g_calli (va_runS (As := [.int (zI p3), .int (zI p2), .int (zI 23)]) (rest := []) ⟨hx, hb, hml, hown, hts⟩ (kX12_in l D cy ad jf A u p3 p2 23 (by omega) (by omega) (by omega)) (va_cwS 3 hts gX12_land_X12_in rfl rfl rfl (by decide +kernel) ⟨by decide, by decide⟩) (g_preS hG hC hS) rfl rfl hl.1 rfl (lv_room (Nat.le_of_ble_eq_true rfl)) dX12_land_24 ⟨Nat.le_of_ble_eq_true rfl, Nat.le_of_ble_eq_true rfl⟩) hS (fun r13 u14 H locs p_15 hG hS => ?_)
      obtain ⟨⟨b16, rfl, q_17⟩, he_⟩ := p_15
      rw [he_] at hG; clear he_
      have hbb16 : 0 ≤ b16 ∧ b16 ≤ 1 := by rcases q_17 with ⟨h, _⟩ | ⟨h, _⟩ <;> omega
      refine z_if_ne (tgt := 32) hx hb dX12_land_27 (by decide) (by omega) (by omega) (fun c_18 => ?_) (fun c_18 => ?_)
      · refine z_iconst hx hb dX12_land_32 ?_
        refine lv_istore (lv' := [(5, .int (zI 0)), (0, .ref (ad 8)), (1, .int (zI p1)), (2, .int (zI p2)), (3, .int (zI p3)), (4, .int (zI p4))]) hx hb dX12_land_33 hl (by decide) rfl (fun ls hl => ?_)
        refine lv_iload_n hx hb dX12_land_35 rfl (lv_at hl 3 rfl) ?_
        refine lv_istore (lv' := [(6, .int (zI p2)), (5, .int (zI 0)), (0, .ref (ad 8)), (1, .int (zI p1)), (2, .int (zI p2)), (3, .int (zI p3)), (4, .int (zI p4))]) hx hb dX12_land_36 hl (by decide) rfl (fun ls hl => ?_)
        have loop38 : ∀ (n : Nat) (i k : Int) (w : gS) (H : Heap) (locs : List Loc) (ls : Array Slot), (p3 + 1 - i).toNat < n → (0 ≤ i ∧ i ≤ p3 + 1) → (0 ≤ k ∧ k ≤ i) → (∀ j, j < 288 → w.2.1 31 j = 0 ∨ w.2.1 31 j = 1) → (mLandL p1 p3 p4 25 p2 0 u = mLandL p1 p3 p4 n i k w) → gH D cy ad jf A w H → va_S A s.heap H locs → lv_has ls 7 [(6, .int (zI i)), (5, .int (zI k)), (0, .ref (ad 8)), (1, .int (zI p1)), (2, .int (zI p2)), (3, .int (zI p3)), (4, .int (zI p4))] → W p l e (headSpec wsX12_land ({ frames := 1, cells := 0, slots := 0, locals := 22 })).room s m ([.ref (ad 8), .int (zI p1), .int (zI p2), .int (zI p3), .int (zI p4)]).toArray below meth c H locs 0 0 (MQ below (va_Qi (fun (r : Int32) (v : gS) => r = zI (mLand u p1 p2 p3 p4).1 ∧ v = (mLand u p1 p2 p3 p4).2) (gB D cy ad jf A) A) ([.ref (ad 8), .int (zI p1), .int (zI p2), .int (zI p3), .int (zI p4)]).toArray s 0 0 A) (F0 m 38 ls []) := by
          intro n
          induction n with
          | zero => intro i k w H locs ls hm; exact absurd hm (Nat.not_lt_zero _)
          | succ n ih38 =>
            intro i k w H locs ls hm hi hk9 i31 hT hG hS hl
            refine lv_iload hx hb dX12_land_38 (lv_at hl 0 rfl) ?_
            refine lv_iload_n hx hb dX12_land_40 rfl (lv_at hl 5 rfl) ?_
            refine z_icmp_gt (tgt := 91) hx hb dX12_land_41 (by decide) (by omega) (by omega) (by omega) (by omega) (fun c_19 => ?_) (fun c_19 => ?_)
            · refine lv_iload hx hb dX12_land_91 (lv_at hl 1 rfl) ?_
              exact W.iret (v := zI k) hx hb hr (fun t9 ht9_ hW => ⟨⟨zI k, w, rfl, (by unfold mLand; (repeat (first | rw [if_pos (by omega)] | rw [if_neg (by omega)])); rw [hT, mLandL]; (repeat (first | rw [if_pos (by omega)] | rw [if_neg (by omega)])); all_goals exact ⟨rfl, rfl⟩), gB.mk' hG hC hS ht9_ hW⟩, hS.F ht9_⟩) hS.2.2 dX12_land_93
            · refine lv_iload hx hb dX12_land_44 (lv_at hl 1 rfl) ?_
              refine lv_aload_n hx hb dX12_land_46 rfl (lv_at hl 2 rfl) ?_
              refine g_get (C := RX12) (T := TX12) (N := 42) (ci := 11) hx hb hts (fun _ h => (List.mem_cons_of_mem _ (List.mem_append_right _ h))) hown hC.1 hG 8 (by decide) rfl rfl 1 (by decide) (hts (.fieldLink RX12 7 "StraitSwimModel" "cells" "[Z") (List.mem_cons_of_mem _ (List.mem_append_left _ (List.mem_of_getElem? (i := 0) rfl)))) (fun _ h9 => h9) rfl dX12_land_47 ?_
              refine z_bipush hx hb dX12_land_50 (by decide) ?_
              refine lv_iload_n hx hb dX12_land_52 rfl (lv_at hl 3 rfl) ?_
              refine z_imul hx hb dX12_land_53 ?_
              refine lv_iload hx hb dX12_land_54 (lv_at hl 0 rfl) ?_
              refine z_iadd hx hb dX12_land_56 ?_
              refine g_zald (n := 288) hx hb hC.1 hG 31 (by decide) rfl (by omega) (by omega) (by decide) dX12_land_57 ?_
              have q_20 := i31 ((24 * p1) + i).toNat (by omega)
              refine lv_iload hx hb dX12_land_58 (lv_at hl 6 rfl) ?_
              refine z_icmp_eq (tgt := 67) hx hb dX12_land_60 (by decide) (by omega) (by omega) (by omega) (by omega) (fun c_21 => ?_) (fun c_21 => ?_)
              · refine z_iconst hx hb dX12_land_67 ?_
                refine z_iadd hx hb dX12_land_68 ?_
                refine lv_istore (lv' := [(5, .int (zI (k + 0))), (6, .int (zI i)), (0, .ref (ad 8)), (1, .int (zI p1)), (2, .int (zI p2)), (3, .int (zI p3)), (4, .int (zI p4))]) hx hb dX12_land_69 hl (by decide) rfl (fun ls hl => ?_)
                refine lv_aload_n hx hb dX12_land_71 rfl (lv_at hl 2 rfl) ?_
                refine g_get (C := RX12) (T := TX12) (N := 42) (ci := 11) hx hb hts (fun _ h => (List.mem_cons_of_mem _ (List.mem_append_right _ h))) hown hC.1 hG 8 (by decide) rfl rfl 1 (by decide) (hts (.fieldLink RX12 7 "StraitSwimModel" "cells" "[Z") (List.mem_cons_of_mem _ (List.mem_append_left _ (List.mem_of_getElem? (i := 0) rfl)))) (fun _ h9 => h9) rfl dX12_land_72 ?_
                refine z_bipush hx hb dX12_land_75 (by decide) ?_
                refine lv_iload_n hx hb dX12_land_77 rfl (lv_at hl 3 rfl) ?_
                refine z_imul hx hb dX12_land_78 ?_
                refine lv_iload hx hb dX12_land_79 (lv_at hl 1 rfl) ?_
                refine z_iadd hx hb dX12_land_81 ?_
                refine lv_iload hx hb dX12_land_82 (lv_at hl 6 rfl) ?_
                refine g_zast (n := 288) hx hb hC.1 hG hS 31 (by decide) (by omega) rfl rfl (by omega) (by omega) (by decide) dX12_land_84 (fun u22 H locs hu22 hG hS => ?_)
                refine z_iinc (lv' := [(6, .int (zI (i + 1))), (5, .int (zI (k + 0))), (0, .ref (ad 8)), (1, .int (zI p1)), (2, .int (zI p2)), (3, .int (zI p3)), (4, .int (zI p4))]) hx hb dX12_land_85 hl (k := 1) rfl (by decide) rfl (fun ls hl => ?_)
                refine lv_goto (tgt := 38) hx hb dX12_land_88 (by decide) ?_
                exact ih38 (i + 1) (k + 0) u22 _ _ _ (by omega) (by omega) (by omega) (by subst hu22; exact up_b i31 j_b) (by rw [hT, mLandL]; subst hu22; (repeat (first | rw [if_pos (by omega)] | rw [if_neg (by omega)])); all_goals rfl) hG hS (lv_sub hl [0, 1, 2, 3, 4, 5, 6] rfl)
              · refine z_iconst hx hb dX12_land_63 ?_
                refine lv_goto (tgt := 68) hx hb dX12_land_64 (by decide) ?_
                refine z_iadd hx hb dX12_land_68 ?_
                refine lv_istore (lv' := [(5, .int (zI (k + 1))), (6, .int (zI i)), (0, .ref (ad 8)), (1, .int (zI p1)), (2, .int (zI p2)), (3, .int (zI p3)), (4, .int (zI p4))]) hx hb dX12_land_69 hl (by decide) rfl (fun ls hl => ?_)
                refine lv_aload_n hx hb dX12_land_71 rfl (lv_at hl 2 rfl) ?_
                refine g_get (C := RX12) (T := TX12) (N := 42) (ci := 11) hx hb hts (fun _ h => (List.mem_cons_of_mem _ (List.mem_append_right _ h))) hown hC.1 hG 8 (by decide) rfl rfl 1 (by decide) (hts (.fieldLink RX12 7 "StraitSwimModel" "cells" "[Z") (List.mem_cons_of_mem _ (List.mem_append_left _ (List.mem_of_getElem? (i := 0) rfl)))) (fun _ h9 => h9) rfl dX12_land_72 ?_
                refine z_bipush hx hb dX12_land_75 (by decide) ?_
                refine lv_iload_n hx hb dX12_land_77 rfl (lv_at hl 3 rfl) ?_
                refine z_imul hx hb dX12_land_78 ?_
                refine lv_iload hx hb dX12_land_79 (lv_at hl 1 rfl) ?_
                refine z_iadd hx hb dX12_land_81 ?_
                refine lv_iload hx hb dX12_land_82 (lv_at hl 6 rfl) ?_
                refine g_zast (n := 288) hx hb hC.1 hG hS 31 (by decide) (by omega) rfl rfl (by omega) (by omega) (by decide) dX12_land_84 (fun u23 H locs hu23 hG hS => ?_)
                refine z_iinc (lv' := [(6, .int (zI (i + 1))), (5, .int (zI (k + 1))), (0, .ref (ad 8)), (1, .int (zI p1)), (2, .int (zI p2)), (3, .int (zI p3)), (4, .int (zI p4))]) hx hb dX12_land_85 hl (k := 1) rfl (by decide) rfl (fun ls hl => ?_)
                refine lv_goto (tgt := 38) hx hb dX12_land_88 (by decide) ?_
                exact ih38 (i + 1) (k + 1) u23 _ _ _ (by omega) (by omega) (by omega) (by subst hu23; exact up_b i31 j_b) (by rw [hT, mLandL]; subst hu23; (repeat (first | rw [if_pos (by omega)] | rw [if_neg (by omega)])); all_goals rfl) hG hS (lv_sub hl [0, 1, 2, 3, 4, 5, 6] rfl)
        exact loop38 25 p2 0 u _ _ _ (by omega) (by omega) (by omega) (by exact hd) (by rfl) hG hS (lv_sub hl [0, 1, 2, 3, 4, 5, 6] rfl)
      · refine z_iconst hx hb dX12_land_30 ?_
        exact W.iret (v := zI ((-1))) hx hb hr (fun t9 ht9_ hW => ⟨⟨zI ((-1)), u, rfl, (by unfold mLand; (repeat (first | rw [if_pos (by omega)] | rw [if_neg (by omega)])); all_goals exact ⟨rfl, rfl⟩), gB.mk' hG hC hS ht9_ hW⟩, hS.F ht9_⟩) hS.2.2 dX12_land_31
set_option maxHeartbeats 4000000 in
set_option maxRecDepth 100000 in
theorem kX12_voided (l : Launch) (D : va_G) (cy : Nat → ClassId) (ad : Nat → Nat) (jf : Nat → Int64) (A : Nat → Prop) (u : gS) (i27 : 0 ≤ u.1 27 ∧ u.1 27 ≤ 6) (i28 : 0 ≤ u.1 28 ∧ u.1 28 ≤ 40) (i47 : ∀ j, j < 6 → 0 ≤ u.2.1 47 j ∧ u.2.1 47 j ≤ 15) (i48 : ∀ j, j < 40 → 0 ≤ u.2.1 48 j ∧ u.2.1 48 j ≤ 15) : Met l yX12_voided wsX12_voided ({ frames := 0, cells := 0, slots := 0, locals := 0 }) (va_Pc [.ref (ad 8)] (gB D cy ad jf A u)) (va_Qi (fun (r : Int32) (v : gS) => r = zI (mVoided u) ∧ v = u) (gB D cy ad jf A) A) 0 0 A := by
  refine Met.ofW (cc := cX12_voided) (maxL := 2) (ret := (some .int)) (by decide) rfl ?_
  intro p e s m args below meth c s₁ B hml hv
  obtain ⟨rfl, hG, hC⟩ := hv
  have hx := B.exec
  have hb := B.bytes
  have hr := B.returns
  have hts := atoms_spec (ws := wsX12_voided) B.pre
  have hown : s.vm.findClass RX12 = some m.cls := findClass_of_methodNamed B.named
  have hlocks := B.notSynchronized
  have hS : va_S A s.heap s.heap [] := va_S.rf
  have hl := lv_entry ([.ref (ad 8)]) (n := 2) (Nat.le_of_ble_eq_true rfl)
  rw [lg_entry_eq]
  generalize (lg_sl ([.ref (ad 8)]) ++ List.replicate (2 - (lg_sl ([.ref (ad 8)])).length) Slot.unset).toArray = ls at hl ⊢
  have hl : lv_has ls 2 [(0, .ref (ad 8))] := hl
  refine lv_aload_n hx hb dX12_voided_0 rfl (lv_at hl 0 rfl) ?_
  refine g_get (C := RX12) (T := TX12) (N := 42) (ci := 11) hx hb hts (fun _ h => (List.mem_cons_of_mem _ (List.mem_append_right _ h))) hown hC.1 hG 8 (by decide) rfl rfl 23 (by decide) (hts (.fieldLink RX12 183 "StraitSwimModel" "ordered" "I") (List.mem_cons_of_mem _ (List.mem_append_left _ (List.mem_of_getElem? (i := 0) rfl)))) (fun _ h9 => h9) rfl dX12_voided_1 ?_
  refine z_if_ne (tgt := 10) hx hb dX12_voided_4 (by decide) (by omega) (by omega) (fun c_1 => ?_) (fun c_1 => ?_)
  · refine z_iconst hx hb dX12_voided_10 ?_
    refine lv_istore_n (lv' := [(1, .int (zI 0)), (0, .ref (ad 8))]) hx hb dX12_voided_11 rfl hl (by decide) rfl (fun ls hl => ?_)
    have loop12 : ∀ (n : Nat) (i : Int) (H : Heap) (locs : List Loc) (ls : Array Slot), (u.1 28 - i).toNat < n → (0 ≤ i ∧ i ≤ 40) → (mVoidL (u.2.1 48) (u.2.1 47) (u.1 28) (u.1 27) 41 0 = mVoidL (u.2.1 48) (u.2.1 47) (u.1 28) (u.1 27) n i) → gH D cy ad jf A u H → va_S A s.heap H locs → lv_has ls 2 [(1, .int (zI i)), (0, .ref (ad 8))] → W p l e (headSpec wsX12_voided ({ frames := 0, cells := 0, slots := 0, locals := 0 })).room s m ([.ref (ad 8)]).toArray below meth c H locs 0 0 (MQ below (va_Qi (fun (r : Int32) (v : gS) => r = zI (mVoided u) ∧ v = u) (gB D cy ad jf A) A) ([.ref (ad 8)]).toArray s 0 0 A) (F0 m 12 ls []) := by
      intro n
      induction n with
      | zero => intro i  H locs ls hm; exact absurd hm (Nat.not_lt_zero _)
      | succ n ih12 =>
        intro i  H locs ls hm hi hT hG hS hl
        refine lv_iload_n hx hb dX12_voided_12 rfl (lv_at hl 0 rfl) ?_
        refine lv_aload_n hx hb dX12_voided_13 rfl (lv_at hl 1 rfl) ?_
        refine g_get (C := RX12) (T := TX12) (N := 42) (ci := 11) hx hb hts (fun _ h => (List.mem_cons_of_mem _ (List.mem_append_right _ h))) hown hC.1 hG 8 (by decide) rfl rfl 25 (by decide) (hts (.fieldLink RX12 186 "StraitSwimModel" "turned" "I") (List.mem_cons_of_mem _ (List.mem_append_left _ (List.mem_of_getElem? (i := 1) rfl)))) (fun _ h9 => h9) rfl dX12_voided_14 ?_
        refine z_icmp_ge (tgt := 48) hx hb dX12_voided_17 (by decide) (by omega) (by omega) (by omega) (by omega) (fun c_2 => ?_) (fun c_2 => ?_)
        · refine z_bipush hx hb dX12_voided_48 (by decide) ?_
          exact W.iret (v := zI ((-4))) hx hb hr (fun t9 ht9_ hW => ⟨⟨zI ((-4)), u, rfl, (by refine ⟨?_, rfl⟩; unfold mVoided; (repeat (first | rw [if_pos (by omega)] | rw [if_neg (by omega)])); all_goals (rw [hT, mVoidL]; (repeat (first | rw [if_pos (by omega)] | rw [if_neg (by omega)])); all_goals rfl)), gB.mk' hG hC hS ht9_ hW⟩, hS.F ht9_⟩) hS.2.2 dX12_voided_50
        · refine lv_aload_n hx hb dX12_voided_20 rfl (lv_at hl 1 rfl) ?_
          refine g_get (C := RX12) (T := TX12) (N := 42) (ci := 11) hx hb hts (fun _ h => (List.mem_cons_of_mem _ (List.mem_append_right _ h))) hown hC.1 hG 8 (by decide) rfl rfl 26 (by decide) (hts (.fieldLink RX12 72 "StraitSwimModel" "turns" "[I") (List.mem_cons_of_mem _ (List.mem_append_left _ (List.mem_of_getElem? (i := 2) rfl)))) (fun _ h9 => h9) rfl dX12_voided_21 ?_
          refine lv_iload_n hx hb dX12_voided_24 rfl (lv_at hl 0 rfl) ?_
          refine g_iald (n := 40) hx hb hC.1 hG 48 (by decide) rfl (by omega) (by omega) (by decide) dX12_voided_25 ?_
          have q_3 := i48 i.toNat (by omega)
          refine lv_aload_n hx hb dX12_voided_26 rfl (lv_at hl 1 rfl) ?_
          refine g_get (C := RX12) (T := TX12) (N := 42) (ci := 11) hx hb hts (fun _ h => (List.mem_cons_of_mem _ (List.mem_append_right _ h))) hown hC.1 hG 8 (by decide) rfl rfl 24 (by decide) (hts (.fieldLink RX12 69 "StraitSwimModel" "orders" "[I") (List.mem_cons_of_mem _ (List.mem_append_left _ (List.mem_of_getElem? (i := 3) rfl)))) (fun _ h9 => h9) rfl dX12_voided_27 ?_
          refine lv_iload_n hx hb dX12_voided_30 rfl (lv_at hl 0 rfl) ?_
          refine lv_aload_n hx hb dX12_voided_31 rfl (lv_at hl 1 rfl) ?_
          refine g_get (C := RX12) (T := TX12) (N := 42) (ci := 11) hx hb hts (fun _ h => (List.mem_cons_of_mem _ (List.mem_append_right _ h))) hown hC.1 hG 8 (by decide) rfl rfl 23 (by decide) (hts (.fieldLink RX12 183 "StraitSwimModel" "ordered" "I") (List.mem_cons_of_mem _ (List.mem_append_left _ (List.mem_of_getElem? (i := 0) rfl)))) (fun _ h9 => h9) rfl dX12_voided_32 ?_
          have q_4 : 0 ≤ i % (u.1 27) ∧ i % (u.1 27) < (u.1 27) := ⟨Int.emod_nonneg _ (by omega), Int.emod_lt_of_pos _ (by omega)⟩
          refine z_irem hx hb dX12_voided_35 (by omega) (by omega) (by omega) (by omega) ?_
          refine g_iald (n := 6) hx hb hC.1 hG 47 (by decide) rfl (by omega) (by omega) (by decide) dX12_voided_36 ?_
          have q_5 := i47 (i % (u.1 27)).toNat (by omega)
          refine z_icmp_eq (tgt := 42) hx hb dX12_voided_37 (by decide) (by omega) (by omega) (by omega) (by omega) (fun c_6 => ?_) (fun c_6 => ?_)
          · refine z_iinc (lv' := [(1, .int (zI (i + 1))), (0, .ref (ad 8))]) hx hb dX12_voided_42 hl (k := 0) rfl (by decide) rfl (fun ls hl => ?_)
            refine lv_goto (tgt := 12) hx hb dX12_voided_45 (by decide) ?_
            exact ih12 (i + 1) _ _ _ (by omega) (by omega) (by rw [hT, mVoidL]; (repeat (first | rw [if_pos (by omega)] | rw [if_neg (by omega)]))) hG hS (lv_sub hl [0, 1] rfl)
          · refine lv_iload_n hx hb dX12_voided_40 rfl (lv_at hl 0 rfl) ?_
            exact W.iret (v := zI i) hx hb hr (fun t9 ht9_ hW => ⟨⟨zI i, u, rfl, (by refine ⟨?_, rfl⟩; unfold mVoided; (repeat (first | rw [if_pos (by omega)] | rw [if_neg (by omega)])); all_goals (rw [hT, mVoidL]; (repeat (first | rw [if_pos (by omega)] | rw [if_neg (by omega)])); all_goals rfl)), gB.mk' hG hC hS ht9_ hW⟩, hS.F ht9_⟩) hS.2.2 dX12_voided_41
    exact loop12 41 0 _ _ _ (by omega) (by omega) (by rfl) hG hS (lv_sub hl [0, 1] rfl)
  · refine z_bipush hx hb dX12_voided_7 (by decide) ?_
    exact W.iret (v := zI ((-3))) hx hb hr (fun t9 ht9_ hW => ⟨⟨zI ((-3)), u, rfl, (by refine ⟨?_, rfl⟩; unfold mVoided; (repeat (first | rw [if_pos (by omega)] | rw [if_neg (by omega)])); all_goals rfl), gB.mk' hG hC hS ht9_ hW⟩, hS.F ht9_⟩) hS.2.2 dX12_voided_9
set_option maxHeartbeats 4000000 in
set_option maxRecDepth 100000 in
theorem kX12_none (l : Launch) (D : va_G) (cy : Nat → ClassId) (ad : Nat → Nat) (jf : Nat → Int64) (A : Nat → Prop) (u : gS) : Met l yX12_none wsX12_none ({ frames := 0, cells := 0, slots := 0, locals := 0 }) (va_Pc [.ref (ad 8)] (gB D cy ad jf A u)) (va_Qv (fun (v : gS) => v = mNone 11 0 u) (gB D cy ad jf A) A) 0 0 A := by
  refine Met.ofW (cc := cX12_none) (maxL := 2) (ret := none) (by decide) rfl ?_
  intro p e s m args below meth c s₁ B hml hv
  obtain ⟨rfl, hG, hC⟩ := hv
  have hx := B.exec
  have hb := B.bytes
  have hr := B.returns
  have hts := atoms_spec (ws := wsX12_none) B.pre
  have hown : s.vm.findClass RX12 = some m.cls := findClass_of_methodNamed B.named
  have hlocks := B.notSynchronized
  have hS : va_S A s.heap s.heap [] := va_S.rf
  have hl := lv_entry ([.ref (ad 8)]) (n := 2) (Nat.le_of_ble_eq_true rfl)
  rw [lg_entry_eq]
  generalize (lg_sl ([.ref (ad 8)]) ++ List.replicate (2 - (lg_sl ([.ref (ad 8)])).length) Slot.unset).toArray = ls at hl ⊢
  have hl : lv_has ls 2 [(0, .ref (ad 8))] := hl
  refine z_iconst hx hb dX12_none_0 ?_
  refine lv_istore_n (lv' := [(1, .int (zI 0)), (0, .ref (ad 8))]) hx hb dX12_none_1 rfl hl (by decide) rfl (fun ls hl => ?_)
  have loop2 : ∀ (n : Nat) (i : Int) (w : gS) (H : Heap) (locs : List Loc) (ls : Array Slot), (10 - i).toNat < n → (0 ≤ i ∧ i ≤ 10) → (mNone 11 0 u = mNone n i w) → gH D cy ad jf A w H → va_S A s.heap H locs → lv_has ls 2 [(1, .int (zI i)), (0, .ref (ad 8))] → W p l e (headSpec wsX12_none ({ frames := 0, cells := 0, slots := 0, locals := 0 })).room s m ([.ref (ad 8)]).toArray below meth c H locs 0 0 (MQ below (va_Qv (fun (v : gS) => v = mNone 11 0 u) (gB D cy ad jf A) A) ([.ref (ad 8)]).toArray s 0 0 A) (F0 m 2 ls []) := by
    intro n
    induction n with
    | zero => intro i w H locs ls hm; exact absurd hm (Nat.not_lt_zero _)
    | succ n ih2 =>
      intro i w H locs ls hm hi hT hG hS hl
      refine lv_iload_n hx hb dX12_none_2 rfl (lv_at hl 0 rfl) ?_
      refine z_bipush hx hb dX12_none_3 (by decide) ?_
      refine z_icmp_ge (tgt := 21) hx hb dX12_none_5 (by decide) (by omega) (by omega) (by omega) (by omega) (fun c_1 => ?_) (fun c_1 => ?_)
      · exact W.vret hx hb hr (fun t9 ht9_ hW => ⟨⟨w, rfl, (by rw [hT, mNone, if_neg (by omega)]), gB.mk' hG hC hS ht9_ hW⟩, hS.F ht9_⟩) hS.2.2 dX12_none_21
      · refine lv_aload_n hx hb dX12_none_8 rfl (lv_at hl 1 rfl) ?_
        refine g_get (C := RX12) (T := TX12) (N := 42) (ci := 11) hx hb hts (fun _ h => (List.mem_cons_of_mem _ (List.mem_append_right _ h))) hown hC.1 hG 8 (by decide) rfl rfl 32 (by decide) (hts (.fieldLink RX12 90 "StraitSwimModel" "fixed" "[Z") (List.mem_cons_of_mem _ (List.mem_append_left _ (List.mem_of_getElem? (i := 0) rfl)))) (fun _ h9 => h9) rfl dX12_none_9 ?_
        refine lv_iload_n hx hb dX12_none_12 rfl (lv_at hl 0 rfl) ?_
        refine z_iconst hx hb dX12_none_13 ?_
        refine g_zast (n := 10) hx hb hC.1 hG hS 54 (by decide) (by omega) rfl rfl (by omega) (by omega) (by decide) dX12_none_14 (fun u2 H locs hu2 hG hS => ?_)
        refine z_iinc (lv' := [(1, .int (zI (i + 1))), (0, .ref (ad 8))]) hx hb dX12_none_15 hl (k := 0) rfl (by decide) rfl (fun ls hl => ?_)
        refine lv_goto (tgt := 2) hx hb dX12_none_18 (by decide) ?_
        exact ih2 (i + 1) u2 _ _ _ (by omega) (by omega) (by rw [hT, mNone, if_pos (by omega)]; subst hu2; rfl) hG hS (lv_sub hl [0, 1] rfl)
  exact loop2 11 0 u _ _ _ (by omega) (by omega) (by rfl) hG hS (lv_sub hl [0, 1] rfl)
