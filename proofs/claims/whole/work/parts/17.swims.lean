set_option maxHeartbeats 4000000 in
set_option maxRecDepth 100000 in
theorem kX12_swim (l : Launch) (D : va_G) (cy : Nat → ClassId) (ad : Nat → Nat) (jf : Nat → Int64) (A : Nat → Prop) (u : gS) (p1 p2 p3 p4 p5 : Int) (j_p1 : -2147483648 ≤ p1 ∧ p1 < 2147483648) (j_p2 : -2147483648 ≤ p2 ∧ p2 < 2147483648) (j_p3 : -2147483648 ≤ p3 ∧ p3 < 2147483648) (j_p4 : -2147483648 ≤ p4 ∧ p4 < 2147483648) (j_p5 : -2147483648 ≤ p5 ∧ p5 < 2147483648) (hI : stI u) : Met l yX12_swim wsX12_swim ({ frames := 3, cells := 0, slots := 0, locals := 82 }) (va_Pc [.ref (ad 8), .int (zI p1), .int (zI p2), .int (zI p3), .int (zI p4), .int (zI p5)] (gB D cy ad jf A u)) (va_Qi (fun (r : Int32) (v : gS) => r = zI (mSwim u p1 p2 p3 p4 p5).1 ∧ v = (mSwim u p1 p2 p3 p4 p5).2) (gB D cy ad jf A) A) 0 0 A := by
  refine Met.ofW (cc := cX12_swim) (maxL := 6) (ret := (some .int)) (by decide) rfl ?_
  intro p e s m args below meth c s₁ B hml hv
  obtain ⟨rfl, hG, hC⟩ := hv
  have hx := B.exec
  have hb := B.bytes
  have hr := B.returns
  have hts := atoms_spec (ws := wsX12_swim) B.pre
  have hown : s.vm.findClass RX12 = some m.cls := findClass_of_methodNamed B.named
  have hlocks := B.notSynchronized
  have hS : va_S A s.heap s.heap [] := va_S.rf
  have hl := lv_entry ([.ref (ad 8), .int (zI p1), .int (zI p2), .int (zI p3), .int (zI p4), .int (zI p5)]) (n := 6) (Nat.le_of_ble_eq_true rfl)
  rw [lg_entry_eq]
  generalize (lg_sl ([.ref (ad 8), .int (zI p1), .int (zI p2), .int (zI p3), .int (zI p4), .int (zI p5)]) ++ List.replicate (6 - (lg_sl ([.ref (ad 8), .int (zI p1), .int (zI p2), .int (zI p3), .int (zI p4), .int (zI p5)])).length) Slot.unset).toArray = ls at hl ⊢
  have hl : lv_has ls 6 [(0, .ref (ad 8)), (1, .int (zI p1)), (2, .int (zI p2)), (3, .int (zI p3)), (4, .int (zI p4)), (5, .int (zI p5))] := hl
  obtain ⟨i34, i35, i36, i37, i32, i33, hd, i21, i23⟩ := id hI
  refine lv_aload_n hx hb dX12_swim_0 rfl (lv_at hl 0 rfl) ?_
  refine lv_iload_n hx hb dX12_swim_1 rfl (lv_at hl 1 rfl) ?_
  refine g_calli (va_runV (As := [.int (zI p1)]) (rest := []) ⟨hx, hb, hml, hown, hts⟩ (kX12_isSwimmer l D cy ad jf A u p1 (by omega) i23) (cwV 1 hts gX12_swim_X12_isSwimmer rfl rfl rfl (by decide +kernel) ⟨by decide, by decide⟩) (g_preV (C := RX12) hG hC hS 8 (by decide) rfl rfl) rfl rfl hl.1 rfl (lv_room (Nat.le_of_ble_eq_true rfl)) dX12_swim_2 ⟨Nat.le_of_ble_eq_true rfl, Nat.le_of_ble_eq_true rfl⟩) hS (fun r1 u2 H locs p_3 hG hS => ?_)
  obtain ⟨⟨b4, rfl, q_5⟩, he_⟩ := p_3
  rw [he_] at hG; clear he_
  have hbb4 : 0 ≤ b4 ∧ b4 ≤ 1 := by rcases q_5 with ⟨h, _⟩ | ⟨h, _⟩ <;> omega
  refine z_if_eq (tgt := 38) hx hb dX12_swim_5 (by decide) (by omega) (by omega) (fun c_6 => ?_) (fun c_6 => ?_)
  · refine z_iconst hx hb dX12_swim_38 ?_
    exact W.iret (v := zI ((-1))) hx hb hr (fun t9 ht9_ hW => ⟨⟨zI ((-1)), u, rfl, (by unfold mSwim; (first | rw [if_neg (by omega)] | rw [if_pos (by omega), if_neg (by omega)]); exact ⟨rfl, rfl⟩), gB.mk' hG hC hS ht9_ hW⟩, hS.F ht9_⟩) hS.2.2 dX12_swim_39
  · refine lv_iload_n hx hb dX12_swim_8 rfl (lv_at hl 2 rfl) ?_
    refine lv_iload_n hx hb dX12_swim_9 rfl (lv_at hl 3 rfl) ?_
    refine g_calli (va_runS (As := [.int (zI p2), .int (zI p3)]) (rest := []) ⟨hx, hb, hml, hown, hts⟩ (kX12_isPlace l D cy ad jf A u p2 p3 (by omega) (by omega)) (va_cwS 2 hts gX12_swim_X12_isPlace rfl rfl rfl (by decide +kernel) ⟨by decide, by decide⟩) (g_preS hG hC hS) rfl rfl hl.1 rfl (lv_room (Nat.le_of_ble_eq_true rfl)) dX12_swim_10 ⟨Nat.le_of_ble_eq_true rfl, Nat.le_of_ble_eq_true rfl⟩) hS (fun r7 u8 H locs p_9 hG hS => ?_)
    obtain ⟨⟨b10, rfl, q_11⟩, he_⟩ := p_9
    rw [he_] at hG; clear he_
    have hbb10 : 0 ≤ b10 ∧ b10 ≤ 1 := by rcases q_11 with ⟨h, _⟩ | ⟨h, _⟩ <;> omega
    refine z_if_eq (tgt := 38) hx hb dX12_swim_13 (by decide) (by omega) (by omega) (fun c_12 => ?_) (fun c_12 => ?_)
    · refine z_iconst hx hb dX12_swim_38 ?_
      exact W.iret (v := zI ((-1))) hx hb hr (fun t9 ht9_ hW => ⟨⟨zI ((-1)), u, rfl, (by unfold mSwim; (first | rw [if_neg (by omega)] | rw [if_pos (by omega), if_neg (by omega)]); exact ⟨rfl, rfl⟩), gB.mk' hG hC hS ht9_ hW⟩, hS.F ht9_⟩) hS.2.2 dX12_swim_39
    · refine lv_iload hx hb dX12_swim_16 (lv_at hl 4 rfl) ?_
      refine z_iconst hx hb dX12_swim_18 ?_
      refine z_bipush hx hb dX12_swim_19 (by decide) ?_
      refine g_calli (va_runS (As := [.int (zI p4), .int (zI 0), .int (zI 47)]) (rest := []) ⟨hx, hb, hml, hown, hts⟩ (kX12_in l D cy ad jf A u p4 0 47 (by omega) (by omega) (by omega)) (va_cwS 3 hts gX12_swim_X12_in rfl rfl rfl (by decide +kernel) ⟨by decide, by decide⟩) (g_preS hG hC hS) rfl rfl hl.1 rfl (lv_room (Nat.le_of_ble_eq_true rfl)) dX12_swim_21 ⟨Nat.le_of_ble_eq_true rfl, Nat.le_of_ble_eq_true rfl⟩) hS (fun r13 u14 H locs p_15 hG hS => ?_)
      obtain ⟨⟨b16, rfl, q_17⟩, he_⟩ := p_15
      rw [he_] at hG; clear he_
      have hbb16 : 0 ≤ b16 ∧ b16 ≤ 1 := by rcases q_17 with ⟨h, _⟩ | ⟨h, _⟩ <;> omega
      refine z_if_eq (tgt := 38) hx hb dX12_swim_24 (by decide) (by omega) (by omega) (fun c_18 => ?_) (fun c_18 => ?_)
      · refine z_iconst hx hb dX12_swim_38 ?_
        exact W.iret (v := zI ((-1))) hx hb hr (fun t9 ht9_ hW => ⟨⟨zI ((-1)), u, rfl, (by unfold mSwim; (first | rw [if_neg (by omega)] | rw [if_pos (by omega), if_neg (by omega)]); exact ⟨rfl, rfl⟩), gB.mk' hG hC hS ht9_ hW⟩, hS.F ht9_⟩) hS.2.2 dX12_swim_39
      · refine lv_iload hx hb dX12_swim_27 (lv_at hl 5 rfl) ?_
        refine z_iconst hx hb dX12_swim_29 ?_
        refine z_bipush hx hb dX12_swim_30 (by decide) ?_
        refine g_calli (va_runS (As := [.int (zI p5), .int (zI 0), .int (zI 7)]) (rest := []) ⟨hx, hb, hml, hown, hts⟩ (kX12_in l D cy ad jf A u p5 0 7 (by omega) (by omega) (by omega)) (va_cwS 3 hts gX12_swim_X12_in rfl rfl rfl (by decide +kernel) ⟨by decide, by decide⟩) (g_preS hG hC hS) rfl rfl hl.1 rfl (lv_room (Nat.le_of_ble_eq_true rfl)) dX12_swim_32 ⟨Nat.le_of_ble_eq_true rfl, Nat.le_of_ble_eq_true rfl⟩) hS (fun r19 u20 H locs p_21 hG hS => ?_)
        obtain ⟨⟨b22, rfl, q_23⟩, he_⟩ := p_21
        rw [he_] at hG; clear he_
        have hbb22 : 0 ≤ b22 ∧ b22 ≤ 1 := by rcases q_23 with ⟨h, _⟩ | ⟨h, _⟩ <;> omega
        refine z_if_ne (tgt := 40) hx hb dX12_swim_35 (by decide) (by omega) (by omega) (fun c_24 => ?_) (fun c_24 => ?_)
        · refine lv_aload_n hx hb dX12_swim_40 rfl (lv_at hl 0 rfl) ?_
          refine lv_iload_n hx hb dX12_swim_41 rfl (lv_at hl 2 rfl) ?_
          refine lv_iload_n hx hb dX12_swim_42 rfl (lv_at hl 3 rfl) ?_
          refine g_calli (va_runV (As := [.int (zI p2), .int (zI p3)]) (rest := []) ⟨hx, hb, hml, hown, hts⟩ (kX12_isDry l D cy ad jf A u p2 p3 (by omega) (by omega) hd) (cwV 2 hts gX12_swim_X12_isDry rfl rfl rfl (by decide +kernel) ⟨by decide, by decide⟩) (g_preV (C := RX12) hG hC hS 8 (by decide) rfl rfl) rfl rfl hl.1 rfl (lv_room (Nat.le_of_ble_eq_true rfl)) dX12_swim_43 ⟨Nat.le_of_ble_eq_true rfl, Nat.le_of_ble_eq_true rfl⟩) hS (fun r25 u26 H locs p_27 hG hS => ?_)
          obtain ⟨rfl, he_⟩ := p_27
          rw [he_] at hG; clear he_
          obtain ⟨z29, hz29⟩ : ∃ z : Int, z = spDry (u.2.1 31) p2 p3 := ⟨_, rfl⟩
          rw [← hz29]
          have q_28 : z29 = 0 ∨ z29 = 1 := by rw [hz29]; exact hd _ (by omega)
          refine z_if_eq (tgt := 52) hx hb dX12_swim_46 (by decide) (by omega) (by omega) (fun c_30 => ?_) (fun c_30 => ?_)
          · refine lv_aload_n hx hb dX12_swim_52 rfl (lv_at hl 0 rfl) ?_
            refine lv_iload_n hx hb dX12_swim_53 rfl (lv_at hl 1 rfl) ?_
            refine g_put (C := RX12) (T := TX12) (N := 42) (ci := 11) (ty := .int) hx hb hts (fun _ h => (List.mem_cons_of_mem _ (List.mem_append_right _ h))) tyX12 tyX12_ok nmX12 hown hC.1 hG hS 8 (by decide) rfl rfl 15 24 (by decide) (hts (.fieldLink RX12 51 "StraitSwimModel" "lastSwimmer" "I") (List.mem_cons_of_mem _ (List.mem_append_left _ (List.mem_append_left _ (List.mem_of_getElem? (i := 0) rfl))))) (fun _ h9 => h9) rfl (by decide +kernel) rfl rfl (Nat.le_of_ble_eq_true rfl) rfl (gO_24 ad _ _) dX12_swim_54 (fun u31 H locs hu31 hG hS => ?_)
            refine lv_aload_n hx hb dX12_swim_57 rfl (lv_at hl 0 rfl) ?_
            refine z_iconst hx hb dX12_swim_58 ?_
            refine lv_iload_n hx hb dX12_swim_59 rfl (lv_at hl 1 rfl) ?_
            refine lv_iload_n hx hb dX12_swim_60 rfl (lv_at hl 2 rfl) ?_
            refine lv_iload_n hx hb dX12_swim_61 rfl (lv_at hl 3 rfl) ?_
            refine lv_iload hx hb dX12_swim_62 (lv_at hl 4 rfl) ?_
            refine lv_iload hx hb dX12_swim_64 (lv_at hl 5 rfl) ?_
            refine g_calli (va_runV (As := [.int (zI 0), .int (zI p1), .int (zI p2), .int (zI p3), .int (zI p4), .int (zI p5)]) (rest := []) ⟨hx, hb, hml, hown, hts⟩ (kX12_step l D cy ad jf A u31 0 p1 p2 p3 p4 p5 (by omega) (by omega) (by omega) (by omega) (by omega) (by omega) (by subst hu31; exact i34) (by subst hu31; exact i35) (by subst hu31; exact i36) (by subst hu31; exact i37) (by subst hu31; exact i32) (by subst hu31; exact i33) (by subst hu31; exact hd) (by subst hu31; exact i21)) (cwV 6 hts gX12_swim_X12_step rfl rfl rfl (by decide +kernel) ⟨by decide, by decide⟩) (g_preV (C := RX12) hG hC hS 8 (by decide) rfl rfl) rfl rfl hl.1 rfl (lv_room (Nat.le_of_ble_eq_true rfl)) dX12_swim_66 ⟨Nat.le_of_ble_eq_true rfl, Nat.le_of_ble_eq_true rfl⟩) hS (fun r32 u33 H locs p_34 hG hS => ?_)
            obtain ⟨rfl, hu33⟩ := p_34
            obtain ⟨z35, hz35⟩ : ∃ z : Int, z = (mStepA u31 0 p1 p2 p3 p4 p5).1 := ⟨_, rfl⟩
            rw [← hz35]
            have qz35 : 0 ≤ z35 ∧ z35 ≤ 3 := by rw [hz35]; exact mStepA_res _ _ _ _ _ _ _
            exact W.iret (v := zI z35) hx hb hr (fun t9 ht9_ hW => ⟨⟨zI z35, u33, rfl, (by unfold mSwim; rw [if_pos (by omega), if_pos (by omega)]; subst hu33; subst hu31; subst_vars; exact ⟨rfl, rfl⟩), gB.mk' hG hC hS ht9_ hW⟩, hS.F ht9_⟩) hS.2.2 dX12_swim_69
          · refine z_bipush hx hb dX12_swim_49 (by decide) ?_
            exact W.iret (v := zI ((-4))) hx hb hr (fun t9 ht9_ hW => ⟨⟨zI ((-4)), u, rfl, (by unfold mSwim; (first | rw [if_neg (by omega)] | rw [if_pos (by omega), if_neg (by omega)]); exact ⟨rfl, rfl⟩), gB.mk' hG hC hS ht9_ hW⟩, hS.F ht9_⟩) hS.2.2 dX12_swim_51
        · refine z_iconst hx hb dX12_swim_38 ?_
          exact W.iret (v := zI ((-1))) hx hb hr (fun t9 ht9_ hW => ⟨⟨zI ((-1)), u, rfl, (by unfold mSwim; (first | rw [if_neg (by omega)] | rw [if_pos (by omega), if_neg (by omega)]); exact ⟨rfl, rfl⟩), gB.mk' hG hC hS ht9_ hW⟩, hS.F ht9_⟩) hS.2.2 dX12_swim_39
set_option maxHeartbeats 4000000 in
set_option maxRecDepth 100000 in
theorem kX12_best (l : Launch) (D : va_G) (cy : Nat → ClassId) (ad : Nat → Nat) (jf : Nat → Int64) (A : Nat → Prop) (u : gS) (p1 p2 p3 : Int) (j_p1 : -2147483648 ≤ p1 ∧ p1 < 2147483648) (j_p2 : -2147483648 ≤ p2 ∧ p2 < 2147483648) (j_p3 : -2147483648 ≤ p3 ∧ p3 < 2147483648) (hI : stI u) : Met l yX12_best wsX12_best ({ frames := 3, cells := 0, slots := 0, locals := 82 }) (va_Pc [.ref (ad 8), .int (zI p1), .int (zI p2), .int (zI p3)] (gB D cy ad jf A u)) (va_Qi (fun (r : Int32) (v : gS) => r = zI (mBest u p1 p2 p3).1 ∧ v = (mBest u p1 p2 p3).2) (gB D cy ad jf A) A) 0 0 A := by
  refine Met.ofW (cc := cX12_best) (maxL := 8) (ret := (some .int)) (by decide) rfl ?_
  intro p e s m args below meth c s₁ B hml hv
  obtain ⟨rfl, hG, hC⟩ := hv
  have hx := B.exec
  have hb := B.bytes
  have hr := B.returns
  have hts := atoms_spec (ws := wsX12_best) B.pre
  have hown : s.vm.findClass RX12 = some m.cls := findClass_of_methodNamed B.named
  have hlocks := B.notSynchronized
  have hS : va_S A s.heap s.heap [] := va_S.rf
  have hl := lv_entry ([.ref (ad 8), .int (zI p1), .int (zI p2), .int (zI p3)]) (n := 8) (Nat.le_of_ble_eq_true rfl)
  rw [lg_entry_eq]
  generalize (lg_sl ([.ref (ad 8), .int (zI p1), .int (zI p2), .int (zI p3)]) ++ List.replicate (8 - (lg_sl ([.ref (ad 8), .int (zI p1), .int (zI p2), .int (zI p3)])).length) Slot.unset).toArray = ls at hl ⊢
  have hl : lv_has ls 8 [(0, .ref (ad 8)), (1, .int (zI p1)), (2, .int (zI p2)), (3, .int (zI p3))] := hl
  obtain ⟨i34, i35, i36, i37, i32, i33, hd, i21, i23⟩ := id hI
  refine lv_aload_n hx hb dX12_best_0 rfl (lv_at hl 0 rfl) ?_
  refine lv_iload_n hx hb dX12_best_1 rfl (lv_at hl 1 rfl) ?_
  refine g_calli (va_runV (As := [.int (zI p1)]) (rest := []) ⟨hx, hb, hml, hown, hts⟩ (kX12_isSwimmer l D cy ad jf A u p1 (by omega) i23) (cwV 1 hts gX12_best_X12_isSwimmer rfl rfl rfl (by decide +kernel) ⟨by decide, by decide⟩) (g_preV (C := RX12) hG hC hS 8 (by decide) rfl rfl) rfl rfl hl.1 rfl (lv_room (Nat.le_of_ble_eq_true rfl)) dX12_best_2 ⟨Nat.le_of_ble_eq_true rfl, Nat.le_of_ble_eq_true rfl⟩) hS (fun r1 u2 H locs p_3 hG hS => ?_)
  obtain ⟨⟨b4, rfl, q_5⟩, he_⟩ := p_3
  rw [he_] at hG; clear he_
  have hbb4 : 0 ≤ b4 ∧ b4 ≤ 1 := by rcases q_5 with ⟨h, _⟩ | ⟨h, _⟩ <;> omega
  refine z_if_eq (tgt := 16) hx hb dX12_best_5 (by decide) (by omega) (by omega) (fun c_6 => ?_) (fun c_6 => ?_)
  · refine z_iconst hx hb dX12_best_16 ?_
    exact W.iret (v := zI ((-1))) hx hb hr (fun t9 ht9_ hW => ⟨⟨zI ((-1)), u, rfl, (by unfold mBest; first | (rw [if_neg (by omega)]; exact ⟨rfl, rfl⟩) | (rw [if_pos (by omega), if_neg (by omega)]; exact ⟨rfl, rfl⟩)), gB.mk' hG hC hS ht9_ hW⟩, hS.F ht9_⟩) hS.2.2 dX12_best_17
  · refine lv_iload_n hx hb dX12_best_8 rfl (lv_at hl 2 rfl) ?_
    refine lv_iload_n hx hb dX12_best_9 rfl (lv_at hl 3 rfl) ?_
    refine g_calli (va_runS (As := [.int (zI p2), .int (zI p3)]) (rest := []) ⟨hx, hb, hml, hown, hts⟩ (kX12_isPlace l D cy ad jf A u p2 p3 (by omega) (by omega)) (va_cwS 2 hts gX12_best_X12_isPlace rfl rfl rfl (by decide +kernel) ⟨by decide, by decide⟩) (g_preS hG hC hS) rfl rfl hl.1 rfl (lv_room (Nat.le_of_ble_eq_true rfl)) dX12_best_10 ⟨Nat.le_of_ble_eq_true rfl, Nat.le_of_ble_eq_true rfl⟩) hS (fun r7 u8 H locs p_9 hG hS => ?_)
    obtain ⟨⟨b10, rfl, q_11⟩, he_⟩ := p_9
    rw [he_] at hG; clear he_
    have hbb10 : 0 ≤ b10 ∧ b10 ≤ 1 := by rcases q_11 with ⟨h, _⟩ | ⟨h, _⟩ <;> omega
    refine z_if_ne (tgt := 18) hx hb dX12_best_13 (by decide) (by omega) (by omega) (fun c_12 => ?_) (fun c_12 => ?_)
    · refine lv_aload_n hx hb dX12_best_18 rfl (lv_at hl 0 rfl) ?_
      refine lv_iload_n hx hb dX12_best_19 rfl (lv_at hl 2 rfl) ?_
      refine lv_iload_n hx hb dX12_best_20 rfl (lv_at hl 3 rfl) ?_
      refine g_calli (va_runV (As := [.int (zI p2), .int (zI p3)]) (rest := []) ⟨hx, hb, hml, hown, hts⟩ (kX12_isDry l D cy ad jf A u p2 p3 (by omega) (by omega) hd) (cwV 2 hts gX12_best_X12_isDry rfl rfl rfl (by decide +kernel) ⟨by decide, by decide⟩) (g_preV (C := RX12) hG hC hS 8 (by decide) rfl rfl) rfl rfl hl.1 rfl (lv_room (Nat.le_of_ble_eq_true rfl)) dX12_best_21 ⟨Nat.le_of_ble_eq_true rfl, Nat.le_of_ble_eq_true rfl⟩) hS (fun r13 u14 H locs p_15 hG hS => ?_)
      obtain ⟨rfl, he_⟩ := p_15
      rw [he_] at hG; clear he_
      obtain ⟨z17, hz17⟩ : ∃ z : Int, z = spDry (u.2.1 31) p2 p3 := ⟨_, rfl⟩
      rw [← hz17]
      have q_16 : z17 = 0 ∨ z17 = 1 := by rw [hz17]; exact hd _ (by omega)
      refine z_if_eq (tgt := 30) hx hb dX12_best_24 (by decide) (by omega) (by omega) (fun c_18 => ?_) (fun c_18 => ?_)
      · refine z_bipush hx hb dX12_best_30 (by decide) ?_
        refine lv_istore (lv' := [(4, .int (zI ((-4)))), (0, .ref (ad 8)), (1, .int (zI p1)), (2, .int (zI p2)), (3, .int (zI p3))]) hx hb dX12_best_32 hl (by decide) rfl (fun ls hl => ?_)
        refine z_iconst hx hb dX12_best_34 ?_
        refine lv_istore (lv' := [(5, .int (zI 0)), (4, .int (zI ((-4)))), (0, .ref (ad 8)), (1, .int (zI p1)), (2, .int (zI p2)), (3, .int (zI p3))]) hx hb dX12_best_35 hl (by decide) rfl (fun ls hl => ?_)
        refine z_iconst hx hb dX12_best_37 ?_
        refine lv_istore (lv' := [(6, .int (zI 0)), (5, .int (zI 0)), (4, .int (zI ((-4)))), (0, .ref (ad 8)), (1, .int (zI p1)), (2, .int (zI p2)), (3, .int (zI p3))]) hx hb dX12_best_38 hl (by decide) rfl (fun ls hl => ?_)
        have loop40 : ∀ (n : Nat) (q sa fw : Int) (w : gS) (H : Heap) (locs : List Loc) (ls : Array Slot), (48 - q).toNat < n → (0 ≤ q ∧ q ≤ 48) → (-4 ≤ sa ∧ sa ≤ 1000) → (0 ≤ fw ∧ fw ≤ 100) → (stI w) → (mBestO p1 p2 p3 49 0 (-4) 0 u = mBestO p1 p2 p3 n q sa fw w) → gH D cy ad jf A w H → va_S A s.heap H locs → lv_has ls 8 [(6, .int (zI q)), (5, .int (zI fw)), (4, .int (zI sa)), (0, .ref (ad 8)), (1, .int (zI p1)), (2, .int (zI p2)), (3, .int (zI p3))] → W p l e (headSpec wsX12_best ({ frames := 3, cells := 0, slots := 0, locals := 82 })).room s m ([.ref (ad 8), .int (zI p1), .int (zI p2), .int (zI p3)]).toArray below meth c H locs 0 0 (MQ below (va_Qi (fun (r : Int32) (v : gS) => r = zI (mBest u p1 p2 p3).1 ∧ v = (mBest u p1 p2 p3).2) (gB D cy ad jf A) A) ([.ref (ad 8), .int (zI p1), .int (zI p2), .int (zI p3)]).toArray s 0 0 A) (F0 m 40 ls []) := by
          intro n
          induction n with
          | zero => intro q sa fw w H locs ls hm; exact absurd hm (Nat.not_lt_zero _)
          | succ n ih40 =>
            intro q sa fw w H locs ls hm hq9 hs9 hf9 hI hT hG hS hl
            refine lv_iload hx hb dX12_best_40 (lv_at hl 0 rfl) ?_
            refine z_bipush hx hb dX12_best_42 (by decide) ?_
            refine z_icmp_ge (tgt := 123) hx hb dX12_best_44 (by decide) (by omega) (by omega) (by omega) (by omega) (fun c_19 => ?_) (fun c_19 => ?_)
            · refine lv_iload hx hb dX12_best_123 (lv_at hl 2 rfl) ?_
              exact W.iret (v := zI sa) hx hb hr (fun t9 ht9_ hW => ⟨⟨zI sa, w, rfl, (by unfold mBest; rw [if_pos (by omega), if_pos (by omega), hT, mBestO, if_neg (by omega)]; exact ⟨rfl, rfl⟩), gB.mk' hG hC hS ht9_ hW⟩, hS.F ht9_⟩) hS.2.2 dX12_best_125
            · refine z_iconst hx hb dX12_best_47 ?_
              refine lv_istore (lv' := [(7, .int (zI 0)), (6, .int (zI q)), (5, .int (zI fw)), (4, .int (zI sa)), (0, .ref (ad 8)), (1, .int (zI p1)), (2, .int (zI p2)), (3, .int (zI p3))]) hx hb dX12_best_48 hl (by decide) rfl (fun ls hl => ?_)
              have loop50 : ∀ (n : Nat) (b sa2 fw2 : Int) (w2 : gS) (H : Heap) (locs : List Loc) (ls : Array Slot), (8 - b).toNat < n → (0 ≤ b ∧ b ≤ 8) → (-4 ≤ sa2 ∧ sa2 ≤ 1000) → (0 ≤ fw2 ∧ fw2 ≤ 100) → (stI w2) → (mBestI p1 p2 p3 q 9 0 sa fw w = mBestI p1 p2 p3 q n b sa2 fw2 w2) → gH D cy ad jf A w2 H → va_S A s.heap H locs → lv_has ls 8 [(7, .int (zI b)), (6, .int (zI q)), (5, .int (zI fw2)), (4, .int (zI sa2)), (0, .ref (ad 8)), (1, .int (zI p1)), (2, .int (zI p2)), (3, .int (zI p3))] → W p l e (headSpec wsX12_best ({ frames := 3, cells := 0, slots := 0, locals := 82 })).room s m ([.ref (ad 8), .int (zI p1), .int (zI p2), .int (zI p3)]).toArray below meth c H locs 0 0 (MQ below (va_Qi (fun (r : Int32) (v : gS) => r = zI (mBest u p1 p2 p3).1 ∧ v = (mBest u p1 p2 p3).2) (gB D cy ad jf A) A) ([.ref (ad 8), .int (zI p1), .int (zI p2), .int (zI p3)]).toArray s 0 0 A) (F0 m 50 ls []) := by
                intro n
                induction n with
                | zero => intro b sa2 fw2 w2 H locs ls hm; exact absurd hm (Nat.not_lt_zero _)
                | succ n ih50 =>
                  intro b sa2 fw2 w2 H locs ls hm hb9 hs2 hf2 hI2 hT2 hG hS hl
                  obtain ⟨i34, i35, i36, i37, i32, i33, hd, i21, i23⟩ := id hI2
                  refine lv_iload hx hb dX12_best_50 (lv_at hl 0 rfl) ?_
                  refine z_bipush hx hb dX12_best_52 (by decide) ?_
                  refine z_icmp_ge (tgt := 117) hx hb dX12_best_54 (by decide) (by omega) (by omega) (by omega) (by omega) (fun c_20 => ?_) (fun c_20 => ?_)
                  · refine z_iinc (lv' := [(6, .int (zI (q + 1))), (7, .int (zI b)), (5, .int (zI fw2)), (4, .int (zI sa2)), (0, .ref (ad 8)), (1, .int (zI p1)), (2, .int (zI p2)), (3, .int (zI p3))]) hx hb dX12_best_117 hl (k := 1) rfl (by decide) rfl (fun ls hl => ?_)
                    refine lv_goto (tgt := 40) hx hb dX12_best_120 (by decide) ?_
                    exact ih40 (q + 1) sa2 fw2 w2 _ _ _ (by omega) (by omega) (by omega) (by omega) (by exact hI2) (by have hE : mBestI p1 p2 p3 q 9 0 sa fw w = (sa2, fw2, w2) := (by rw [hT2, mBestI, if_neg (by omega)]); rw [hT, mBestO, if_pos (by omega), hE]) hG hS (lv_sub hl [0, 2, 3, 4, 5, 6, 7] rfl)
                  · refine lv_aload_n hx hb dX12_best_57 rfl (lv_at hl 4 rfl) ?_
                    refine z_iconst hx hb dX12_best_58 ?_
                    refine lv_iload_n hx hb dX12_best_59 rfl (lv_at hl 5 rfl) ?_
                    refine lv_iload_n hx hb dX12_best_60 rfl (lv_at hl 6 rfl) ?_
                    refine lv_iload_n hx hb dX12_best_61 rfl (lv_at hl 7 rfl) ?_
                    refine lv_iload hx hb dX12_best_62 (lv_at hl 1 rfl) ?_
                    refine lv_iload hx hb dX12_best_64 (lv_at hl 0 rfl) ?_
                    refine g_calli (va_runV (As := [.int (zI 1), .int (zI p1), .int (zI p2), .int (zI p3), .int (zI q), .int (zI b)]) (rest := []) ⟨hx, hb, hml, hown, hts⟩ (kX12_step l D cy ad jf A w2 1 p1 p2 p3 q b (by omega) (by omega) (by omega) (by omega) (by omega) (by omega) i34 i35 i36 i37 i32 i33 hd i21) (cwV 6 hts gX12_best_X12_step rfl rfl rfl (by decide +kernel) ⟨by decide, by decide⟩) (g_preV (C := RX12) hG hC hS 8 (by decide) rfl rfl) rfl rfl hl.1 rfl (lv_room (Nat.le_of_ble_eq_true rfl)) dX12_best_66 ⟨Nat.le_of_ble_eq_true rfl, Nat.le_of_ble_eq_true rfl⟩) hS (fun r21 u22 H locs p_23 hG hS => ?_)
                    obtain ⟨rfl, hu22⟩ := p_23
                    obtain ⟨z24, hz24⟩ : ∃ z : Int, z = (mStepA w2 1 p1 p2 p3 q b).1 := ⟨_, rfl⟩
                    rw [← hz24]
                    have qz24 : 0 ≤ z24 ∧ z24 ≤ 3 := by rw [hz24]; exact mStepA_res _ _ _ _ _ _ _
                    have hI_u22 : stI u22 := by rw [hu22]; exact stI_step _ _ _ _ _ _ hI2
                    have q40_u22 : 0 ≤ u22.2.1 40 1 ∧ u22.2.1 40 1 ≤ 100 := by rw [hu22]; exact mStepA_q _ 1 _ _ _ _ _
                    refine z_if_ne (tgt := 111) hx hb dX12_best_69 (by decide) (by omega) (by omega) (fun c_25 => ?_) (fun c_25 => ?_)
                    · refine z_iinc (lv' := [(7, .int (zI (b + 1))), (6, .int (zI q)), (5, .int (zI fw2)), (4, .int (zI sa2)), (0, .ref (ad 8)), (1, .int (zI p1)), (2, .int (zI p2)), (3, .int (zI p3))]) hx hb dX12_best_111 hl (k := 0) rfl (by decide) rfl (fun ls hl => ?_)
                      refine lv_goto (tgt := 50) hx hb dX12_best_114 (by decide) ?_
                      exact ih50 (b + 1) sa2 fw2 u22 _ _ _ (by omega) (by omega) (by omega) (by omega) (by exact hI_u22) (by rw [hT2, mBestI, if_pos (by omega)]; simp only [← hz24, ← hu22]; (repeat (first | rw [if_pos (by omega)] | rw [if_neg (by omega)]))) hG hS (lv_sub hl [0, 1, 2, 3, 4, 5, 6, 7] rfl)
                    · refine lv_iload hx hb dX12_best_72 (lv_at hl 3 rfl) ?_
                      refine z_bipush hx hb dX12_best_74 (by decide) ?_
                      refine z_icmp_eq (tgt := 93) hx hb dX12_best_76 (by decide) (by omega) (by omega) (by omega) (by omega) (fun c_26 => ?_) (fun c_26 => ?_)
                      · refine z_bipush hx hb dX12_best_93 (by decide) ?_
                        refine lv_iload hx hb dX12_best_95 (lv_at hl 1 rfl) ?_
                        refine z_imul hx hb dX12_best_97 ?_
                        refine lv_iload hx hb dX12_best_98 (lv_at hl 0 rfl) ?_
                        refine z_iadd hx hb dX12_best_100 ?_
                        refine lv_istore (lv' := [(4, .int (zI ((10 * q) + b))), (7, .int (zI b)), (6, .int (zI q)), (5, .int (zI fw2)), (0, .ref (ad 8)), (1, .int (zI p1)), (2, .int (zI p2)), (3, .int (zI p3))]) hx hb dX12_best_101 hl (by decide) rfl (fun ls hl => ?_)
                        refine lv_aload_n hx hb dX12_best_103 rfl (lv_at hl 4 rfl) ?_
                        refine g_get (C := RX12) (T := TX12) (N := 42) (ci := 11) hx hb hts (fun _ h => (List.mem_cons_of_mem _ (List.mem_append_right _ h))) hown hC.1 hG 8 (by decide) rfl rfl 13 (by decide) (hts (.fieldLink RX12 45 "StraitSwimModel" "quarters" "[I") (List.mem_cons_of_mem _ (List.mem_append_left _ (List.mem_append_left _ (List.mem_of_getElem? (i := 0) rfl))))) (fun _ h9 => h9) rfl dX12_best_104 ?_
                        refine z_iconst hx hb dX12_best_107 ?_
                        refine g_iald (n := 2) hx hb hC.1 hG 40 (by decide) rfl (by omega) (by omega) (by decide) dX12_best_108 ?_
                        rw [show Int.toNat 1 = 1 from rfl]
                        refine lv_istore (lv' := [(5, .int (zI (u22.2.1 40 1))), (4, .int (zI ((10 * q) + b))), (7, .int (zI b)), (6, .int (zI q)), (0, .ref (ad 8)), (1, .int (zI p1)), (2, .int (zI p2)), (3, .int (zI p3))]) hx hb dX12_best_109 hl (by decide) rfl (fun ls hl => ?_)
                        refine z_iinc (lv' := [(7, .int (zI (b + 1))), (5, .int (zI (u22.2.1 40 1))), (4, .int (zI ((10 * q) + b))), (6, .int (zI q)), (0, .ref (ad 8)), (1, .int (zI p1)), (2, .int (zI p2)), (3, .int (zI p3))]) hx hb dX12_best_111 hl (k := 2) rfl (by decide) rfl (fun ls hl => ?_)
                        refine lv_goto (tgt := 50) hx hb dX12_best_114 (by decide) ?_
                        exact ih50 (b + 1) ((10 * q) + b) (u22.2.1 40 1) u22 _ _ _ (by omega) (by omega) (by omega) (by omega) (by exact hI_u22) (by rw [hT2, mBestI, if_pos (by omega)]; simp only [← hz24, ← hu22]; (repeat (first | rw [if_pos (by omega)] | rw [if_neg (by omega)]))) hG hS (lv_sub hl [0, 3, 1, 2, 4, 5, 6, 7] rfl)
                      · refine lv_aload_n hx hb dX12_best_79 rfl (lv_at hl 4 rfl) ?_
                        refine g_get (C := RX12) (T := TX12) (N := 42) (ci := 11) hx hb hts (fun _ h => (List.mem_cons_of_mem _ (List.mem_append_right _ h))) hown hC.1 hG 8 (by decide) rfl rfl 13 (by decide) (hts (.fieldLink RX12 45 "StraitSwimModel" "quarters" "[I") (List.mem_cons_of_mem _ (List.mem_append_left _ (List.mem_append_left _ (List.mem_of_getElem? (i := 0) rfl))))) (fun _ h9 => h9) rfl dX12_best_80 ?_
                        refine z_iconst hx hb dX12_best_83 ?_
                        refine g_iald (n := 2) hx hb hC.1 hG 40 (by decide) rfl (by omega) (by omega) (by decide) dX12_best_84 ?_
                        rw [show Int.toNat 1 = 1 from rfl]
                        refine lv_iload hx hb dX12_best_85 (lv_at hl 2 rfl) ?_
                        refine z_icmp_lt (tgt := 93) hx hb dX12_best_87 (by decide) (by omega) (by omega) (by omega) (by omega) (fun c_27 => ?_) (fun c_27 => ?_)
                        · refine z_bipush hx hb dX12_best_93 (by decide) ?_
                          refine lv_iload hx hb dX12_best_95 (lv_at hl 1 rfl) ?_
                          refine z_imul hx hb dX12_best_97 ?_
                          refine lv_iload hx hb dX12_best_98 (lv_at hl 0 rfl) ?_
                          refine z_iadd hx hb dX12_best_100 ?_
                          refine lv_istore (lv' := [(4, .int (zI ((10 * q) + b))), (7, .int (zI b)), (6, .int (zI q)), (5, .int (zI fw2)), (0, .ref (ad 8)), (1, .int (zI p1)), (2, .int (zI p2)), (3, .int (zI p3))]) hx hb dX12_best_101 hl (by decide) rfl (fun ls hl => ?_)
                          refine lv_aload_n hx hb dX12_best_103 rfl (lv_at hl 4 rfl) ?_
                          refine g_get (C := RX12) (T := TX12) (N := 42) (ci := 11) hx hb hts (fun _ h => (List.mem_cons_of_mem _ (List.mem_append_right _ h))) hown hC.1 hG 8 (by decide) rfl rfl 13 (by decide) (hts (.fieldLink RX12 45 "StraitSwimModel" "quarters" "[I") (List.mem_cons_of_mem _ (List.mem_append_left _ (List.mem_append_left _ (List.mem_of_getElem? (i := 0) rfl))))) (fun _ h9 => h9) rfl dX12_best_104 ?_
                          refine z_iconst hx hb dX12_best_107 ?_
                          refine g_iald (n := 2) hx hb hC.1 hG 40 (by decide) rfl (by omega) (by omega) (by decide) dX12_best_108 ?_
                          rw [show Int.toNat 1 = 1 from rfl]
                          refine lv_istore (lv' := [(5, .int (zI (u22.2.1 40 1))), (4, .int (zI ((10 * q) + b))), (7, .int (zI b)), (6, .int (zI q)), (0, .ref (ad 8)), (1, .int (zI p1)), (2, .int (zI p2)), (3, .int (zI p3))]) hx hb dX12_best_109 hl (by decide) rfl (fun ls hl => ?_)
                          refine z_iinc (lv' := [(7, .int (zI (b + 1))), (5, .int (zI (u22.2.1 40 1))), (4, .int (zI ((10 * q) + b))), (6, .int (zI q)), (0, .ref (ad 8)), (1, .int (zI p1)), (2, .int (zI p2)), (3, .int (zI p3))]) hx hb dX12_best_111 hl (k := 2) rfl (by decide) rfl (fun ls hl => ?_)
                          refine lv_goto (tgt := 50) hx hb dX12_best_114 (by decide) ?_
                          exact ih50 (b + 1) ((10 * q) + b) (u22.2.1 40 1) u22 _ _ _ (by omega) (by omega) (by omega) (by omega) (by exact hI_u22) (by rw [hT2, mBestI, if_pos (by omega)]; simp only [← hz24, ← hu22]; (repeat (first | rw [if_pos (by omega)] | rw [if_neg (by omega)]))) hG hS (lv_sub hl [0, 3, 1, 2, 4, 5, 6, 7] rfl)
                        · refine lv_goto (tgt := 111) hx hb dX12_best_90 (by decide) ?_
                          refine z_iinc (lv' := [(7, .int (zI (b + 1))), (6, .int (zI q)), (5, .int (zI fw2)), (4, .int (zI sa2)), (0, .ref (ad 8)), (1, .int (zI p1)), (2, .int (zI p2)), (3, .int (zI p3))]) hx hb dX12_best_111 hl (k := 0) rfl (by decide) rfl (fun ls hl => ?_)
                          refine lv_goto (tgt := 50) hx hb dX12_best_114 (by decide) ?_
                          exact ih50 (b + 1) sa2 fw2 u22 _ _ _ (by omega) (by omega) (by omega) (by omega) (by exact hI_u22) (by rw [hT2, mBestI, if_pos (by omega)]; simp only [← hz24, ← hu22]; (repeat (first | rw [if_pos (by omega)] | rw [if_neg (by omega)]))) hG hS (lv_sub hl [0, 1, 2, 3, 4, 5, 6, 7] rfl)
              exact loop50 9 0 sa fw w _ _ _ (by omega) (by omega) (by omega) (by omega) (by exact hI) (by rfl) hG hS (lv_sub hl [0, 1, 2, 3, 4, 5, 6, 7] rfl)
        exact loop40 49 0 ((-4)) 0 u _ _ _ (by omega) (by omega) (by omega) (by omega) (by exact hI) (by rfl) hG hS (lv_sub hl [0, 1, 2, 3, 4, 5, 6] rfl)
      · refine z_bipush hx hb dX12_best_27 (by decide) ?_
        exact W.iret (v := zI ((-4))) hx hb hr (fun t9 ht9_ hW => ⟨⟨zI ((-4)), u, rfl, (by unfold mBest; first | (rw [if_neg (by omega)]; exact ⟨rfl, rfl⟩) | (rw [if_pos (by omega), if_neg (by omega)]; exact ⟨rfl, rfl⟩)), gB.mk' hG hC hS ht9_ hW⟩, hS.F ht9_⟩) hS.2.2 dX12_best_29
    · refine z_iconst hx hb dX12_best_16 ?_
      exact W.iret (v := zI ((-1))) hx hb hr (fun t9 ht9_ hW => ⟨⟨zI ((-1)), u, rfl, (by unfold mBest; first | (rw [if_neg (by omega)]; exact ⟨rfl, rfl⟩) | (rw [if_pos (by omega), if_neg (by omega)]; exact ⟨rfl, rfl⟩)), gB.mk' hG hC hS ht9_ hW⟩, hS.F ht9_⟩) hS.2.2 dX12_best_17
set_option maxHeartbeats 4000000 in
set_option maxRecDepth 100000 in
theorem kX12_ends (l : Launch) (D : va_G) (cy : Nat → ClassId) (ad : Nat → Nat) (jf : Nat → Int64) (A : Nat → Prop) (u : gS) (p1 p2 p3 p4 : Int) (j_p1 : -2147483648 ≤ p1 ∧ p1 < 2147483648) (j_p2 : -2147483648 ≤ p2 ∧ p2 < 2147483648) (j_p3 : -2147483648 ≤ p3 ∧ p3 < 2147483648) (j_p4 : -2147483648 ≤ p4 ∧ p4 < 2147483648) (hI : stI u) : Met l yX12_ends wsX12_ends ({ frames := 3, cells := 0, slots := 0, locals := 82 }) (va_Pc [.ref (ad 8), .int (zI p1), .int (zI p2), .int (zI p3), .int (zI p4)] (gB D cy ad jf A u)) (va_Qi (fun (r : Int32) (v : gS) => r = zI (mEnds u p1 p2 p3 p4).1 ∧ v = (mEnds u p1 p2 p3 p4).2) (gB D cy ad jf A) A) 0 0 A := by
  refine Met.ofW (cc := cX12_ends) (maxL := 8) (ret := (some .int)) (by decide) rfl ?_
  intro p e s m args below meth c s₁ B hml hv
  obtain ⟨rfl, hG, hC⟩ := hv
  have hx := B.exec
  have hb := B.bytes
  have hr := B.returns
  have hts := atoms_spec (ws := wsX12_ends) B.pre
  have hown : s.vm.findClass RX12 = some m.cls := findClass_of_methodNamed B.named
  have hlocks := B.notSynchronized
  have hS : va_S A s.heap s.heap [] := va_S.rf
  have hl := lv_entry ([.ref (ad 8), .int (zI p1), .int (zI p2), .int (zI p3), .int (zI p4)]) (n := 8) (Nat.le_of_ble_eq_true rfl)
  rw [lg_entry_eq]
  generalize (lg_sl ([.ref (ad 8), .int (zI p1), .int (zI p2), .int (zI p3), .int (zI p4)]) ++ List.replicate (8 - (lg_sl ([.ref (ad 8), .int (zI p1), .int (zI p2), .int (zI p3), .int (zI p4)])).length) Slot.unset).toArray = ls at hl ⊢
  have hl : lv_has ls 8 [(0, .ref (ad 8)), (1, .int (zI p1)), (2, .int (zI p2)), (3, .int (zI p3)), (4, .int (zI p4))] := hl
  obtain ⟨i34, i35, i36, i37, i32, i33, hd, i21, i23⟩ := id hI
  refine lv_aload_n hx hb dX12_ends_0 rfl (lv_at hl 0 rfl) ?_
  refine lv_iload_n hx hb dX12_ends_1 rfl (lv_at hl 1 rfl) ?_
  refine g_calli (va_runV (As := [.int (zI p1)]) (rest := []) ⟨hx, hb, hml, hown, hts⟩ (kX12_isSwimmer l D cy ad jf A u p1 (by omega) i23) (cwV 1 hts gX12_ends_X12_isSwimmer rfl rfl rfl (by decide +kernel) ⟨by decide, by decide⟩) (g_preV (C := RX12) hG hC hS 8 (by decide) rfl rfl) rfl rfl hl.1 rfl (lv_room (Nat.le_of_ble_eq_true rfl)) dX12_ends_2 ⟨Nat.le_of_ble_eq_true rfl, Nat.le_of_ble_eq_true rfl⟩) hS (fun r1 u2 H locs p_3 hG hS => ?_)
  obtain ⟨⟨b4, rfl, q_5⟩, he_⟩ := p_3
  rw [he_] at hG; clear he_
  have hbb4 : 0 ≤ b4 ∧ b4 ≤ 1 := by rcases q_5 with ⟨h, _⟩ | ⟨h, _⟩ <;> omega
  refine z_if_eq (tgt := 26) hx hb dX12_ends_5 (by decide) (by omega) (by omega) (fun c_6 => ?_) (fun c_6 => ?_)
  · refine z_iconst hx hb dX12_ends_26 ?_
    exact W.iret (v := zI ((-1))) hx hb hr (fun t9 ht9_ hW => ⟨⟨zI ((-1)), u, rfl, (by unfold mEnds; first | (rw [if_neg (by omega)]; exact ⟨rfl, rfl⟩) | (rw [if_pos (by omega), if_neg (by omega)]; exact ⟨rfl, rfl⟩)), gB.mk' hG hC hS ht9_ hW⟩, hS.F ht9_⟩) hS.2.2 dX12_ends_27
  · refine lv_iload_n hx hb dX12_ends_8 rfl (lv_at hl 2 rfl) ?_
    refine lv_iload_n hx hb dX12_ends_9 rfl (lv_at hl 3 rfl) ?_
    refine g_calli (va_runS (As := [.int (zI p2), .int (zI p3)]) (rest := []) ⟨hx, hb, hml, hown, hts⟩ (kX12_isPlace l D cy ad jf A u p2 p3 (by omega) (by omega)) (va_cwS 2 hts gX12_ends_X12_isPlace rfl rfl rfl (by decide +kernel) ⟨by decide, by decide⟩) (g_preS hG hC hS) rfl rfl hl.1 rfl (lv_room (Nat.le_of_ble_eq_true rfl)) dX12_ends_10 ⟨Nat.le_of_ble_eq_true rfl, Nat.le_of_ble_eq_true rfl⟩) hS (fun r7 u8 H locs p_9 hG hS => ?_)
    obtain ⟨⟨b10, rfl, q_11⟩, he_⟩ := p_9
    rw [he_] at hG; clear he_
    have hbb10 : 0 ≤ b10 ∧ b10 ≤ 1 := by rcases q_11 with ⟨h, _⟩ | ⟨h, _⟩ <;> omega
    refine z_if_eq (tgt := 26) hx hb dX12_ends_13 (by decide) (by omega) (by omega) (fun c_12 => ?_) (fun c_12 => ?_)
    · refine z_iconst hx hb dX12_ends_26 ?_
      exact W.iret (v := zI ((-1))) hx hb hr (fun t9 ht9_ hW => ⟨⟨zI ((-1)), u, rfl, (by unfold mEnds; first | (rw [if_neg (by omega)]; exact ⟨rfl, rfl⟩) | (rw [if_pos (by omega), if_neg (by omega)]; exact ⟨rfl, rfl⟩)), gB.mk' hG hC hS ht9_ hW⟩, hS.F ht9_⟩) hS.2.2 dX12_ends_27
    · refine lv_iload hx hb dX12_ends_16 (lv_at hl 4 rfl) ?_
      refine z_iconst hx hb dX12_ends_18 ?_
      refine z_iconst hx hb dX12_ends_19 ?_
      refine g_calli (va_runS (As := [.int (zI p4), .int (zI 0), .int (zI 3)]) (rest := []) ⟨hx, hb, hml, hown, hts⟩ (kX12_in l D cy ad jf A u p4 0 3 (by omega) (by omega) (by omega)) (va_cwS 3 hts gX12_ends_X12_in rfl rfl rfl (by decide +kernel) ⟨by decide, by decide⟩) (g_preS hG hC hS) rfl rfl hl.1 rfl (lv_room (Nat.le_of_ble_eq_true rfl)) dX12_ends_20 ⟨Nat.le_of_ble_eq_true rfl, Nat.le_of_ble_eq_true rfl⟩) hS (fun r13 u14 H locs p_15 hG hS => ?_)
      obtain ⟨⟨b16, rfl, q_17⟩, he_⟩ := p_15
      rw [he_] at hG; clear he_
      have hbb16 : 0 ≤ b16 ∧ b16 ≤ 1 := by rcases q_17 with ⟨h, _⟩ | ⟨h, _⟩ <;> omega
      refine z_if_ne (tgt := 28) hx hb dX12_ends_23 (by decide) (by omega) (by omega) (fun c_18 => ?_) (fun c_18 => ?_)
      · refine lv_aload_n hx hb dX12_ends_28 rfl (lv_at hl 0 rfl) ?_
        refine lv_iload_n hx hb dX12_ends_29 rfl (lv_at hl 2 rfl) ?_
        refine lv_iload_n hx hb dX12_ends_30 rfl (lv_at hl 3 rfl) ?_
        refine g_calli (va_runV (As := [.int (zI p2), .int (zI p3)]) (rest := []) ⟨hx, hb, hml, hown, hts⟩ (kX12_isDry l D cy ad jf A u p2 p3 (by omega) (by omega) hd) (cwV 2 hts gX12_ends_X12_isDry rfl rfl rfl (by decide +kernel) ⟨by decide, by decide⟩) (g_preV (C := RX12) hG hC hS 8 (by decide) rfl rfl) rfl rfl hl.1 rfl (lv_room (Nat.le_of_ble_eq_true rfl)) dX12_ends_31 ⟨Nat.le_of_ble_eq_true rfl, Nat.le_of_ble_eq_true rfl⟩) hS (fun r19 u20 H locs p_21 hG hS => ?_)
        obtain ⟨rfl, he_⟩ := p_21
        rw [he_] at hG; clear he_
        obtain ⟨z23, hz23⟩ : ∃ z : Int, z = spDry (u.2.1 31) p2 p3 := ⟨_, rfl⟩
        rw [← hz23]
        have q_22 : z23 = 0 ∨ z23 = 1 := by rw [hz23]; exact hd _ (by omega)
        refine z_if_eq (tgt := 40) hx hb dX12_ends_34 (by decide) (by omega) (by omega) (fun c_24 => ?_) (fun c_24 => ?_)
        · refine z_iconst hx hb dX12_ends_40 ?_
          refine lv_istore (lv' := [(5, .int (zI 0)), (0, .ref (ad 8)), (1, .int (zI p1)), (2, .int (zI p2)), (3, .int (zI p3)), (4, .int (zI p4))]) hx hb dX12_ends_41 hl (by decide) rfl (fun ls hl => ?_)
          refine z_iconst hx hb dX12_ends_43 ?_
          refine lv_istore (lv' := [(6, .int (zI 0)), (5, .int (zI 0)), (0, .ref (ad 8)), (1, .int (zI p1)), (2, .int (zI p2)), (3, .int (zI p3)), (4, .int (zI p4))]) hx hb dX12_ends_44 hl (by decide) rfl (fun ls hl => ?_)
          have loop46 : ∀ (n : Nat) (q k : Int) (w : gS) (H : Heap) (locs : List Loc) (ls : Array Slot), (48 - q).toNat < n → (0 ≤ q ∧ q ≤ 48) → (0 ≤ k ∧ k ≤ 8 * q) → (stI w) → (mEndsO p1 p2 p3 p4 49 0 0 u = mEndsO p1 p2 p3 p4 n q k w) → gH D cy ad jf A w H → va_S A s.heap H locs → lv_has ls 8 [(6, .int (zI q)), (5, .int (zI k)), (0, .ref (ad 8)), (1, .int (zI p1)), (2, .int (zI p2)), (3, .int (zI p3)), (4, .int (zI p4))] → W p l e (headSpec wsX12_ends ({ frames := 3, cells := 0, slots := 0, locals := 82 })).room s m ([.ref (ad 8), .int (zI p1), .int (zI p2), .int (zI p3), .int (zI p4)]).toArray below meth c H locs 0 0 (MQ below (va_Qi (fun (r : Int32) (v : gS) => r = zI (mEnds u p1 p2 p3 p4).1 ∧ v = (mEnds u p1 p2 p3 p4).2) (gB D cy ad jf A) A) ([.ref (ad 8), .int (zI p1), .int (zI p2), .int (zI p3), .int (zI p4)]).toArray s 0 0 A) (F0 m 46 ls []) := by
            intro n
            induction n with
            | zero => intro q k w H locs ls hm; exact absurd hm (Nat.not_lt_zero _)
            | succ n ih46 =>
              intro q k w H locs ls hm hq9 hk9 hI hT hG hS hl
              refine lv_iload hx hb dX12_ends_46 (lv_at hl 0 rfl) ?_
              refine z_bipush hx hb dX12_ends_48 (by decide) ?_
              refine z_icmp_ge (tgt := 102) hx hb dX12_ends_50 (by decide) (by omega) (by omega) (by omega) (by omega) (fun c_25 => ?_) (fun c_25 => ?_)
              · refine lv_iload hx hb dX12_ends_102 (lv_at hl 1 rfl) ?_
                exact W.iret (v := zI k) hx hb hr (fun t9 ht9_ hW => ⟨⟨zI k, w, rfl, (by unfold mEnds; rw [if_pos (by omega), if_pos (by omega), hT, mEndsO, if_neg (by omega)]; exact ⟨rfl, rfl⟩), gB.mk' hG hC hS ht9_ hW⟩, hS.F ht9_⟩) hS.2.2 dX12_ends_104
              · refine z_iconst hx hb dX12_ends_53 ?_
                refine lv_istore (lv' := [(7, .int (zI 0)), (6, .int (zI q)), (5, .int (zI k)), (0, .ref (ad 8)), (1, .int (zI p1)), (2, .int (zI p2)), (3, .int (zI p3)), (4, .int (zI p4))]) hx hb dX12_ends_54 hl (by decide) rfl (fun ls hl => ?_)
                have loop56 : ∀ (n : Nat) (b k2 : Int) (w2 : gS) (H : Heap) (locs : List Loc) (ls : Array Slot), (8 - b).toNat < n → (0 ≤ b ∧ b ≤ 8) → (0 ≤ k2 ∧ k2 ≤ k + b) → (stI w2) → (mEndsI p1 p2 p3 p4 q 9 0 k w = mEndsI p1 p2 p3 p4 q n b k2 w2) → gH D cy ad jf A w2 H → va_S A s.heap H locs → lv_has ls 8 [(7, .int (zI b)), (6, .int (zI q)), (5, .int (zI k2)), (0, .ref (ad 8)), (1, .int (zI p1)), (2, .int (zI p2)), (3, .int (zI p3)), (4, .int (zI p4))] → W p l e (headSpec wsX12_ends ({ frames := 3, cells := 0, slots := 0, locals := 82 })).room s m ([.ref (ad 8), .int (zI p1), .int (zI p2), .int (zI p3), .int (zI p4)]).toArray below meth c H locs 0 0 (MQ below (va_Qi (fun (r : Int32) (v : gS) => r = zI (mEnds u p1 p2 p3 p4).1 ∧ v = (mEnds u p1 p2 p3 p4).2) (gB D cy ad jf A) A) ([.ref (ad 8), .int (zI p1), .int (zI p2), .int (zI p3), .int (zI p4)]).toArray s 0 0 A) (F0 m 56 ls []) := by
                  intro n
                  induction n with
                  | zero => intro b k2 w2 H locs ls hm; exact absurd hm (Nat.not_lt_zero _)
                  | succ n ih56 =>
                    intro b k2 w2 H locs ls hm hb9 hk2 hI2 hT2 hG hS hl
                    obtain ⟨i34, i35, i36, i37, i32, i33, hd, i21, i23⟩ := id hI2
                    refine lv_iload hx hb dX12_ends_56 (lv_at hl 0 rfl) ?_
                    refine z_bipush hx hb dX12_ends_58 (by decide) ?_
                    refine z_icmp_ge (tgt := 96) hx hb dX12_ends_60 (by decide) (by omega) (by omega) (by omega) (by omega) (fun c_26 => ?_) (fun c_26 => ?_)
                    · refine z_iinc (lv' := [(6, .int (zI (q + 1))), (7, .int (zI b)), (5, .int (zI k2)), (0, .ref (ad 8)), (1, .int (zI p1)), (2, .int (zI p2)), (3, .int (zI p3)), (4, .int (zI p4))]) hx hb dX12_ends_96 hl (k := 1) rfl (by decide) rfl (fun ls hl => ?_)
                      refine lv_goto (tgt := 46) hx hb dX12_ends_99 (by decide) ?_
                      exact ih46 (q + 1) k2 w2 _ _ _ (by omega) (by omega) (by omega) (by exact hI2) (by have hE : mEndsI p1 p2 p3 p4 q 9 0 k w = (k2, w2) := (by rw [hT2, mEndsI, if_neg (by omega)]); rw [hT, mEndsO, if_pos (by omega), hE]) hG hS (lv_sub hl [0, 2, 3, 4, 5, 6, 7] rfl)
                    · refine lv_iload hx hb dX12_ends_63 (lv_at hl 2 rfl) ?_
                      refine lv_aload_n hx hb dX12_ends_65 rfl (lv_at hl 3 rfl) ?_
                      refine z_iconst hx hb dX12_ends_66 ?_
                      refine lv_iload_n hx hb dX12_ends_67 rfl (lv_at hl 4 rfl) ?_
                      refine lv_iload_n hx hb dX12_ends_68 rfl (lv_at hl 5 rfl) ?_
                      refine lv_iload_n hx hb dX12_ends_69 rfl (lv_at hl 6 rfl) ?_
                      refine lv_iload hx hb dX12_ends_70 (lv_at hl 1 rfl) ?_
                      refine lv_iload hx hb dX12_ends_72 (lv_at hl 0 rfl) ?_
                      refine g_calli (va_runV (As := [.int (zI 1), .int (zI p1), .int (zI p2), .int (zI p3), .int (zI q), .int (zI b)]) (rest := [.int (zI k2)]) ⟨hx, hb, hml, hown, hts⟩ (kX12_step l D cy ad jf A w2 1 p1 p2 p3 q b (by omega) (by omega) (by omega) (by omega) (by omega) (by omega) i34 i35 i36 i37 i32 i33 hd i21) (cwV 6 hts gX12_ends_X12_step rfl rfl rfl (by decide +kernel) ⟨by decide, by decide⟩) (g_preV (C := RX12) hG hC hS 8 (by decide) rfl rfl) rfl rfl hl.1 rfl (lv_room (Nat.le_of_ble_eq_true rfl)) dX12_ends_74 ⟨Nat.le_of_ble_eq_true rfl, Nat.le_of_ble_eq_true rfl⟩) hS (fun r27 u28 H locs p_29 hG hS => ?_)
                      obtain ⟨rfl, hu28⟩ := p_29
                      obtain ⟨z30, hz30⟩ : ∃ z : Int, z = (mStepA w2 1 p1 p2 p3 q b).1 := ⟨_, rfl⟩
                      rw [← hz30]
                      have qz30 : 0 ≤ z30 ∧ z30 ≤ 3 := by rw [hz30]; exact mStepA_res _ _ _ _ _ _ _
                      have hI_u28 : stI u28 := by rw [hu28]; exact stI_step _ _ _ _ _ _ hI2
                      have q40_u28 : 0 ≤ u28.2.1 40 1 ∧ u28.2.1 40 1 ≤ 100 := by rw [hu28]; exact mStepA_q _ 1 _ _ _ _ _
                      refine lv_iload hx hb dX12_ends_77 (lv_at hl 7 rfl) ?_
                      refine z_icmp_ne (tgt := 86) hx hb dX12_ends_79 (by decide) (by omega) (by omega) (by omega) (by omega) (fun c_31 => ?_) (fun c_31 => ?_)
                      · refine z_iconst hx hb dX12_ends_86 ?_
                        refine z_iadd hx hb dX12_ends_87 ?_
                        refine lv_istore (lv' := [(5, .int (zI (k2 + 0))), (7, .int (zI b)), (6, .int (zI q)), (0, .ref (ad 8)), (1, .int (zI p1)), (2, .int (zI p2)), (3, .int (zI p3)), (4, .int (zI p4))]) hx hb dX12_ends_88 hl (by decide) rfl (fun ls hl => ?_)
                        refine z_iinc (lv' := [(7, .int (zI (b + 1))), (5, .int (zI (k2 + 0))), (6, .int (zI q)), (0, .ref (ad 8)), (1, .int (zI p1)), (2, .int (zI p2)), (3, .int (zI p3)), (4, .int (zI p4))]) hx hb dX12_ends_90 hl (k := 1) rfl (by decide) rfl (fun ls hl => ?_)
                        refine lv_goto (tgt := 56) hx hb dX12_ends_93 (by decide) ?_
                        exact ih56 (b + 1) (k2 + 0) u28 _ _ _ (by omega) (by omega) (by omega) (by exact hI_u28) (by rw [hT2, mEndsI, if_pos (by omega)]; simp only [← hz30, ← hu28]; (repeat (first | rw [if_pos (by omega)] | rw [if_neg (by omega)]))) hG hS (lv_sub hl [0, 2, 1, 3, 4, 5, 6, 7] rfl)
                      · refine z_iconst hx hb dX12_ends_82 ?_
                        refine lv_goto (tgt := 87) hx hb dX12_ends_83 (by decide) ?_
                        refine z_iadd hx hb dX12_ends_87 ?_
                        refine lv_istore (lv' := [(5, .int (zI (k2 + 1))), (7, .int (zI b)), (6, .int (zI q)), (0, .ref (ad 8)), (1, .int (zI p1)), (2, .int (zI p2)), (3, .int (zI p3)), (4, .int (zI p4))]) hx hb dX12_ends_88 hl (by decide) rfl (fun ls hl => ?_)
                        refine z_iinc (lv' := [(7, .int (zI (b + 1))), (5, .int (zI (k2 + 1))), (6, .int (zI q)), (0, .ref (ad 8)), (1, .int (zI p1)), (2, .int (zI p2)), (3, .int (zI p3)), (4, .int (zI p4))]) hx hb dX12_ends_90 hl (k := 1) rfl (by decide) rfl (fun ls hl => ?_)
                        refine lv_goto (tgt := 56) hx hb dX12_ends_93 (by decide) ?_
                        exact ih56 (b + 1) (k2 + 1) u28 _ _ _ (by omega) (by omega) (by omega) (by exact hI_u28) (by rw [hT2, mEndsI, if_pos (by omega)]; simp only [← hz30, ← hu28]; (repeat (first | rw [if_pos (by omega)] | rw [if_neg (by omega)]))) hG hS (lv_sub hl [0, 2, 1, 3, 4, 5, 6, 7] rfl)
                exact loop56 9 0 k w _ _ _ (by omega) (by omega) (by omega) (by exact hI) (by rfl) hG hS (lv_sub hl [0, 1, 2, 3, 4, 5, 6, 7] rfl)
          exact loop46 49 0 0 u _ _ _ (by omega) (by omega) (by omega) (by exact hI) (by rfl) hG hS (lv_sub hl [0, 1, 2, 3, 4, 5, 6] rfl)
        · refine z_bipush hx hb dX12_ends_37 (by decide) ?_
          exact W.iret (v := zI ((-4))) hx hb hr (fun t9 ht9_ hW => ⟨⟨zI ((-4)), u, rfl, (by unfold mEnds; first | (rw [if_neg (by omega)]; exact ⟨rfl, rfl⟩) | (rw [if_pos (by omega), if_neg (by omega)]; exact ⟨rfl, rfl⟩)), gB.mk' hG hC hS ht9_ hW⟩, hS.F ht9_⟩) hS.2.2 dX12_ends_39
      · refine z_iconst hx hb dX12_ends_26 ?_
        exact W.iret (v := zI ((-1))) hx hb hr (fun t9 ht9_ hW => ⟨⟨zI ((-1)), u, rfl, (by unfold mEnds; first | (rw [if_neg (by omega)]; exact ⟨rfl, rfl⟩) | (rw [if_pos (by omega), if_neg (by omega)]; exact ⟨rfl, rfl⟩)), gB.mk' hG hC hS ht9_ hW⟩, hS.F ht9_⟩) hS.2.2 dX12_ends_27
