set_option maxHeartbeats 4000000 in
set_option maxRecDepth 100000 in
theorem kX11_swim (l : Launch) (D : va_G) (cy : Nat → ClassId) (ad : Nat → Nat) (jf : Nat → Int64) (A : Nat → Prop) (u : gS) (p1 p2 p3 p4 p5 : Int) (j_p1 : -2147483648 ≤ p1 ∧ p1 < 2147483648) (j_p2 : -2147483648 ≤ p2 ∧ p2 < 2147483648) (j_p3 : -2147483648 ≤ p3 ∧ p3 < 2147483648) (j_p4 : -2147483648 ≤ p4 ∧ p4 < 2147483648) (j_p5 : -2147483648 ≤ p5 ∧ p5 < 2147483648) (i0 : 0 ≤ u.1 0 ∧ u.1 0 ≤ 10) (hrd : rdI u 15 16 8 9) (i1 : 0 ≤ u.1 1 ∧ u.1 1 ≤ 20) (hd : ∀ j, j < 288 → u.2.1 9 j = 0 ∨ u.2.1 9 j = 1) (i10 : ∀ j, j < 36 → -9 ≤ u.2.1 10 j ∧ u.2.1 10 j ≤ 9) (i11 : ∀ j, j < 36 → -9 ≤ u.2.1 11 j ∧ u.2.1 11 j ≤ 9) (K S9 L9 F9 : Nat → Int) (hsw : ∀ j : Nat, (j : Int) < u.1 0 → ∃ a, swAt u j a (K j) (S9 j) (L9 j) (F9 j)) : Met l yX11_swim wsX11_swim ({ frames := 5, cells := 0, slots := 0, locals := 120 }) (va_Pc [.ref (ad 0), .int (zI p1), .int (zI p2), .int (zI p3), .int (zI p4), .int (zI p5)] (gB D cy ad jf A u)) (va_Qi (fun (r : Int32) (v : gS) => r = zI (cSwim u K S9 L9 F9 p1 p2 p3 p4 p5).1 ∧ v = (cSwim u K S9 L9 F9 p1 p2 p3 p4 p5).2) (gB D cy ad jf A) A) 0 0 A := by
  refine Met.ofW (cc := cX11_swim) (maxL := 7) (ret := (some .int)) (by decide) rfl ?_
  intro p e s m args below meth c s₁ B hml hv
  obtain ⟨rfl, hG, hC⟩ := hv
  have hx := B.exec
  have hb := B.bytes
  have hr := B.returns
  have hts := atoms_spec (ws := wsX11_swim) B.pre
  have hown : s.vm.findClass RX11 = some m.cls := findClass_of_methodNamed B.named
  have hlocks := B.notSynchronized
  have hS : va_S A s.heap s.heap [] := va_S.rf
  have hl := lv_entry ([.ref (ad 0), .int (zI p1), .int (zI p2), .int (zI p3), .int (zI p4), .int (zI p5)]) (n := 7) (Nat.le_of_ble_eq_true rfl)
  rw [lg_entry_eq]
  generalize (lg_sl ([.ref (ad 0), .int (zI p1), .int (zI p2), .int (zI p3), .int (zI p4), .int (zI p5)]) ++ List.replicate (7 - (lg_sl ([.ref (ad 0), .int (zI p1), .int (zI p2), .int (zI p3), .int (zI p4), .int (zI p5)])).length) Slot.unset).toArray = ls at hl ⊢
  have hl : lv_has ls 7 [(0, .ref (ad 0)), (1, .int (zI p1)), (2, .int (zI p2)), (3, .int (zI p3)), (4, .int (zI p4)), (5, .int (zI p5))] := hl
  refine lv_aload_n hx hb dX11_swim_0 rfl (lv_at hl 0 rfl) ?_
  refine lv_iload_n hx hb dX11_swim_1 rfl (lv_at hl 1 rfl) ?_
  refine g_callq (va_runV (As := [.int (zI p1)]) (rest := []) ⟨hx, hb, hml, hown, hts⟩ (kX11_known l D cy ad jf A u p1 (by omega) i0) (cwV 1 hts gX11_swim_X11_known rfl rfl rfl (by decide +kernel) ⟨by decide, by decide⟩) (g_preV (C := RX11) hG hC hS 0 (by decide) rfl rfl) rfl rfl hl.1 rfl (lv_room (Nat.le_of_ble_eq_true rfl)) dX11_swim_2 ⟨Nat.le_of_ble_eq_true rfl, Nat.le_of_ble_eq_true rfl⟩) hS (fun r1 u2 H locs p_3 hG hS => ?_)
  obtain ⟨hr_, he_⟩ := p_3
  rw [he_] at hG; clear he_
  by_cases hk_ : 0 ≤ p1 ∧ p1 ≤ u.1 0 - 1
  · rw [if_pos hk_] at hr_
    obtain ⟨a, ha0, ha, hE0, hki, hsp, hli, hfd⟩ := hsw p1.toNat (by omega)
    rw [ha0] at hr_
    subst hr_
    rcases (show K p1.toNat = 0 ∨ K p1.toNat = 1 ∨ K p1.toNat = 2 ∨ K p1.toNat = 3 by omega) with hk0 | hk0 | hk0 | hk0
    · have hE : u.2.2.2.2 a = .inr (2, [.int (zI (p1.toNat : Int)), .int (zI (S9 p1.toNat)), .int (zI (L9 p1.toNat)), .int (zI (F9 p1.toNat))]) := by rw [hE0, hk0]; rfl
      simp only [va_rf]
      refine lv_astore (lv' := [(6, .ref a), (0, .ref (ad 0)), (1, .int (zI p1)), (2, .int (zI p2)), (3, .int (zI p3)), (4, .int (zI p4)), (5, .int (zI p5))]) hx hb dX11_swim_5 hl (by decide) rfl (fun ls hl => ?_)
      refine lv_aload hx hb dX11_swim_7 (lv_at hl 0 rfl) ?_
      refine lv_ifnull hx hb dX11_swim_9 ?_
      refine lv_iload_n hx hb dX11_swim_12 rfl (lv_at hl 3 rfl) ?_
      refine lv_iload_n hx hb dX11_swim_13 rfl (lv_at hl 4 rfl) ?_
      refine g_calli (va_runS (As := [.int (zI p2), .int (zI p3)]) (rest := []) ⟨hx, hb, hml, hown, hts⟩ (kX11_isPlace l D cy ad jf A u p2 p3 (by omega) (by omega)) (va_cwS 2 hts gX11_swim_X11_isPlace rfl rfl rfl (by decide +kernel) ⟨by decide, by decide⟩) (g_preS hG hC hS) rfl rfl hl.1 rfl (lv_room (Nat.le_of_ble_eq_true rfl)) dX11_swim_14 ⟨Nat.le_of_ble_eq_true rfl, Nat.le_of_ble_eq_true rfl⟩) hS (fun r4 u5 H locs p_6 hG hS => ?_)
      obtain ⟨⟨b7, rfl, q_8⟩, he_⟩ := p_6
      rw [he_] at hG; clear he_
      have hbb7 : 0 ≤ b7 ∧ b7 ≤ 1 := by rcases q_8 with ⟨h, _⟩ | ⟨h, _⟩ <;> omega
      refine z_if_eq (tgt := 42) hx hb dX11_swim_17 (by decide) (by omega) (by omega) (fun c_9 => ?_) (fun c_9 => ?_)
      · refine z_iconst hx hb dX11_swim_42 ?_
        exact W.iret (v := zI ((-1))) hx hb hr (fun t9 ht9_ hW => ⟨⟨zI ((-1)), u, rfl, (by unfold cSwim; (first | (rw [if_neg (by omega)]; exact ⟨rfl, rfl⟩) | (rw [if_pos (by omega), if_neg (by omega)]; exact ⟨rfl, rfl⟩))), gB.mk' hG hC hS ht9_ hW⟩, hS.F ht9_⟩) hS.2.2 dX11_swim_43
      · refine lv_iload hx hb dX11_swim_20 (lv_at hl 5 rfl) ?_
        refine z_iconst hx hb dX11_swim_22 ?_
        refine z_bipush hx hb dX11_swim_23 (by decide) ?_
        refine g_calli (va_runS (As := [.int (zI p4), .int (zI 0), .int (zI 47)]) (rest := []) ⟨hx, hb, hml, hown, hts⟩ (kX11_isWithin l D cy ad jf A u p4 0 47 (by omega) (by omega) (by omega)) (va_cwS 3 hts gX11_swim_X11_isWithin rfl rfl rfl (by decide +kernel) ⟨by decide, by decide⟩) (g_preS hG hC hS) rfl rfl hl.1 rfl (lv_room (Nat.le_of_ble_eq_true rfl)) dX11_swim_25 ⟨Nat.le_of_ble_eq_true rfl, Nat.le_of_ble_eq_true rfl⟩) hS (fun r10 u11 H locs p_12 hG hS => ?_)
        obtain ⟨⟨b13, rfl, q_14⟩, he_⟩ := p_12
        rw [he_] at hG; clear he_
        have hbb13 : 0 ≤ b13 ∧ b13 ≤ 1 := by rcases q_14 with ⟨h, _⟩ | ⟨h, _⟩ <;> omega
        refine z_if_eq (tgt := 42) hx hb dX11_swim_28 (by decide) (by omega) (by omega) (fun c_15 => ?_) (fun c_15 => ?_)
        · refine z_iconst hx hb dX11_swim_42 ?_
          exact W.iret (v := zI ((-1))) hx hb hr (fun t9 ht9_ hW => ⟨⟨zI ((-1)), u, rfl, (by unfold cSwim; (first | (rw [if_neg (by omega)]; exact ⟨rfl, rfl⟩) | (rw [if_pos (by omega), if_neg (by omega)]; exact ⟨rfl, rfl⟩))), gB.mk' hG hC hS ht9_ hW⟩, hS.F ht9_⟩) hS.2.2 dX11_swim_43
        · refine lv_iload hx hb dX11_swim_31 (lv_at hl 6 rfl) ?_
          refine z_iconst hx hb dX11_swim_33 ?_
          refine z_bipush hx hb dX11_swim_34 (by decide) ?_
          refine g_calli (va_runS (As := [.int (zI p5), .int (zI 0), .int (zI 7)]) (rest := []) ⟨hx, hb, hml, hown, hts⟩ (kX11_isWithin l D cy ad jf A u p5 0 7 (by omega) (by omega) (by omega)) (va_cwS 3 hts gX11_swim_X11_isWithin rfl rfl rfl (by decide +kernel) ⟨by decide, by decide⟩) (g_preS hG hC hS) rfl rfl hl.1 rfl (lv_room (Nat.le_of_ble_eq_true rfl)) dX11_swim_36 ⟨Nat.le_of_ble_eq_true rfl, Nat.le_of_ble_eq_true rfl⟩) hS (fun r16 u17 H locs p_18 hG hS => ?_)
          obtain ⟨⟨b19, rfl, q_20⟩, he_⟩ := p_18
          rw [he_] at hG; clear he_
          have hbb19 : 0 ≤ b19 ∧ b19 ≤ 1 := by rcases q_20 with ⟨h, _⟩ | ⟨h, _⟩ <;> omega
          refine z_if_ne (tgt := 44) hx hb dX11_swim_39 (by decide) (by omega) (by omega) (fun c_21 => ?_) (fun c_21 => ?_)
          · refine lv_aload_n hx hb dX11_swim_44 rfl (lv_at hl 1 rfl) ?_
            refine g_get (C := RX11) (T := TX11) (N := 14) (ci := 10) hx hb hts (fun _ h => (List.mem_cons_of_mem _ (List.mem_append_left _ (List.mem_append_left _ (List.mem_append_left _ (List.mem_append_left _ (List.mem_append_left _ (List.mem_append_left _ (List.mem_append_right _ h))))))))) hown hC.1 hG 0 (by decide) rfl rfl 0 (by decide) (hts (.fieldLink RX11 10 "StraitSwim" "strait" "LStraitSwim$Strait;") (List.mem_cons_of_mem _ (List.mem_append_left _ (List.mem_append_left _ (List.mem_append_left _ (List.mem_append_left _ (List.mem_append_left _ (List.mem_append_left _ (List.mem_append_left _ (List.mem_append_left _ (List.mem_of_getElem? (i := 0) rfl))))))))))) (fun _ h9 => h9) rfl dX11_swim_45 ?_
            refine lv_iload_n hx hb dX11_swim_48 rfl (lv_at hl 3 rfl) ?_
            refine lv_iload_n hx hb dX11_swim_49 rfl (lv_at hl 4 rfl) ?_
            refine g_calli (va_runV (As := [.int (zI p2), .int (zI p3)]) (rest := []) ⟨hx, hb, hml, hown, hts⟩ (kX8_isDry l D cy ad jf A u p2 p3 (by omega) (by omega) hd) (cwV 2 hts gX11_swim_X8_isDry rfl rfl rfl (by decide +kernel) ⟨by decide, by decide⟩) (g_preV (C := RX8) hG hC hS 1 (by decide) rfl rfl) rfl rfl hl.1 rfl (lv_room (Nat.le_of_ble_eq_true rfl)) dX11_swim_50 ⟨Nat.le_of_ble_eq_true rfl, Nat.le_of_ble_eq_true rfl⟩) hS (fun r22 u23 H locs p_24 hG hS => ?_)
            obtain ⟨rfl, he_⟩ := p_24
            rw [he_] at hG; clear he_
            obtain ⟨z26, hz26⟩ : ∃ z : Int, z = spDry (u.2.1 9) p2 p3 := ⟨_, rfl⟩
            rw [← hz26]
            have q_25 : z26 = 0 ∨ z26 = 1 := by rw [hz26]; exact hd _ (by omega)
            refine z_if_eq (tgt := 59) hx hb dX11_swim_53 (by decide) (by omega) (by omega) (fun c_27 => ?_) (fun c_27 => ?_)
            · refine lv_aload_n hx hb dX11_swim_59 rfl (lv_at hl 1 rfl) ?_
              refine g_get (C := RX11) (T := TX11) (N := 14) (ci := 10) hx hb hts (fun _ h => (List.mem_cons_of_mem _ (List.mem_append_left _ (List.mem_append_left _ (List.mem_append_left _ (List.mem_append_left _ (List.mem_append_left _ (List.mem_append_left _ (List.mem_append_right _ h))))))))) hown hC.1 hG 0 (by decide) rfl rfl 5 (by decide) (hts (.fieldLink RX11 35 "StraitSwim" "latest" "LStraitSwim$Swim;") (List.mem_cons_of_mem _ (List.mem_append_left _ (List.mem_append_left _ (List.mem_append_left _ (List.mem_append_left _ (List.mem_append_left _ (List.mem_append_left _ (List.mem_append_left _ (List.mem_append_left _ (List.mem_of_getElem? (i := 1) rfl))))))))))) (fun _ h9 => h9) rfl dX11_swim_60 ?_
              refine lv_aload hx hb dX11_swim_63 (lv_at hl 0 rfl) ?_
              refine lv_aload_n hx hb dX11_swim_65 rfl (lv_at hl 1 rfl) ?_
              refine g_get (C := RX11) (T := TX11) (N := 14) (ci := 10) hx hb hts (fun _ h => (List.mem_cons_of_mem _ (List.mem_append_left _ (List.mem_append_left _ (List.mem_append_left _ (List.mem_append_left _ (List.mem_append_left _ (List.mem_append_left _ (List.mem_append_right _ h))))))))) hown hC.1 hG 0 (by decide) rfl rfl 3 (by decide) (hts (.fieldLink RX11 26 "StraitSwim" "chill" "I") (List.mem_cons_of_mem _ (List.mem_append_left _ (List.mem_append_left _ (List.mem_append_left _ (List.mem_append_left _ (List.mem_append_left _ (List.mem_append_left _ (List.mem_append_left _ (List.mem_append_left _ (List.mem_of_getElem? (i := 2) rfl))))))))))) (fun _ h9 => h9) rfl dX11_swim_66 ?_
              refine g_callv (va_runV (As := [.ref a, .int (zI (u.1 1))]) (rest := []) ⟨hx, hb, hml, hown, hts⟩ (kX9_ready_2_X3 l D cy ad jf A u a ((p1.toNat : Int)) (S9 p1.toNat) (L9 p1.toNat) (F9 p1.toNat) (u.1 1) ha hE (by omega) (by omega) (by omega) (by omega) hrd.2.2.2.2) (cwV 2 hts gX11_swim_X9_ready rfl rfl rfl (by decide +kernel) ⟨by decide, by decide⟩) (g_preV (C := RX9) hG hC hS 2 (by decide) rfl rfl) rfl rfl hl.1 rfl (lv_room (Nat.le_of_ble_eq_true rfl)) dX11_swim_69 ⟨Nat.le_of_ble_eq_true rfl, Nat.le_of_ble_eq_true rfl⟩) hS (fun u29 H locs p_30 hG hS => ?_)
              obtain ⟨⟨r1_, r2_, r3_, r4_, r5_⟩, rk_, ri_, rr_⟩ := cReady_inv (u := u) (sd := 15) (cl := 16) (nu := 5) (rc := 8) (tc := 9) (by decide) (by decide) (K := 0) (nm := (p1.toNat : Int)) (sp := S9 p1.toNat) (li := L9 p1.toNat) (fd := F9 p1.toNat) (ch := u.1 1) (by omega) (by omega) (by omega) hrd
              rw [← p_30] at r1_ r2_ r3_ r4_ r5_ rk_ ri_ rr_
              have hd2 : ∀ j, j < 288 → u29.2.1 9 j = 0 ∨ u29.2.1 9 j = 1 := by rw [rk_ 9 (by decide)]; exact hd
              have i10b : ∀ j, j < 36 → -9 ≤ u29.2.1 10 j ∧ u29.2.1 10 j ≤ 9 := by rw [rk_ 10 (by decide)]; exact i10
              have i11b : ∀ j, j < 36 → -9 ≤ u29.2.1 11 j ∧ u29.2.1 11 j ≤ 9 := by rw [rk_ 11 (by decide)]; exact i11
              refine lv_aload_n hx hb dX11_swim_72 rfl (lv_at hl 1 rfl) ?_
              refine g_get (C := RX11) (T := TX11) (N := 14) (ci := 10) hx hb hts (fun _ h => (List.mem_cons_of_mem _ (List.mem_append_left _ (List.mem_append_left _ (List.mem_append_left _ (List.mem_append_left _ (List.mem_append_left _ (List.mem_append_left _ (List.mem_append_right _ h))))))))) hown hC.1 hG 0 (by decide) rfl rfl 5 (by decide) (hts (.fieldLink RX11 35 "StraitSwim" "latest" "LStraitSwim$Swim;") (List.mem_cons_of_mem _ (List.mem_append_left _ (List.mem_append_left _ (List.mem_append_left _ (List.mem_append_left _ (List.mem_append_left _ (List.mem_append_left _ (List.mem_append_left _ (List.mem_append_left _ (List.mem_of_getElem? (i := 1) rfl))))))))))) (fun _ h9 => h9) rfl dX11_swim_73 ?_
              refine lv_aload_n hx hb dX11_swim_76 rfl (lv_at hl 1 rfl) ?_
              refine g_get (C := RX11) (T := TX11) (N := 14) (ci := 10) hx hb hts (fun _ h => (List.mem_cons_of_mem _ (List.mem_append_left _ (List.mem_append_left _ (List.mem_append_left _ (List.mem_append_left _ (List.mem_append_left _ (List.mem_append_left _ (List.mem_append_right _ h))))))))) hown hC.1 hG 0 (by decide) rfl rfl 0 (by decide) (hts (.fieldLink RX11 10 "StraitSwim" "strait" "LStraitSwim$Strait;") (List.mem_cons_of_mem _ (List.mem_append_left _ (List.mem_append_left _ (List.mem_append_left _ (List.mem_append_left _ (List.mem_append_left _ (List.mem_append_left _ (List.mem_append_left _ (List.mem_append_left _ (List.mem_of_getElem? (i := 0) rfl))))))))))) (fun _ h9 => h9) rfl dX11_swim_77 ?_
              refine lv_iload_n hx hb dX11_swim_80 rfl (lv_at hl 3 rfl) ?_
              refine lv_iload_n hx hb dX11_swim_81 rfl (lv_at hl 4 rfl) ?_
              refine lv_iload hx hb dX11_swim_82 (lv_at hl 5 rfl) ?_
              refine lv_iload hx hb dX11_swim_84 (lv_at hl 6 rfl) ?_
              refine g_calli (va_runV (As := [.ref (ad 1), .int (zI p2), .int (zI p3), .int (zI p4), .int (zI p5)]) (rest := []) ⟨hx, hb, hml, hown, hts⟩ (kX9_cross_2 l D cy ad jf A u29 p2 p3 p4 p5 (by omega) (by omega) (by omega) (by omega) i10b i11b r1_ r2_ hd2 r3_ r4_) (cwV 5 hts gX11_swim_X9_cross rfl rfl rfl (by decide +kernel) ⟨by decide, by decide⟩) (g_preV (C := RX9) hG hC hS 2 (by decide) rfl rfl) rfl rfl hl.1 rfl (lv_room (Nat.le_of_ble_eq_true rfl)) dX11_swim_86 ⟨Nat.le_of_ble_eq_true rfl, Nat.le_of_ble_eq_true rfl⟩) hS (fun r31 u32 H locs p_33 hG hS => ?_)
              obtain ⟨rfl, hu32⟩ := p_33
              exact W.iret (v := zI ((cCross u29 13 14 15 16 6 7 8 9 p2 p3 p4 p5).1)) hx hb hr (fun t9 ht9_ hW => ⟨⟨zI ((cCross u29 13 14 15 16 6 7 8 9 p2 p3 p4 p5).1), u32, rfl, (by unfold cSwim; rw [if_pos (by omega), if_pos (by omega), hk0, ← p_30]; exact ⟨rfl, hu32⟩), gB.mk' hG hC hS ht9_ hW⟩, hS.F ht9_⟩) hS.2.2 dX11_swim_89
            · refine z_bipush hx hb dX11_swim_56 (by decide) ?_
              exact W.iret (v := zI ((-4))) hx hb hr (fun t9 ht9_ hW => ⟨⟨zI ((-4)), u, rfl, (by unfold cSwim; (first | (rw [if_neg (by omega)]; exact ⟨rfl, rfl⟩) | (rw [if_pos (by omega), if_neg (by omega)]; exact ⟨rfl, rfl⟩))), gB.mk' hG hC hS ht9_ hW⟩, hS.F ht9_⟩) hS.2.2 dX11_swim_58
          · refine z_iconst hx hb dX11_swim_42 ?_
            exact W.iret (v := zI ((-1))) hx hb hr (fun t9 ht9_ hW => ⟨⟨zI ((-1)), u, rfl, (by unfold cSwim; (first | (rw [if_neg (by omega)]; exact ⟨rfl, rfl⟩) | (rw [if_pos (by omega), if_neg (by omega)]; exact ⟨rfl, rfl⟩))), gB.mk' hG hC hS ht9_ hW⟩, hS.F ht9_⟩) hS.2.2 dX11_swim_43
    · have hE : u.2.2.2.2 a = .inr (0, [.int (zI (p1.toNat : Int)), .int (zI (S9 p1.toNat)), .int (zI (L9 p1.toNat)), .int (zI (F9 p1.toNat))]) := by rw [hE0, hk0]; rfl
      simp only [va_rf]
      refine lv_astore (lv' := [(6, .ref a), (0, .ref (ad 0)), (1, .int (zI p1)), (2, .int (zI p2)), (3, .int (zI p3)), (4, .int (zI p4)), (5, .int (zI p5))]) hx hb dX11_swim_5 hl (by decide) rfl (fun ls hl => ?_)
      refine lv_aload hx hb dX11_swim_7 (lv_at hl 0 rfl) ?_
      refine lv_ifnull hx hb dX11_swim_9 ?_
      refine lv_iload_n hx hb dX11_swim_12 rfl (lv_at hl 3 rfl) ?_
      refine lv_iload_n hx hb dX11_swim_13 rfl (lv_at hl 4 rfl) ?_
      refine g_calli (va_runS (As := [.int (zI p2), .int (zI p3)]) (rest := []) ⟨hx, hb, hml, hown, hts⟩ (kX11_isPlace l D cy ad jf A u p2 p3 (by omega) (by omega)) (va_cwS 2 hts gX11_swim_X11_isPlace rfl rfl rfl (by decide +kernel) ⟨by decide, by decide⟩) (g_preS hG hC hS) rfl rfl hl.1 rfl (lv_room (Nat.le_of_ble_eq_true rfl)) dX11_swim_14 ⟨Nat.le_of_ble_eq_true rfl, Nat.le_of_ble_eq_true rfl⟩) hS (fun r34 u35 H locs p_36 hG hS => ?_)
      obtain ⟨⟨b37, rfl, q_38⟩, he_⟩ := p_36
      rw [he_] at hG; clear he_
      have hbb37 : 0 ≤ b37 ∧ b37 ≤ 1 := by rcases q_38 with ⟨h, _⟩ | ⟨h, _⟩ <;> omega
      refine z_if_eq (tgt := 42) hx hb dX11_swim_17 (by decide) (by omega) (by omega) (fun c_39 => ?_) (fun c_39 => ?_)
      · refine z_iconst hx hb dX11_swim_42 ?_
        exact W.iret (v := zI ((-1))) hx hb hr (fun t9 ht9_ hW => ⟨⟨zI ((-1)), u, rfl, (by unfold cSwim; (first | (rw [if_neg (by omega)]; exact ⟨rfl, rfl⟩) | (rw [if_pos (by omega), if_neg (by omega)]; exact ⟨rfl, rfl⟩))), gB.mk' hG hC hS ht9_ hW⟩, hS.F ht9_⟩) hS.2.2 dX11_swim_43
      · refine lv_iload hx hb dX11_swim_20 (lv_at hl 5 rfl) ?_
        refine z_iconst hx hb dX11_swim_22 ?_
        refine z_bipush hx hb dX11_swim_23 (by decide) ?_
        refine g_calli (va_runS (As := [.int (zI p4), .int (zI 0), .int (zI 47)]) (rest := []) ⟨hx, hb, hml, hown, hts⟩ (kX11_isWithin l D cy ad jf A u p4 0 47 (by omega) (by omega) (by omega)) (va_cwS 3 hts gX11_swim_X11_isWithin rfl rfl rfl (by decide +kernel) ⟨by decide, by decide⟩) (g_preS hG hC hS) rfl rfl hl.1 rfl (lv_room (Nat.le_of_ble_eq_true rfl)) dX11_swim_25 ⟨Nat.le_of_ble_eq_true rfl, Nat.le_of_ble_eq_true rfl⟩) hS (fun r40 u41 H locs p_42 hG hS => ?_)
        obtain ⟨⟨b43, rfl, q_44⟩, he_⟩ := p_42
        rw [he_] at hG; clear he_
        have hbb43 : 0 ≤ b43 ∧ b43 ≤ 1 := by rcases q_44 with ⟨h, _⟩ | ⟨h, _⟩ <;> omega
        refine z_if_eq (tgt := 42) hx hb dX11_swim_28 (by decide) (by omega) (by omega) (fun c_45 => ?_) (fun c_45 => ?_)
        · refine z_iconst hx hb dX11_swim_42 ?_
          exact W.iret (v := zI ((-1))) hx hb hr (fun t9 ht9_ hW => ⟨⟨zI ((-1)), u, rfl, (by unfold cSwim; (first | (rw [if_neg (by omega)]; exact ⟨rfl, rfl⟩) | (rw [if_pos (by omega), if_neg (by omega)]; exact ⟨rfl, rfl⟩))), gB.mk' hG hC hS ht9_ hW⟩, hS.F ht9_⟩) hS.2.2 dX11_swim_43
        · refine lv_iload hx hb dX11_swim_31 (lv_at hl 6 rfl) ?_
          refine z_iconst hx hb dX11_swim_33 ?_
          refine z_bipush hx hb dX11_swim_34 (by decide) ?_
          refine g_calli (va_runS (As := [.int (zI p5), .int (zI 0), .int (zI 7)]) (rest := []) ⟨hx, hb, hml, hown, hts⟩ (kX11_isWithin l D cy ad jf A u p5 0 7 (by omega) (by omega) (by omega)) (va_cwS 3 hts gX11_swim_X11_isWithin rfl rfl rfl (by decide +kernel) ⟨by decide, by decide⟩) (g_preS hG hC hS) rfl rfl hl.1 rfl (lv_room (Nat.le_of_ble_eq_true rfl)) dX11_swim_36 ⟨Nat.le_of_ble_eq_true rfl, Nat.le_of_ble_eq_true rfl⟩) hS (fun r46 u47 H locs p_48 hG hS => ?_)
          obtain ⟨⟨b49, rfl, q_50⟩, he_⟩ := p_48
          rw [he_] at hG; clear he_
          have hbb49 : 0 ≤ b49 ∧ b49 ≤ 1 := by rcases q_50 with ⟨h, _⟩ | ⟨h, _⟩ <;> omega
          refine z_if_ne (tgt := 44) hx hb dX11_swim_39 (by decide) (by omega) (by omega) (fun c_51 => ?_) (fun c_51 => ?_)
          · refine lv_aload_n hx hb dX11_swim_44 rfl (lv_at hl 1 rfl) ?_
            refine g_get (C := RX11) (T := TX11) (N := 14) (ci := 10) hx hb hts (fun _ h => (List.mem_cons_of_mem _ (List.mem_append_left _ (List.mem_append_left _ (List.mem_append_left _ (List.mem_append_left _ (List.mem_append_left _ (List.mem_append_left _ (List.mem_append_right _ h))))))))) hown hC.1 hG 0 (by decide) rfl rfl 0 (by decide) (hts (.fieldLink RX11 10 "StraitSwim" "strait" "LStraitSwim$Strait;") (List.mem_cons_of_mem _ (List.mem_append_left _ (List.mem_append_left _ (List.mem_append_left _ (List.mem_append_left _ (List.mem_append_left _ (List.mem_append_left _ (List.mem_append_left _ (List.mem_append_left _ (List.mem_of_getElem? (i := 0) rfl))))))))))) (fun _ h9 => h9) rfl dX11_swim_45 ?_
            refine lv_iload_n hx hb dX11_swim_48 rfl (lv_at hl 3 rfl) ?_
            refine lv_iload_n hx hb dX11_swim_49 rfl (lv_at hl 4 rfl) ?_
            refine g_calli (va_runV (As := [.int (zI p2), .int (zI p3)]) (rest := []) ⟨hx, hb, hml, hown, hts⟩ (kX8_isDry l D cy ad jf A u p2 p3 (by omega) (by omega) hd) (cwV 2 hts gX11_swim_X8_isDry rfl rfl rfl (by decide +kernel) ⟨by decide, by decide⟩) (g_preV (C := RX8) hG hC hS 1 (by decide) rfl rfl) rfl rfl hl.1 rfl (lv_room (Nat.le_of_ble_eq_true rfl)) dX11_swim_50 ⟨Nat.le_of_ble_eq_true rfl, Nat.le_of_ble_eq_true rfl⟩) hS (fun r52 u53 H locs p_54 hG hS => ?_)
            obtain ⟨rfl, he_⟩ := p_54
            rw [he_] at hG; clear he_
            obtain ⟨z56, hz56⟩ : ∃ z : Int, z = spDry (u.2.1 9) p2 p3 := ⟨_, rfl⟩
            rw [← hz56]
            have q_55 : z56 = 0 ∨ z56 = 1 := by rw [hz56]; exact hd _ (by omega)
            refine z_if_eq (tgt := 59) hx hb dX11_swim_53 (by decide) (by omega) (by omega) (fun c_57 => ?_) (fun c_57 => ?_)
            · refine lv_aload_n hx hb dX11_swim_59 rfl (lv_at hl 1 rfl) ?_
              refine g_get (C := RX11) (T := TX11) (N := 14) (ci := 10) hx hb hts (fun _ h => (List.mem_cons_of_mem _ (List.mem_append_left _ (List.mem_append_left _ (List.mem_append_left _ (List.mem_append_left _ (List.mem_append_left _ (List.mem_append_left _ (List.mem_append_right _ h))))))))) hown hC.1 hG 0 (by decide) rfl rfl 5 (by decide) (hts (.fieldLink RX11 35 "StraitSwim" "latest" "LStraitSwim$Swim;") (List.mem_cons_of_mem _ (List.mem_append_left _ (List.mem_append_left _ (List.mem_append_left _ (List.mem_append_left _ (List.mem_append_left _ (List.mem_append_left _ (List.mem_append_left _ (List.mem_append_left _ (List.mem_of_getElem? (i := 1) rfl))))))))))) (fun _ h9 => h9) rfl dX11_swim_60 ?_
              refine lv_aload hx hb dX11_swim_63 (lv_at hl 0 rfl) ?_
              refine lv_aload_n hx hb dX11_swim_65 rfl (lv_at hl 1 rfl) ?_
              refine g_get (C := RX11) (T := TX11) (N := 14) (ci := 10) hx hb hts (fun _ h => (List.mem_cons_of_mem _ (List.mem_append_left _ (List.mem_append_left _ (List.mem_append_left _ (List.mem_append_left _ (List.mem_append_left _ (List.mem_append_left _ (List.mem_append_right _ h))))))))) hown hC.1 hG 0 (by decide) rfl rfl 3 (by decide) (hts (.fieldLink RX11 26 "StraitSwim" "chill" "I") (List.mem_cons_of_mem _ (List.mem_append_left _ (List.mem_append_left _ (List.mem_append_left _ (List.mem_append_left _ (List.mem_append_left _ (List.mem_append_left _ (List.mem_append_left _ (List.mem_append_left _ (List.mem_of_getElem? (i := 2) rfl))))))))))) (fun _ h9 => h9) rfl dX11_swim_66 ?_
              refine g_callv (va_runV (As := [.ref a, .int (zI (u.1 1))]) (rest := []) ⟨hx, hb, hml, hown, hts⟩ (kX9_ready_2_X0 l D cy ad jf A u a ((p1.toNat : Int)) (S9 p1.toNat) (L9 p1.toNat) (F9 p1.toNat) (u.1 1) ha hE (by omega) (by omega) (by omega) (by omega) hrd.2.2.2.2) (cwV 2 hts gX11_swim_X9_ready rfl rfl rfl (by decide +kernel) ⟨by decide, by decide⟩) (g_preV (C := RX9) hG hC hS 2 (by decide) rfl rfl) rfl rfl hl.1 rfl (lv_room (Nat.le_of_ble_eq_true rfl)) dX11_swim_69 ⟨Nat.le_of_ble_eq_true rfl, Nat.le_of_ble_eq_true rfl⟩) hS (fun u59 H locs p_60 hG hS => ?_)
              obtain ⟨⟨r1_, r2_, r3_, r4_, r5_⟩, rk_, ri_, rr_⟩ := cReady_inv (u := u) (sd := 15) (cl := 16) (nu := 5) (rc := 8) (tc := 9) (by decide) (by decide) (K := 1) (nm := (p1.toNat : Int)) (sp := S9 p1.toNat) (li := L9 p1.toNat) (fd := F9 p1.toNat) (ch := u.1 1) (by omega) (by omega) (by omega) hrd
              rw [← p_60] at r1_ r2_ r3_ r4_ r5_ rk_ ri_ rr_
              have hd2 : ∀ j, j < 288 → u59.2.1 9 j = 0 ∨ u59.2.1 9 j = 1 := by rw [rk_ 9 (by decide)]; exact hd
              have i10b : ∀ j, j < 36 → -9 ≤ u59.2.1 10 j ∧ u59.2.1 10 j ≤ 9 := by rw [rk_ 10 (by decide)]; exact i10
              have i11b : ∀ j, j < 36 → -9 ≤ u59.2.1 11 j ∧ u59.2.1 11 j ≤ 9 := by rw [rk_ 11 (by decide)]; exact i11
              refine lv_aload_n hx hb dX11_swim_72 rfl (lv_at hl 1 rfl) ?_
              refine g_get (C := RX11) (T := TX11) (N := 14) (ci := 10) hx hb hts (fun _ h => (List.mem_cons_of_mem _ (List.mem_append_left _ (List.mem_append_left _ (List.mem_append_left _ (List.mem_append_left _ (List.mem_append_left _ (List.mem_append_left _ (List.mem_append_right _ h))))))))) hown hC.1 hG 0 (by decide) rfl rfl 5 (by decide) (hts (.fieldLink RX11 35 "StraitSwim" "latest" "LStraitSwim$Swim;") (List.mem_cons_of_mem _ (List.mem_append_left _ (List.mem_append_left _ (List.mem_append_left _ (List.mem_append_left _ (List.mem_append_left _ (List.mem_append_left _ (List.mem_append_left _ (List.mem_append_left _ (List.mem_of_getElem? (i := 1) rfl))))))))))) (fun _ h9 => h9) rfl dX11_swim_73 ?_
              refine lv_aload_n hx hb dX11_swim_76 rfl (lv_at hl 1 rfl) ?_
              refine g_get (C := RX11) (T := TX11) (N := 14) (ci := 10) hx hb hts (fun _ h => (List.mem_cons_of_mem _ (List.mem_append_left _ (List.mem_append_left _ (List.mem_append_left _ (List.mem_append_left _ (List.mem_append_left _ (List.mem_append_left _ (List.mem_append_right _ h))))))))) hown hC.1 hG 0 (by decide) rfl rfl 0 (by decide) (hts (.fieldLink RX11 10 "StraitSwim" "strait" "LStraitSwim$Strait;") (List.mem_cons_of_mem _ (List.mem_append_left _ (List.mem_append_left _ (List.mem_append_left _ (List.mem_append_left _ (List.mem_append_left _ (List.mem_append_left _ (List.mem_append_left _ (List.mem_append_left _ (List.mem_of_getElem? (i := 0) rfl))))))))))) (fun _ h9 => h9) rfl dX11_swim_77 ?_
              refine lv_iload_n hx hb dX11_swim_80 rfl (lv_at hl 3 rfl) ?_
              refine lv_iload_n hx hb dX11_swim_81 rfl (lv_at hl 4 rfl) ?_
              refine lv_iload hx hb dX11_swim_82 (lv_at hl 5 rfl) ?_
              refine lv_iload hx hb dX11_swim_84 (lv_at hl 6 rfl) ?_
              refine g_calli (va_runV (As := [.ref (ad 1), .int (zI p2), .int (zI p3), .int (zI p4), .int (zI p5)]) (rest := []) ⟨hx, hb, hml, hown, hts⟩ (kX9_cross_2 l D cy ad jf A u59 p2 p3 p4 p5 (by omega) (by omega) (by omega) (by omega) i10b i11b r1_ r2_ hd2 r3_ r4_) (cwV 5 hts gX11_swim_X9_cross rfl rfl rfl (by decide +kernel) ⟨by decide, by decide⟩) (g_preV (C := RX9) hG hC hS 2 (by decide) rfl rfl) rfl rfl hl.1 rfl (lv_room (Nat.le_of_ble_eq_true rfl)) dX11_swim_86 ⟨Nat.le_of_ble_eq_true rfl, Nat.le_of_ble_eq_true rfl⟩) hS (fun r61 u62 H locs p_63 hG hS => ?_)
              obtain ⟨rfl, hu62⟩ := p_63
              exact W.iret (v := zI ((cCross u59 13 14 15 16 6 7 8 9 p2 p3 p4 p5).1)) hx hb hr (fun t9 ht9_ hW => ⟨⟨zI ((cCross u59 13 14 15 16 6 7 8 9 p2 p3 p4 p5).1), u62, rfl, (by unfold cSwim; rw [if_pos (by omega), if_pos (by omega), hk0, ← p_60]; exact ⟨rfl, hu62⟩), gB.mk' hG hC hS ht9_ hW⟩, hS.F ht9_⟩) hS.2.2 dX11_swim_89
            · refine z_bipush hx hb dX11_swim_56 (by decide) ?_
              exact W.iret (v := zI ((-4))) hx hb hr (fun t9 ht9_ hW => ⟨⟨zI ((-4)), u, rfl, (by unfold cSwim; (first | (rw [if_neg (by omega)]; exact ⟨rfl, rfl⟩) | (rw [if_pos (by omega), if_neg (by omega)]; exact ⟨rfl, rfl⟩))), gB.mk' hG hC hS ht9_ hW⟩, hS.F ht9_⟩) hS.2.2 dX11_swim_58
          · refine z_iconst hx hb dX11_swim_42 ?_
            exact W.iret (v := zI ((-1))) hx hb hr (fun t9 ht9_ hW => ⟨⟨zI ((-1)), u, rfl, (by unfold cSwim; (first | (rw [if_neg (by omega)]; exact ⟨rfl, rfl⟩) | (rw [if_pos (by omega), if_neg (by omega)]; exact ⟨rfl, rfl⟩))), gB.mk' hG hC hS ht9_ hW⟩, hS.F ht9_⟩) hS.2.2 dX11_swim_43
    · have hE : u.2.2.2.2 a = .inr (3, [.int (zI (p1.toNat : Int)), .int (zI (S9 p1.toNat)), .int (zI (L9 p1.toNat)), .int (zI (F9 p1.toNat))]) := by rw [hE0, hk0]; rfl
      simp only [va_rf]
      refine lv_astore (lv' := [(6, .ref a), (0, .ref (ad 0)), (1, .int (zI p1)), (2, .int (zI p2)), (3, .int (zI p3)), (4, .int (zI p4)), (5, .int (zI p5))]) hx hb dX11_swim_5 hl (by decide) rfl (fun ls hl => ?_)
      refine lv_aload hx hb dX11_swim_7 (lv_at hl 0 rfl) ?_
      refine lv_ifnull hx hb dX11_swim_9 ?_
      refine lv_iload_n hx hb dX11_swim_12 rfl (lv_at hl 3 rfl) ?_
      refine lv_iload_n hx hb dX11_swim_13 rfl (lv_at hl 4 rfl) ?_
      refine g_calli (va_runS (As := [.int (zI p2), .int (zI p3)]) (rest := []) ⟨hx, hb, hml, hown, hts⟩ (kX11_isPlace l D cy ad jf A u p2 p3 (by omega) (by omega)) (va_cwS 2 hts gX11_swim_X11_isPlace rfl rfl rfl (by decide +kernel) ⟨by decide, by decide⟩) (g_preS hG hC hS) rfl rfl hl.1 rfl (lv_room (Nat.le_of_ble_eq_true rfl)) dX11_swim_14 ⟨Nat.le_of_ble_eq_true rfl, Nat.le_of_ble_eq_true rfl⟩) hS (fun r64 u65 H locs p_66 hG hS => ?_)
      obtain ⟨⟨b67, rfl, q_68⟩, he_⟩ := p_66
      rw [he_] at hG; clear he_
      have hbb67 : 0 ≤ b67 ∧ b67 ≤ 1 := by rcases q_68 with ⟨h, _⟩ | ⟨h, _⟩ <;> omega
      refine z_if_eq (tgt := 42) hx hb dX11_swim_17 (by decide) (by omega) (by omega) (fun c_69 => ?_) (fun c_69 => ?_)
      · refine z_iconst hx hb dX11_swim_42 ?_
        exact W.iret (v := zI ((-1))) hx hb hr (fun t9 ht9_ hW => ⟨⟨zI ((-1)), u, rfl, (by unfold cSwim; (first | (rw [if_neg (by omega)]; exact ⟨rfl, rfl⟩) | (rw [if_pos (by omega), if_neg (by omega)]; exact ⟨rfl, rfl⟩))), gB.mk' hG hC hS ht9_ hW⟩, hS.F ht9_⟩) hS.2.2 dX11_swim_43
      · refine lv_iload hx hb dX11_swim_20 (lv_at hl 5 rfl) ?_
        refine z_iconst hx hb dX11_swim_22 ?_
        refine z_bipush hx hb dX11_swim_23 (by decide) ?_
        refine g_calli (va_runS (As := [.int (zI p4), .int (zI 0), .int (zI 47)]) (rest := []) ⟨hx, hb, hml, hown, hts⟩ (kX11_isWithin l D cy ad jf A u p4 0 47 (by omega) (by omega) (by omega)) (va_cwS 3 hts gX11_swim_X11_isWithin rfl rfl rfl (by decide +kernel) ⟨by decide, by decide⟩) (g_preS hG hC hS) rfl rfl hl.1 rfl (lv_room (Nat.le_of_ble_eq_true rfl)) dX11_swim_25 ⟨Nat.le_of_ble_eq_true rfl, Nat.le_of_ble_eq_true rfl⟩) hS (fun r70 u71 H locs p_72 hG hS => ?_)
        obtain ⟨⟨b73, rfl, q_74⟩, he_⟩ := p_72
        rw [he_] at hG; clear he_
        have hbb73 : 0 ≤ b73 ∧ b73 ≤ 1 := by rcases q_74 with ⟨h, _⟩ | ⟨h, _⟩ <;> omega
        refine z_if_eq (tgt := 42) hx hb dX11_swim_28 (by decide) (by omega) (by omega) (fun c_75 => ?_) (fun c_75 => ?_)
        · refine z_iconst hx hb dX11_swim_42 ?_
          exact W.iret (v := zI ((-1))) hx hb hr (fun t9 ht9_ hW => ⟨⟨zI ((-1)), u, rfl, (by unfold cSwim; (first | (rw [if_neg (by omega)]; exact ⟨rfl, rfl⟩) | (rw [if_pos (by omega), if_neg (by omega)]; exact ⟨rfl, rfl⟩))), gB.mk' hG hC hS ht9_ hW⟩, hS.F ht9_⟩) hS.2.2 dX11_swim_43
        · refine lv_iload hx hb dX11_swim_31 (lv_at hl 6 rfl) ?_
          refine z_iconst hx hb dX11_swim_33 ?_
          refine z_bipush hx hb dX11_swim_34 (by decide) ?_
          refine g_calli (va_runS (As := [.int (zI p5), .int (zI 0), .int (zI 7)]) (rest := []) ⟨hx, hb, hml, hown, hts⟩ (kX11_isWithin l D cy ad jf A u p5 0 7 (by omega) (by omega) (by omega)) (va_cwS 3 hts gX11_swim_X11_isWithin rfl rfl rfl (by decide +kernel) ⟨by decide, by decide⟩) (g_preS hG hC hS) rfl rfl hl.1 rfl (lv_room (Nat.le_of_ble_eq_true rfl)) dX11_swim_36 ⟨Nat.le_of_ble_eq_true rfl, Nat.le_of_ble_eq_true rfl⟩) hS (fun r76 u77 H locs p_78 hG hS => ?_)
          obtain ⟨⟨b79, rfl, q_80⟩, he_⟩ := p_78
          rw [he_] at hG; clear he_
          have hbb79 : 0 ≤ b79 ∧ b79 ≤ 1 := by rcases q_80 with ⟨h, _⟩ | ⟨h, _⟩ <;> omega
          refine z_if_ne (tgt := 44) hx hb dX11_swim_39 (by decide) (by omega) (by omega) (fun c_81 => ?_) (fun c_81 => ?_)
          · refine lv_aload_n hx hb dX11_swim_44 rfl (lv_at hl 1 rfl) ?_
            refine g_get (C := RX11) (T := TX11) (N := 14) (ci := 10) hx hb hts (fun _ h => (List.mem_cons_of_mem _ (List.mem_append_left _ (List.mem_append_left _ (List.mem_append_left _ (List.mem_append_left _ (List.mem_append_left _ (List.mem_append_left _ (List.mem_append_right _ h))))))))) hown hC.1 hG 0 (by decide) rfl rfl 0 (by decide) (hts (.fieldLink RX11 10 "StraitSwim" "strait" "LStraitSwim$Strait;") (List.mem_cons_of_mem _ (List.mem_append_left _ (List.mem_append_left _ (List.mem_append_left _ (List.mem_append_left _ (List.mem_append_left _ (List.mem_append_left _ (List.mem_append_left _ (List.mem_append_left _ (List.mem_of_getElem? (i := 0) rfl))))))))))) (fun _ h9 => h9) rfl dX11_swim_45 ?_
            refine lv_iload_n hx hb dX11_swim_48 rfl (lv_at hl 3 rfl) ?_
            refine lv_iload_n hx hb dX11_swim_49 rfl (lv_at hl 4 rfl) ?_
            refine g_calli (va_runV (As := [.int (zI p2), .int (zI p3)]) (rest := []) ⟨hx, hb, hml, hown, hts⟩ (kX8_isDry l D cy ad jf A u p2 p3 (by omega) (by omega) hd) (cwV 2 hts gX11_swim_X8_isDry rfl rfl rfl (by decide +kernel) ⟨by decide, by decide⟩) (g_preV (C := RX8) hG hC hS 1 (by decide) rfl rfl) rfl rfl hl.1 rfl (lv_room (Nat.le_of_ble_eq_true rfl)) dX11_swim_50 ⟨Nat.le_of_ble_eq_true rfl, Nat.le_of_ble_eq_true rfl⟩) hS (fun r82 u83 H locs p_84 hG hS => ?_)
            obtain ⟨rfl, he_⟩ := p_84
            rw [he_] at hG; clear he_
            obtain ⟨z86, hz86⟩ : ∃ z : Int, z = spDry (u.2.1 9) p2 p3 := ⟨_, rfl⟩
            rw [← hz86]
            have q_85 : z86 = 0 ∨ z86 = 1 := by rw [hz86]; exact hd _ (by omega)
            refine z_if_eq (tgt := 59) hx hb dX11_swim_53 (by decide) (by omega) (by omega) (fun c_87 => ?_) (fun c_87 => ?_)
            · refine lv_aload_n hx hb dX11_swim_59 rfl (lv_at hl 1 rfl) ?_
              refine g_get (C := RX11) (T := TX11) (N := 14) (ci := 10) hx hb hts (fun _ h => (List.mem_cons_of_mem _ (List.mem_append_left _ (List.mem_append_left _ (List.mem_append_left _ (List.mem_append_left _ (List.mem_append_left _ (List.mem_append_left _ (List.mem_append_right _ h))))))))) hown hC.1 hG 0 (by decide) rfl rfl 5 (by decide) (hts (.fieldLink RX11 35 "StraitSwim" "latest" "LStraitSwim$Swim;") (List.mem_cons_of_mem _ (List.mem_append_left _ (List.mem_append_left _ (List.mem_append_left _ (List.mem_append_left _ (List.mem_append_left _ (List.mem_append_left _ (List.mem_append_left _ (List.mem_append_left _ (List.mem_of_getElem? (i := 1) rfl))))))))))) (fun _ h9 => h9) rfl dX11_swim_60 ?_
              refine lv_aload hx hb dX11_swim_63 (lv_at hl 0 rfl) ?_
              refine lv_aload_n hx hb dX11_swim_65 rfl (lv_at hl 1 rfl) ?_
              refine g_get (C := RX11) (T := TX11) (N := 14) (ci := 10) hx hb hts (fun _ h => (List.mem_cons_of_mem _ (List.mem_append_left _ (List.mem_append_left _ (List.mem_append_left _ (List.mem_append_left _ (List.mem_append_left _ (List.mem_append_left _ (List.mem_append_right _ h))))))))) hown hC.1 hG 0 (by decide) rfl rfl 3 (by decide) (hts (.fieldLink RX11 26 "StraitSwim" "chill" "I") (List.mem_cons_of_mem _ (List.mem_append_left _ (List.mem_append_left _ (List.mem_append_left _ (List.mem_append_left _ (List.mem_append_left _ (List.mem_append_left _ (List.mem_append_left _ (List.mem_append_left _ (List.mem_of_getElem? (i := 2) rfl))))))))))) (fun _ h9 => h9) rfl dX11_swim_66 ?_
              refine g_callv (va_runV (As := [.ref a, .int (zI (u.1 1))]) (rest := []) ⟨hx, hb, hml, hown, hts⟩ (kX9_ready_2_X4 l D cy ad jf A u a ((p1.toNat : Int)) (S9 p1.toNat) (L9 p1.toNat) (F9 p1.toNat) (u.1 1) ha hE (by omega) (by omega) (by omega) (by omega) hrd.2.2.2.2) (cwV 2 hts gX11_swim_X9_ready rfl rfl rfl (by decide +kernel) ⟨by decide, by decide⟩) (g_preV (C := RX9) hG hC hS 2 (by decide) rfl rfl) rfl rfl hl.1 rfl (lv_room (Nat.le_of_ble_eq_true rfl)) dX11_swim_69 ⟨Nat.le_of_ble_eq_true rfl, Nat.le_of_ble_eq_true rfl⟩) hS (fun u89 H locs p_90 hG hS => ?_)
              obtain ⟨⟨r1_, r2_, r3_, r4_, r5_⟩, rk_, ri_, rr_⟩ := cReady_inv (u := u) (sd := 15) (cl := 16) (nu := 5) (rc := 8) (tc := 9) (by decide) (by decide) (K := 2) (nm := (p1.toNat : Int)) (sp := S9 p1.toNat) (li := L9 p1.toNat) (fd := F9 p1.toNat) (ch := u.1 1) (by omega) (by omega) (by omega) hrd
              rw [← p_90] at r1_ r2_ r3_ r4_ r5_ rk_ ri_ rr_
              have hd2 : ∀ j, j < 288 → u89.2.1 9 j = 0 ∨ u89.2.1 9 j = 1 := by rw [rk_ 9 (by decide)]; exact hd
              have i10b : ∀ j, j < 36 → -9 ≤ u89.2.1 10 j ∧ u89.2.1 10 j ≤ 9 := by rw [rk_ 10 (by decide)]; exact i10
              have i11b : ∀ j, j < 36 → -9 ≤ u89.2.1 11 j ∧ u89.2.1 11 j ≤ 9 := by rw [rk_ 11 (by decide)]; exact i11
              refine lv_aload_n hx hb dX11_swim_72 rfl (lv_at hl 1 rfl) ?_
              refine g_get (C := RX11) (T := TX11) (N := 14) (ci := 10) hx hb hts (fun _ h => (List.mem_cons_of_mem _ (List.mem_append_left _ (List.mem_append_left _ (List.mem_append_left _ (List.mem_append_left _ (List.mem_append_left _ (List.mem_append_left _ (List.mem_append_right _ h))))))))) hown hC.1 hG 0 (by decide) rfl rfl 5 (by decide) (hts (.fieldLink RX11 35 "StraitSwim" "latest" "LStraitSwim$Swim;") (List.mem_cons_of_mem _ (List.mem_append_left _ (List.mem_append_left _ (List.mem_append_left _ (List.mem_append_left _ (List.mem_append_left _ (List.mem_append_left _ (List.mem_append_left _ (List.mem_append_left _ (List.mem_of_getElem? (i := 1) rfl))))))))))) (fun _ h9 => h9) rfl dX11_swim_73 ?_
              refine lv_aload_n hx hb dX11_swim_76 rfl (lv_at hl 1 rfl) ?_
              refine g_get (C := RX11) (T := TX11) (N := 14) (ci := 10) hx hb hts (fun _ h => (List.mem_cons_of_mem _ (List.mem_append_left _ (List.mem_append_left _ (List.mem_append_left _ (List.mem_append_left _ (List.mem_append_left _ (List.mem_append_left _ (List.mem_append_right _ h))))))))) hown hC.1 hG 0 (by decide) rfl rfl 0 (by decide) (hts (.fieldLink RX11 10 "StraitSwim" "strait" "LStraitSwim$Strait;") (List.mem_cons_of_mem _ (List.mem_append_left _ (List.mem_append_left _ (List.mem_append_left _ (List.mem_append_left _ (List.mem_append_left _ (List.mem_append_left _ (List.mem_append_left _ (List.mem_append_left _ (List.mem_of_getElem? (i := 0) rfl))))))))))) (fun _ h9 => h9) rfl dX11_swim_77 ?_
              refine lv_iload_n hx hb dX11_swim_80 rfl (lv_at hl 3 rfl) ?_
              refine lv_iload_n hx hb dX11_swim_81 rfl (lv_at hl 4 rfl) ?_
              refine lv_iload hx hb dX11_swim_82 (lv_at hl 5 rfl) ?_
              refine lv_iload hx hb dX11_swim_84 (lv_at hl 6 rfl) ?_
              refine g_calli (va_runV (As := [.ref (ad 1), .int (zI p2), .int (zI p3), .int (zI p4), .int (zI p5)]) (rest := []) ⟨hx, hb, hml, hown, hts⟩ (kX9_cross_2 l D cy ad jf A u89 p2 p3 p4 p5 (by omega) (by omega) (by omega) (by omega) i10b i11b r1_ r2_ hd2 r3_ r4_) (cwV 5 hts gX11_swim_X9_cross rfl rfl rfl (by decide +kernel) ⟨by decide, by decide⟩) (g_preV (C := RX9) hG hC hS 2 (by decide) rfl rfl) rfl rfl hl.1 rfl (lv_room (Nat.le_of_ble_eq_true rfl)) dX11_swim_86 ⟨Nat.le_of_ble_eq_true rfl, Nat.le_of_ble_eq_true rfl⟩) hS (fun r91 u92 H locs p_93 hG hS => ?_)
              obtain ⟨rfl, hu92⟩ := p_93
              exact W.iret (v := zI ((cCross u89 13 14 15 16 6 7 8 9 p2 p3 p4 p5).1)) hx hb hr (fun t9 ht9_ hW => ⟨⟨zI ((cCross u89 13 14 15 16 6 7 8 9 p2 p3 p4 p5).1), u92, rfl, (by unfold cSwim; rw [if_pos (by omega), if_pos (by omega), hk0, ← p_90]; exact ⟨rfl, hu92⟩), gB.mk' hG hC hS ht9_ hW⟩, hS.F ht9_⟩) hS.2.2 dX11_swim_89
            · refine z_bipush hx hb dX11_swim_56 (by decide) ?_
              exact W.iret (v := zI ((-4))) hx hb hr (fun t9 ht9_ hW => ⟨⟨zI ((-4)), u, rfl, (by unfold cSwim; (first | (rw [if_neg (by omega)]; exact ⟨rfl, rfl⟩) | (rw [if_pos (by omega), if_neg (by omega)]; exact ⟨rfl, rfl⟩))), gB.mk' hG hC hS ht9_ hW⟩, hS.F ht9_⟩) hS.2.2 dX11_swim_58
          · refine z_iconst hx hb dX11_swim_42 ?_
            exact W.iret (v := zI ((-1))) hx hb hr (fun t9 ht9_ hW => ⟨⟨zI ((-1)), u, rfl, (by unfold cSwim; (first | (rw [if_neg (by omega)]; exact ⟨rfl, rfl⟩) | (rw [if_pos (by omega), if_neg (by omega)]; exact ⟨rfl, rfl⟩))), gB.mk' hG hC hS ht9_ hW⟩, hS.F ht9_⟩) hS.2.2 dX11_swim_43
    · have hE : u.2.2.2.2 a = .inr (5, [.int (zI (p1.toNat : Int)), .int (zI (S9 p1.toNat)), .int (zI (L9 p1.toNat)), .int (zI (F9 p1.toNat))]) := by rw [hE0, hk0]; rfl
      simp only [va_rf]
      refine lv_astore (lv' := [(6, .ref a), (0, .ref (ad 0)), (1, .int (zI p1)), (2, .int (zI p2)), (3, .int (zI p3)), (4, .int (zI p4)), (5, .int (zI p5))]) hx hb dX11_swim_5 hl (by decide) rfl (fun ls hl => ?_)
      refine lv_aload hx hb dX11_swim_7 (lv_at hl 0 rfl) ?_
      refine lv_ifnull hx hb dX11_swim_9 ?_
      refine lv_iload_n hx hb dX11_swim_12 rfl (lv_at hl 3 rfl) ?_
      refine lv_iload_n hx hb dX11_swim_13 rfl (lv_at hl 4 rfl) ?_
      refine g_calli (va_runS (As := [.int (zI p2), .int (zI p3)]) (rest := []) ⟨hx, hb, hml, hown, hts⟩ (kX11_isPlace l D cy ad jf A u p2 p3 (by omega) (by omega)) (va_cwS 2 hts gX11_swim_X11_isPlace rfl rfl rfl (by decide +kernel) ⟨by decide, by decide⟩) (g_preS hG hC hS) rfl rfl hl.1 rfl (lv_room (Nat.le_of_ble_eq_true rfl)) dX11_swim_14 ⟨Nat.le_of_ble_eq_true rfl, Nat.le_of_ble_eq_true rfl⟩) hS (fun r94 u95 H locs p_96 hG hS => ?_)
      obtain ⟨⟨b97, rfl, q_98⟩, he_⟩ := p_96
      rw [he_] at hG; clear he_
      have hbb97 : 0 ≤ b97 ∧ b97 ≤ 1 := by rcases q_98 with ⟨h, _⟩ | ⟨h, _⟩ <;> omega
      refine z_if_eq (tgt := 42) hx hb dX11_swim_17 (by decide) (by omega) (by omega) (fun c_99 => ?_) (fun c_99 => ?_)
      · refine z_iconst hx hb dX11_swim_42 ?_
        exact W.iret (v := zI ((-1))) hx hb hr (fun t9 ht9_ hW => ⟨⟨zI ((-1)), u, rfl, (by unfold cSwim; (first | (rw [if_neg (by omega)]; exact ⟨rfl, rfl⟩) | (rw [if_pos (by omega), if_neg (by omega)]; exact ⟨rfl, rfl⟩))), gB.mk' hG hC hS ht9_ hW⟩, hS.F ht9_⟩) hS.2.2 dX11_swim_43
      · refine lv_iload hx hb dX11_swim_20 (lv_at hl 5 rfl) ?_
        refine z_iconst hx hb dX11_swim_22 ?_
        refine z_bipush hx hb dX11_swim_23 (by decide) ?_
        refine g_calli (va_runS (As := [.int (zI p4), .int (zI 0), .int (zI 47)]) (rest := []) ⟨hx, hb, hml, hown, hts⟩ (kX11_isWithin l D cy ad jf A u p4 0 47 (by omega) (by omega) (by omega)) (va_cwS 3 hts gX11_swim_X11_isWithin rfl rfl rfl (by decide +kernel) ⟨by decide, by decide⟩) (g_preS hG hC hS) rfl rfl hl.1 rfl (lv_room (Nat.le_of_ble_eq_true rfl)) dX11_swim_25 ⟨Nat.le_of_ble_eq_true rfl, Nat.le_of_ble_eq_true rfl⟩) hS (fun r100 u101 H locs p_102 hG hS => ?_)
        obtain ⟨⟨b103, rfl, q_104⟩, he_⟩ := p_102
        rw [he_] at hG; clear he_
        have hbb103 : 0 ≤ b103 ∧ b103 ≤ 1 := by rcases q_104 with ⟨h, _⟩ | ⟨h, _⟩ <;> omega
        refine z_if_eq (tgt := 42) hx hb dX11_swim_28 (by decide) (by omega) (by omega) (fun c_105 => ?_) (fun c_105 => ?_)
        · refine z_iconst hx hb dX11_swim_42 ?_
          exact W.iret (v := zI ((-1))) hx hb hr (fun t9 ht9_ hW => ⟨⟨zI ((-1)), u, rfl, (by unfold cSwim; (first | (rw [if_neg (by omega)]; exact ⟨rfl, rfl⟩) | (rw [if_pos (by omega), if_neg (by omega)]; exact ⟨rfl, rfl⟩))), gB.mk' hG hC hS ht9_ hW⟩, hS.F ht9_⟩) hS.2.2 dX11_swim_43
        · refine lv_iload hx hb dX11_swim_31 (lv_at hl 6 rfl) ?_
          refine z_iconst hx hb dX11_swim_33 ?_
          refine z_bipush hx hb dX11_swim_34 (by decide) ?_
          refine g_calli (va_runS (As := [.int (zI p5), .int (zI 0), .int (zI 7)]) (rest := []) ⟨hx, hb, hml, hown, hts⟩ (kX11_isWithin l D cy ad jf A u p5 0 7 (by omega) (by omega) (by omega)) (va_cwS 3 hts gX11_swim_X11_isWithin rfl rfl rfl (by decide +kernel) ⟨by decide, by decide⟩) (g_preS hG hC hS) rfl rfl hl.1 rfl (lv_room (Nat.le_of_ble_eq_true rfl)) dX11_swim_36 ⟨Nat.le_of_ble_eq_true rfl, Nat.le_of_ble_eq_true rfl⟩) hS (fun r106 u107 H locs p_108 hG hS => ?_)
          obtain ⟨⟨b109, rfl, q_110⟩, he_⟩ := p_108
          rw [he_] at hG; clear he_
          have hbb109 : 0 ≤ b109 ∧ b109 ≤ 1 := by rcases q_110 with ⟨h, _⟩ | ⟨h, _⟩ <;> omega
          refine z_if_ne (tgt := 44) hx hb dX11_swim_39 (by decide) (by omega) (by omega) (fun c_111 => ?_) (fun c_111 => ?_)
          · refine lv_aload_n hx hb dX11_swim_44 rfl (lv_at hl 1 rfl) ?_
            refine g_get (C := RX11) (T := TX11) (N := 14) (ci := 10) hx hb hts (fun _ h => (List.mem_cons_of_mem _ (List.mem_append_left _ (List.mem_append_left _ (List.mem_append_left _ (List.mem_append_left _ (List.mem_append_left _ (List.mem_append_left _ (List.mem_append_right _ h))))))))) hown hC.1 hG 0 (by decide) rfl rfl 0 (by decide) (hts (.fieldLink RX11 10 "StraitSwim" "strait" "LStraitSwim$Strait;") (List.mem_cons_of_mem _ (List.mem_append_left _ (List.mem_append_left _ (List.mem_append_left _ (List.mem_append_left _ (List.mem_append_left _ (List.mem_append_left _ (List.mem_append_left _ (List.mem_append_left _ (List.mem_of_getElem? (i := 0) rfl))))))))))) (fun _ h9 => h9) rfl dX11_swim_45 ?_
            refine lv_iload_n hx hb dX11_swim_48 rfl (lv_at hl 3 rfl) ?_
            refine lv_iload_n hx hb dX11_swim_49 rfl (lv_at hl 4 rfl) ?_
            refine g_calli (va_runV (As := [.int (zI p2), .int (zI p3)]) (rest := []) ⟨hx, hb, hml, hown, hts⟩ (kX8_isDry l D cy ad jf A u p2 p3 (by omega) (by omega) hd) (cwV 2 hts gX11_swim_X8_isDry rfl rfl rfl (by decide +kernel) ⟨by decide, by decide⟩) (g_preV (C := RX8) hG hC hS 1 (by decide) rfl rfl) rfl rfl hl.1 rfl (lv_room (Nat.le_of_ble_eq_true rfl)) dX11_swim_50 ⟨Nat.le_of_ble_eq_true rfl, Nat.le_of_ble_eq_true rfl⟩) hS (fun r112 u113 H locs p_114 hG hS => ?_)
            obtain ⟨rfl, he_⟩ := p_114
            rw [he_] at hG; clear he_
            obtain ⟨z116, hz116⟩ : ∃ z : Int, z = spDry (u.2.1 9) p2 p3 := ⟨_, rfl⟩
            rw [← hz116]
            have q_115 : z116 = 0 ∨ z116 = 1 := by rw [hz116]; exact hd _ (by omega)
            refine z_if_eq (tgt := 59) hx hb dX11_swim_53 (by decide) (by omega) (by omega) (fun c_117 => ?_) (fun c_117 => ?_)
            · refine lv_aload_n hx hb dX11_swim_59 rfl (lv_at hl 1 rfl) ?_
              refine g_get (C := RX11) (T := TX11) (N := 14) (ci := 10) hx hb hts (fun _ h => (List.mem_cons_of_mem _ (List.mem_append_left _ (List.mem_append_left _ (List.mem_append_left _ (List.mem_append_left _ (List.mem_append_left _ (List.mem_append_left _ (List.mem_append_right _ h))))))))) hown hC.1 hG 0 (by decide) rfl rfl 5 (by decide) (hts (.fieldLink RX11 35 "StraitSwim" "latest" "LStraitSwim$Swim;") (List.mem_cons_of_mem _ (List.mem_append_left _ (List.mem_append_left _ (List.mem_append_left _ (List.mem_append_left _ (List.mem_append_left _ (List.mem_append_left _ (List.mem_append_left _ (List.mem_append_left _ (List.mem_of_getElem? (i := 1) rfl))))))))))) (fun _ h9 => h9) rfl dX11_swim_60 ?_
              refine lv_aload hx hb dX11_swim_63 (lv_at hl 0 rfl) ?_
              refine lv_aload_n hx hb dX11_swim_65 rfl (lv_at hl 1 rfl) ?_
              refine g_get (C := RX11) (T := TX11) (N := 14) (ci := 10) hx hb hts (fun _ h => (List.mem_cons_of_mem _ (List.mem_append_left _ (List.mem_append_left _ (List.mem_append_left _ (List.mem_append_left _ (List.mem_append_left _ (List.mem_append_left _ (List.mem_append_right _ h))))))))) hown hC.1 hG 0 (by decide) rfl rfl 3 (by decide) (hts (.fieldLink RX11 26 "StraitSwim" "chill" "I") (List.mem_cons_of_mem _ (List.mem_append_left _ (List.mem_append_left _ (List.mem_append_left _ (List.mem_append_left _ (List.mem_append_left _ (List.mem_append_left _ (List.mem_append_left _ (List.mem_append_left _ (List.mem_of_getElem? (i := 2) rfl))))))))))) (fun _ h9 => h9) rfl dX11_swim_66 ?_
              refine g_callv (va_runV (As := [.ref a, .int (zI (u.1 1))]) (rest := []) ⟨hx, hb, hml, hown, hts⟩ (kX9_ready_2_X6 l D cy ad jf A u a ((p1.toNat : Int)) (S9 p1.toNat) (L9 p1.toNat) (F9 p1.toNat) (u.1 1) ha hE (by omega) (by omega) (by omega) (by omega) hrd.2.2.2.2) (cwV 2 hts gX11_swim_X9_ready rfl rfl rfl (by decide +kernel) ⟨by decide, by decide⟩) (g_preV (C := RX9) hG hC hS 2 (by decide) rfl rfl) rfl rfl hl.1 rfl (lv_room (Nat.le_of_ble_eq_true rfl)) dX11_swim_69 ⟨Nat.le_of_ble_eq_true rfl, Nat.le_of_ble_eq_true rfl⟩) hS (fun u119 H locs p_120 hG hS => ?_)
              obtain ⟨⟨r1_, r2_, r3_, r4_, r5_⟩, rk_, ri_, rr_⟩ := cReady_inv (u := u) (sd := 15) (cl := 16) (nu := 5) (rc := 8) (tc := 9) (by decide) (by decide) (K := 3) (nm := (p1.toNat : Int)) (sp := S9 p1.toNat) (li := L9 p1.toNat) (fd := F9 p1.toNat) (ch := u.1 1) (by omega) (by omega) (by omega) hrd
              rw [← p_120] at r1_ r2_ r3_ r4_ r5_ rk_ ri_ rr_
              have hd2 : ∀ j, j < 288 → u119.2.1 9 j = 0 ∨ u119.2.1 9 j = 1 := by rw [rk_ 9 (by decide)]; exact hd
              have i10b : ∀ j, j < 36 → -9 ≤ u119.2.1 10 j ∧ u119.2.1 10 j ≤ 9 := by rw [rk_ 10 (by decide)]; exact i10
              have i11b : ∀ j, j < 36 → -9 ≤ u119.2.1 11 j ∧ u119.2.1 11 j ≤ 9 := by rw [rk_ 11 (by decide)]; exact i11
              refine lv_aload_n hx hb dX11_swim_72 rfl (lv_at hl 1 rfl) ?_
              refine g_get (C := RX11) (T := TX11) (N := 14) (ci := 10) hx hb hts (fun _ h => (List.mem_cons_of_mem _ (List.mem_append_left _ (List.mem_append_left _ (List.mem_append_left _ (List.mem_append_left _ (List.mem_append_left _ (List.mem_append_left _ (List.mem_append_right _ h))))))))) hown hC.1 hG 0 (by decide) rfl rfl 5 (by decide) (hts (.fieldLink RX11 35 "StraitSwim" "latest" "LStraitSwim$Swim;") (List.mem_cons_of_mem _ (List.mem_append_left _ (List.mem_append_left _ (List.mem_append_left _ (List.mem_append_left _ (List.mem_append_left _ (List.mem_append_left _ (List.mem_append_left _ (List.mem_append_left _ (List.mem_of_getElem? (i := 1) rfl))))))))))) (fun _ h9 => h9) rfl dX11_swim_73 ?_
              refine lv_aload_n hx hb dX11_swim_76 rfl (lv_at hl 1 rfl) ?_
              refine g_get (C := RX11) (T := TX11) (N := 14) (ci := 10) hx hb hts (fun _ h => (List.mem_cons_of_mem _ (List.mem_append_left _ (List.mem_append_left _ (List.mem_append_left _ (List.mem_append_left _ (List.mem_append_left _ (List.mem_append_left _ (List.mem_append_right _ h))))))))) hown hC.1 hG 0 (by decide) rfl rfl 0 (by decide) (hts (.fieldLink RX11 10 "StraitSwim" "strait" "LStraitSwim$Strait;") (List.mem_cons_of_mem _ (List.mem_append_left _ (List.mem_append_left _ (List.mem_append_left _ (List.mem_append_left _ (List.mem_append_left _ (List.mem_append_left _ (List.mem_append_left _ (List.mem_append_left _ (List.mem_of_getElem? (i := 0) rfl))))))))))) (fun _ h9 => h9) rfl dX11_swim_77 ?_
              refine lv_iload_n hx hb dX11_swim_80 rfl (lv_at hl 3 rfl) ?_
              refine lv_iload_n hx hb dX11_swim_81 rfl (lv_at hl 4 rfl) ?_
              refine lv_iload hx hb dX11_swim_82 (lv_at hl 5 rfl) ?_
              refine lv_iload hx hb dX11_swim_84 (lv_at hl 6 rfl) ?_
              refine g_calli (va_runV (As := [.ref (ad 1), .int (zI p2), .int (zI p3), .int (zI p4), .int (zI p5)]) (rest := []) ⟨hx, hb, hml, hown, hts⟩ (kX9_cross_2 l D cy ad jf A u119 p2 p3 p4 p5 (by omega) (by omega) (by omega) (by omega) i10b i11b r1_ r2_ hd2 r3_ r4_) (cwV 5 hts gX11_swim_X9_cross rfl rfl rfl (by decide +kernel) ⟨by decide, by decide⟩) (g_preV (C := RX9) hG hC hS 2 (by decide) rfl rfl) rfl rfl hl.1 rfl (lv_room (Nat.le_of_ble_eq_true rfl)) dX11_swim_86 ⟨Nat.le_of_ble_eq_true rfl, Nat.le_of_ble_eq_true rfl⟩) hS (fun r121 u122 H locs p_123 hG hS => ?_)
              obtain ⟨rfl, hu122⟩ := p_123
              exact W.iret (v := zI ((cCross u119 13 14 15 16 6 7 8 9 p2 p3 p4 p5).1)) hx hb hr (fun t9 ht9_ hW => ⟨⟨zI ((cCross u119 13 14 15 16 6 7 8 9 p2 p3 p4 p5).1), u122, rfl, (by unfold cSwim; rw [if_pos (by omega), if_pos (by omega), hk0, ← p_120]; exact ⟨rfl, hu122⟩), gB.mk' hG hC hS ht9_ hW⟩, hS.F ht9_⟩) hS.2.2 dX11_swim_89
            · refine z_bipush hx hb dX11_swim_56 (by decide) ?_
              exact W.iret (v := zI ((-4))) hx hb hr (fun t9 ht9_ hW => ⟨⟨zI ((-4)), u, rfl, (by unfold cSwim; (first | (rw [if_neg (by omega)]; exact ⟨rfl, rfl⟩) | (rw [if_pos (by omega), if_neg (by omega)]; exact ⟨rfl, rfl⟩))), gB.mk' hG hC hS ht9_ hW⟩, hS.F ht9_⟩) hS.2.2 dX11_swim_58
          · refine z_iconst hx hb dX11_swim_42 ?_
            exact W.iret (v := zI ((-1))) hx hb hr (fun t9 ht9_ hW => ⟨⟨zI ((-1)), u, rfl, (by unfold cSwim; (first | (rw [if_neg (by omega)]; exact ⟨rfl, rfl⟩) | (rw [if_pos (by omega), if_neg (by omega)]; exact ⟨rfl, rfl⟩))), gB.mk' hG hC hS ht9_ hW⟩, hS.F ht9_⟩) hS.2.2 dX11_swim_43
  · rw [if_neg hk_] at hr_
    subst hr_
    simp only [va_rf]
    refine lv_astoreN (lv' := [(6, .null), (0, .ref (ad 0)), (1, .int (zI p1)), (2, .int (zI p2)), (3, .int (zI p3)), (4, .int (zI p4)), (5, .int (zI p5))]) hx hb dX11_swim_5 hl (by decide) rfl (fun ls hl => ?_)
    refine lv_aloadN hx hb dX11_swim_7 (lv_at hl 0 rfl) ?_
    refine lv_ifnullN (tgt := 42) hx hb dX11_swim_9 (by decide) ?_
    refine z_iconst hx hb dX11_swim_42 ?_
    exact W.iret (v := zI ((-1))) hx hb hr (fun t9 ht9_ hW => ⟨⟨zI ((-1)), u, rfl, (by unfold cSwim; (first | (rw [if_neg (by omega)]; exact ⟨rfl, rfl⟩) | (rw [if_pos (by omega), if_neg (by omega)]; exact ⟨rfl, rfl⟩))), gB.mk' hG hC hS ht9_ hW⟩, hS.F ht9_⟩) hS.2.2 dX11_swim_43
