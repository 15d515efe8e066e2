set_option maxHeartbeats 4000000 in
set_option maxRecDepth 100000 in
theorem kX9_staysWithin_2 (l : Launch) (D : va_G) (cy : Nat → ClassId) (ad : Nat → Nat) (jf : Nat → Int64) (A : Nat → Prop) (u : gS) (p2 p3 p4 : Int) (j_2 : 0 ≤ p2 ∧ p2 ≤ 99) (j_3 : 0 ≤ p3 ∧ p3 ≤ 1000) (j_4 : 0 ≤ p4 ∧ p4 ≤ 7) (i10 : ∀ j, j < 36 → -9 ≤ u.2.1 10 j ∧ u.2.1 10 j ≤ 9) (i11 : ∀ j, j < 36 → -9 ≤ u.2.1 11 j ∧ u.2.1 11 j ≤ 9) (isd : ∀ j, j < 100 → 0 ≤ u.2.1 15 j ∧ u.2.1 15 j ≤ 24) (hpx : 0 ≤ u.2.1 13 p2.toNat ∧ u.2.1 13 p2.toNat ≤ 239) (hpy : 0 ≤ u.2.1 14 p2.toNat ∧ u.2.1 14 p2.toNat ≤ 119) : Met l yX9_staysWithin wsX9_staysWithin ({ frames := 2, cells := 0, slots := 0, locals := 43 }) (va_Pc [.ref (ad 2), .ref (ad 1), .int (zI p2), .int (zI p3), .int (zI p4)] (gB D cy ad jf A u)) (va_Qi (fun (r : Int32) (v : gS) => r = zI (cStay u 13 14 15 6 p2 p3 p4).1 ∧ v = (cStay u 13 14 15 6 p2 p3 p4).2) (gB D cy ad jf A) A) 0 0 A := by
  refine Met.ofW (cc := cX9_staysWithin) (maxL := 10) (ret := (some .boolean)) (by decide) rfl ?_
  intro p e s m args below meth c s₁ B hml hv
  obtain ⟨rfl, hG, hC⟩ := hv
  have hx := B.exec
  have hb := B.bytes
  have hr := B.returns
  have hts := atoms_spec (ws := wsX9_staysWithin) B.pre
  have hown : s.vm.findClass RX9 = some m.cls := findClass_of_methodNamed B.named
  have hlocks := B.notSynchronized
  have hS : va_S A s.heap s.heap [] := va_S.rf
  have hl := lv_entry ([.ref (ad 2), .ref (ad 1), .int (zI p2), .int (zI p3), .int (zI p4)]) (n := 10) (Nat.le_of_ble_eq_true rfl)
  rw [lg_entry_eq]
  generalize (lg_sl ([.ref (ad 2), .ref (ad 1), .int (zI p2), .int (zI p3), .int (zI p4)]) ++ List.replicate (10 - (lg_sl ([.ref (ad 2), .ref (ad 1), .int (zI p2), .int (zI p3), .int (zI p4)])).length) Slot.unset).toArray = ls at hl ⊢
  have hl : lv_has ls 10 [(0, .ref (ad 2)), (1, .ref (ad 1)), (2, .int (zI p2)), (3, .int (zI p3)), (4, .int (zI p4))] := hl
  obtain ⟨⟨tE, hZE, hTE⟩, ⟨tN, hZN, hTN⟩⟩ := hC.2.2.1
  refine lv_iload hx hb dX9_staysWithin_0 (lv_at hl 4 rfl) ?_
  refine z_iconst hx hb dX9_staysWithin_2 ?_
  refine z_irem hx hb dX9_staysWithin_3 (by omega) (by omega) (by omega) (by omega) ?_
  refine z_if_ne (tgt := 16) hx hb dX9_staysWithin_4 (by decide) (by omega) (by omega) (fun c_1 => ?_) (fun c_1 => ?_)
  · refine lv_aload_n hx hb dX9_staysWithin_16 rfl (lv_at hl 0 rfl) ?_
    refine g_get (C := RX9) (T := TX9) (N := 9) (ci := 8) hx hb hts (fun _ h => (List.mem_cons_of_mem _ (List.mem_append_left _ (List.mem_append_right _ h)))) hown hC.1 hG 2 (by decide) rfl rfl 5 (by decide) (hts (.fieldLink RX9 28 "StraitSwim$Swim" "strides" "[I") (List.mem_cons_of_mem _ (List.mem_append_left _ (List.mem_append_left _ (List.mem_of_getElem? (i := 0) rfl))))) (fun _ h9 => h9) rfl dX9_staysWithin_17 ?_
    refine lv_iload_n hx hb dX9_staysWithin_20 rfl (lv_at hl 2 rfl) ?_
    refine g_iald (n := 100) hx hb hC.1 hG 15 (by decide) rfl (by omega) (by omega) (by decide) dX9_staysWithin_21 ?_
    have q_2 := isd p2.toNat (by omega)
    refine z_bipush hx hb dX9_staysWithin_22 (by decide) ?_
    refine z_imul hx hb dX9_staysWithin_24 ?_
    refine z_bipush hx hb dX9_staysWithin_25 (by decide) ?_
    refine z_idiv hx hb dX9_staysWithin_27 (by omega) (by omega) (by omega) (by omega) ?_
    obtain ⟨al, hal⟩ : ∃ z : Int, z = ((u.2.1 15 p2.toNat) * 7) / 10 := ⟨_, rfl⟩
    rw [← hal]
    refine lv_istore (lv' := [(5, .int (zI al)), (0, .ref (ad 2)), (1, .ref (ad 1)), (2, .int (zI p2)), (3, .int (zI p3)), (4, .int (zI p4))]) hx hb dX9_staysWithin_28 hl (by decide) rfl (fun ls hl => ?_)
    refine lv_aload_n hx hb dX9_staysWithin_30 rfl (lv_at hl 1 rfl) ?_
    refine g_get (C := RX9) (T := TX9) (N := 9) (ci := 8) hx hb hts (fun _ h => (List.mem_cons_of_mem _ (List.mem_append_left _ (List.mem_append_right _ h)))) hown hC.1 hG 2 (by decide) rfl rfl 4 (by decide) (hts (.fieldLink RX9 25 "StraitSwim$Swim" "ys" "[I") (List.mem_cons_of_mem _ (List.mem_append_left _ (List.mem_append_left _ (List.mem_of_getElem? (i := 1) rfl))))) (fun _ h9 => h9) rfl dX9_staysWithin_31 ?_
    refine lv_iload_n hx hb dX9_staysWithin_34 rfl (lv_at hl 3 rfl) ?_
    refine g_iald (n := 101) hx hb hC.1 hG 14 (by decide) rfl (by omega) (by omega) (by decide) dX9_staysWithin_35 ?_
    refine lv_iload_n hx hb dX9_staysWithin_36 rfl (lv_at hl 4 rfl) ?_
    refine g_calli (va_runSN (As := [.int (zI (u.2.1 14 p2.toNat)), .int (zI p3)]) (rest := []) ⟨hx, hb, hml, hown, hts⟩ (kX11_tideIndex l D cy ad jf A u (u.2.1 14 p2.toNat) p3 (by omega) (by omega)) ⟨va_cnB 2 hts gX9_staysWithin_X11_tideIndex_n74 rfl rfl rfl hC.2.2.2.1.2.1 (hts (.initialized RX11) (List.mem_cons_of_mem _ (List.mem_append_left _ (List.mem_append_left _ (List.mem_of_getElem? (i := 7) rfl))))) (by decide +kernel) ⟨by decide, by decide⟩, (hts (.static yX11_tideIndex) (List.mem_cons_of_mem _ (List.mem_append_left _ (List.mem_append_left _ (List.mem_of_getElem? (i := 6) rfl))))), trivial⟩ (g_preS hG hC hS) rfl rfl hl.1 rfl (lv_room (Nat.le_of_ble_eq_true rfl)) dX9_staysWithin_37 ⟨Nat.le_of_ble_eq_true rfl, Nat.le_of_ble_eq_true rfl⟩) hS (fun r3 u4 H locs p_5 hG hS => ?_)
    obtain ⟨rfl, he_⟩ := p_5
    rw [he_] at hG; clear he_
    obtain ⟨wn, hwn⟩ : ∃ z : Int, z = (u.2.1 14 p2.toNat) / 40 * 12 + p3 / 4 % 12 := ⟨_, rfl⟩
    rw [← hwn]
    refine lv_istore (lv' := [(6, .int (zI wn)), (5, .int (zI al)), (0, .ref (ad 2)), (1, .ref (ad 1)), (2, .int (zI p2)), (3, .int (zI p3)), (4, .int (zI p4))]) hx hb dX9_staysWithin_40 hl (by decide) rfl (fun ls hl => ?_)
    refine lv_aload_n hx hb dX9_staysWithin_42 rfl (lv_at hl 2 rfl) ?_
    refine g_get (C := RX9) (T := TX9) (N := 9) (ci := 8) hx hb hts (fun _ h => (List.mem_cons_of_mem _ (List.mem_append_left _ (List.mem_append_right _ h)))) hown hC.1 hG 2 (by decide) rfl rfl 3 (by decide) (hts (.fieldLink RX9 21 "StraitSwim$Swim" "xs" "[I") (List.mem_cons_of_mem _ (List.mem_append_left _ (List.mem_append_left _ (List.mem_of_getElem? (i := 2) rfl))))) (fun _ h9 => h9) rfl dX9_staysWithin_43 ?_
    refine lv_iload_n hx hb dX9_staysWithin_46 rfl (lv_at hl 4 rfl) ?_
    refine g_iald (n := 101) hx hb hC.1 hG 13 (by decide) rfl (by omega) (by omega) (by decide) dX9_staysWithin_47 ?_
    refine va_getsN (C := RX11) (n := "AIM_EAST") (d := "[I") hx hb hZE hS hown (va_Nw.use rfl hC.2.2.2.2.1.1) (fun _ h9 => h9) dX9_staysWithin_48 ?_
    refine lv_iload hx hb dX9_staysWithin_51 (lv_at hl 6 rfl) ?_
    refine va_ti (v := .int (zI (aimE p4.toNat))) hx hb hTE hS (zI_in (by omega) (by omega) (by decide)) (by rw [zI_clamp (by omega) (by omega)]) dX9_staysWithin_53 ?_
    obtain ⟨z6, hz6⟩ : ∃ z : Int, z = aimE p4.toNat := ⟨_, rfl⟩
    rw [← hz6]
    have qz6 : -1 ≤ z6 ∧ z6 ≤ 1 := by rw [hz6]; exact aimE_bnd _
    refine lv_iload hx hb dX9_staysWithin_54 (lv_at hl 1 rfl) ?_
    have q_7 := mul1 (a := z6) (b := al) (by omega) (by omega)
    refine z_imul hx hb dX9_staysWithin_56 ?_
    refine z_iadd hx hb dX9_staysWithin_57 ?_
    refine lv_aload_n hx hb dX9_staysWithin_58 rfl (lv_at hl 3 rfl) ?_
    refine g_get (C := RX8) (T := TX8) (N := 4) (ci := 7) hx hb hts (fun _ h => (List.mem_cons_of_mem _ (List.mem_append_right _ h))) hown hC.1 hG 1 (by decide) rfl rfl 2 (by decide) (hts (.fieldLink RX9 80 "StraitSwim$Strait" "east" "[I") (List.mem_cons_of_mem _ (List.mem_append_left _ (List.mem_append_left _ (List.mem_of_getElem? (i := 3) rfl))))) (fun _ h9 => h9) rfl dX9_staysWithin_59 ?_
    refine lv_iload hx hb dX9_staysWithin_62 (lv_at hl 0 rfl) ?_
    refine g_iald (n := 36) hx hb hC.1 hG 10 (by decide) rfl (by omega) (by omega) (by decide) dX9_staysWithin_64 ?_
    have q_8 := i10 wn.toNat (by omega)
    refine z_iadd hx hb dX9_staysWithin_65 ?_
    obtain ⟨nx, hnx⟩ : ∃ z : Int, z = ((u.2.1 13 p2.toNat) + (z6 * al)) + (u.2.1 10 wn.toNat) := ⟨_, rfl⟩
    rw [← hnx]
    refine lv_istore (lv' := [(7, .int (zI nx)), (6, .int (zI wn)), (5, .int (zI al)), (0, .ref (ad 2)), (1, .ref (ad 1)), (2, .int (zI p2)), (3, .int (zI p3)), (4, .int (zI p4))]) hx hb dX9_staysWithin_66 hl (by decide) rfl (fun ls hl => ?_)
    refine lv_aload_n hx hb dX9_staysWithin_68 rfl (lv_at hl 3 rfl) ?_
    refine g_get (C := RX9) (T := TX9) (N := 9) (ci := 8) hx hb hts (fun _ h => (List.mem_cons_of_mem _ (List.mem_append_left _ (List.mem_append_right _ h)))) hown hC.1 hG 2 (by decide) rfl rfl 4 (by decide) (hts (.fieldLink RX9 25 "StraitSwim$Swim" "ys" "[I") (List.mem_cons_of_mem _ (List.mem_append_left _ (List.mem_append_left _ (List.mem_of_getElem? (i := 1) rfl))))) (fun _ h9 => h9) rfl dX9_staysWithin_69 ?_
    refine lv_iload_n hx hb dX9_staysWithin_72 rfl (lv_at hl 5 rfl) ?_
    refine g_iald (n := 101) hx hb hC.1 hG 14 (by decide) rfl (by omega) (by omega) (by decide) dX9_staysWithin_73 ?_
    refine va_getsN (C := RX11) (n := "AIM_NORTH") (d := "[I") hx hb hZN hS hown (va_Nw.use rfl hC.2.2.2.2.1.2) (fun _ h9 => h9) dX9_staysWithin_74 ?_
    refine lv_iload hx hb dX9_staysWithin_77 (lv_at hl 7 rfl) ?_
    refine va_ti (v := .int (zI (aimN p4.toNat))) hx hb hTN hS (zI_in (by omega) (by omega) (by decide)) (by rw [zI_clamp (by omega) (by omega)]) dX9_staysWithin_79 ?_
    obtain ⟨z9, hz9⟩ : ∃ z : Int, z = aimN p4.toNat := ⟨_, rfl⟩
    rw [← hz9]
    have qz9 : -1 ≤ z9 ∧ z9 ≤ 1 := by rw [hz9]; exact aimN_bnd _
    refine lv_iload hx hb dX9_staysWithin_80 (lv_at hl 2 rfl) ?_
    have q_10 := mul1 (a := z9) (b := al) (by omega) (by omega)
    refine z_imul hx hb dX9_staysWithin_82 ?_
    refine z_iadd hx hb dX9_staysWithin_83 ?_
    refine lv_aload_n hx hb dX9_staysWithin_84 rfl (lv_at hl 4 rfl) ?_
    refine g_get (C := RX8) (T := TX8) (N := 4) (ci := 7) hx hb hts (fun _ h => (List.mem_cons_of_mem _ (List.mem_append_right _ h))) hown hC.1 hG 1 (by decide) rfl rfl 3 (by decide) (hts (.fieldLink RX9 86 "StraitSwim$Strait" "north" "[I") (List.mem_cons_of_mem _ (List.mem_append_left _ (List.mem_append_left _ (List.mem_of_getElem? (i := 4) rfl))))) (fun _ h9 => h9) rfl dX9_staysWithin_85 ?_
    refine lv_iload hx hb dX9_staysWithin_88 (lv_at hl 1 rfl) ?_
    refine g_iald (n := 36) hx hb hC.1 hG 11 (by decide) rfl (by omega) (by omega) (by decide) dX9_staysWithin_90 ?_
    have q_11 := i11 wn.toNat (by omega)
    refine z_iadd hx hb dX9_staysWithin_91 ?_
    obtain ⟨ny, hny⟩ : ∃ z : Int, z = ((u.2.1 14 p2.toNat) + (z9 * al)) + (u.2.1 11 wn.toNat) := ⟨_, rfl⟩
    rw [← hny]
    refine lv_istore (lv' := [(8, .int (zI ny)), (7, .int (zI nx)), (6, .int (zI wn)), (5, .int (zI al)), (0, .ref (ad 2)), (1, .ref (ad 1)), (2, .int (zI p2)), (3, .int (zI p3)), (4, .int (zI p4))]) hx hb dX9_staysWithin_92 hl (by decide) rfl (fun ls hl => ?_)
    have hX : nx = cX u 13 14 15 p2 p3 p4 := by unfold cX cAl; (repeat (first | rw [if_pos (by omega)] | rw [if_neg (by omega)])); subst_vars; rfl
    have hY : ny = cY u 14 15 p2 p3 p4 := by unfold cY cAl; (repeat (first | rw [if_pos (by omega)] | rw [if_neg (by omega)])); subst_vars; rfl
    have hbX : -1000 ≤ nx ∧ nx ≤ 1000 := by omega
    have hbY : -1000 ≤ ny ∧ ny ≤ 1000 := by omega
    refine lv_iload hx hb dX9_staysWithin_94 (lv_at hl 1 rfl) ?_
    refine lv_iload hx hb dX9_staysWithin_96 (lv_at hl 0 rfl) ?_
    refine g_calli (va_runSN (As := [.int (zI nx), .int (zI ny)]) (rest := []) ⟨hx, hb, hml, hown, hts⟩ (kX11_isPlace l D cy ad jf A u nx ny (by omega) (by omega)) ⟨va_cnB 2 hts gX9_staysWithin_X11_isPlace_n89 rfl rfl rfl hC.2.2.2.1.2.2 (hts (.initialized RX11) (List.mem_cons_of_mem _ (List.mem_append_left _ (List.mem_append_left _ (List.mem_of_getElem? (i := 7) rfl))))) (by decide +kernel) ⟨by decide, by decide⟩, (hts (.static yX11_isPlace) (List.mem_cons_of_mem _ (List.mem_append_left _ (List.mem_append_left _ (List.mem_of_getElem? (i := 9) rfl))))), trivial⟩ (g_preS hG hC hS) rfl rfl hl.1 rfl (lv_room (Nat.le_of_ble_eq_true rfl)) dX9_staysWithin_98 ⟨Nat.le_of_ble_eq_true rfl, Nat.le_of_ble_eq_true rfl⟩) hS (fun r12 u13 H locs p_14 hG hS => ?_)
    obtain ⟨⟨b15, rfl, q_16⟩, he_⟩ := p_14
    rw [he_] at hG; clear he_
    have hbb15 : 0 ≤ b15 ∧ b15 ≤ 1 := by rcases q_16 with ⟨h, _⟩ | ⟨h, _⟩ <;> omega
    refine lv_istore (lv' := [(9, .int (zI b15)), (8, .int (zI ny)), (7, .int (zI nx)), (6, .int (zI wn)), (5, .int (zI al)), (0, .ref (ad 2)), (1, .ref (ad 1)), (2, .int (zI p2)), (3, .int (zI p3)), (4, .int (zI p4))]) hx hb dX9_staysWithin_101 hl (by decide) rfl (fun ls hl => ?_)
    refine lv_aload_n hx hb dX9_staysWithin_103 rfl (lv_at hl 5 rfl) ?_
    refine lv_iload_n hx hb dX9_staysWithin_104 rfl (lv_at hl 7 rfl) ?_
    refine z_iconst hx hb dX9_staysWithin_105 ?_
    refine z_iadd hx hb dX9_staysWithin_106 ?_
    refine g_put (C := RX9) (T := TX9) (N := 9) (ci := 8) (ty := .int) hx hb hts (fun _ h => (List.mem_cons_of_mem _ (List.mem_append_left _ (List.mem_append_right _ h)))) tyX9 tyX9_ok nmX9 hown hC.1 hG hS 2 (by decide) rfl rfl 1 6 (by decide) (hts (.fieldLink RX9 15 "StraitSwim$Swim" "quarters" "I") (List.mem_cons_of_mem _ (List.mem_append_left _ (List.mem_append_left _ (List.mem_of_getElem? (i := 5) rfl))))) (fun _ h9 => h9) rfl (by decide +kernel) rfl rfl (Nat.le_of_ble_eq_true rfl) rfl (gO_6 ad _ _) dX9_staysWithin_107 (fun u17 H locs hu17 hG hS => ?_)
    refine lv_aload_n hx hb dX9_staysWithin_110 rfl (lv_at hl 5 rfl) ?_
    refine g_get (C := RX9) (T := TX9) (N := 9) (ci := 8) hx hb hts (fun _ h => (List.mem_cons_of_mem _ (List.mem_append_left _ (List.mem_append_right _ h)))) hown hC.1 hG 2 (by decide) rfl rfl 3 (by decide) (hts (.fieldLink RX9 21 "StraitSwim$Swim" "xs" "[I") (List.mem_cons_of_mem _ (List.mem_append_left _ (List.mem_append_left _ (List.mem_of_getElem? (i := 2) rfl))))) (fun _ h9 => h9) rfl dX9_staysWithin_111 ?_
    refine lv_aload_n hx hb dX9_staysWithin_114 rfl (lv_at hl 5 rfl) ?_
    refine g_get (C := RX9) (T := TX9) (N := 9) (ci := 8) hx hb hts (fun _ h => (List.mem_cons_of_mem _ (List.mem_append_left _ (List.mem_append_right _ h)))) hown hC.1 hG 2 (by decide) rfl rfl 1 (by decide) (hts (.fieldLink RX9 15 "StraitSwim$Swim" "quarters" "I") (List.mem_cons_of_mem _ (List.mem_append_left _ (List.mem_append_left _ (List.mem_of_getElem? (i := 5) rfl))))) (fun _ h9 => h9) rfl dX9_staysWithin_115 ?_
    have e_18 : u17.1 6 = p2 + 1 := by subst hu17; rfl
    rw [e_18]
    refine lv_iload hx hb dX9_staysWithin_118 (lv_at hl 0 rfl) ?_
    refine z_if_eq (tgt := 128) hx hb dX9_staysWithin_120 (by decide) (by omega) (by omega) (fun c_19 => ?_) (fun c_19 => ?_)
    · refine lv_aload_n hx hb dX9_staysWithin_128 rfl (lv_at hl 5 rfl) ?_
      refine g_get (C := RX9) (T := TX9) (N := 9) (ci := 8) hx hb hts (fun _ h => (List.mem_cons_of_mem _ (List.mem_append_left _ (List.mem_append_right _ h)))) hown hC.1 hG 2 (by decide) rfl rfl 3 (by decide) (hts (.fieldLink RX9 21 "StraitSwim$Swim" "xs" "[I") (List.mem_cons_of_mem _ (List.mem_append_left _ (List.mem_append_left _ (List.mem_of_getElem? (i := 2) rfl))))) (fun _ h9 => h9) rfl dX9_staysWithin_129 ?_
      refine lv_iload_n hx hb dX9_staysWithin_132 rfl (lv_at hl 7 rfl) ?_
      refine g_iald (n := 101) hx hb hC.1 hG 13 (by decide) rfl (by omega) (by omega) (by decide) dX9_staysWithin_133 ?_
      have e_20 : u17.2.1 13 = u.2.1 13 := by subst hu17; rfl
      rw [e_20]
      refine g_iast (n := 101) hx hb hC.1 hG hS 13 (by decide) rfl rfl (by omega) (by omega) (by decide) dX9_staysWithin_134 (fun u21 H locs hu21 hG hS => ?_)
      refine lv_aload_n hx hb dX9_staysWithin_135 rfl (lv_at hl 5 rfl) ?_
      refine g_get (C := RX9) (T := TX9) (N := 9) (ci := 8) hx hb hts (fun _ h => (List.mem_cons_of_mem _ (List.mem_append_left _ (List.mem_append_right _ h)))) hown hC.1 hG 2 (by decide) rfl rfl 4 (by decide) (hts (.fieldLink RX9 25 "StraitSwim$Swim" "ys" "[I") (List.mem_cons_of_mem _ (List.mem_append_left _ (List.mem_append_left _ (List.mem_of_getElem? (i := 1) rfl))))) (fun _ h9 => h9) rfl dX9_staysWithin_136 ?_
      refine lv_aload_n hx hb dX9_staysWithin_139 rfl (lv_at hl 5 rfl) ?_
      refine g_get (C := RX9) (T := TX9) (N := 9) (ci := 8) hx hb hts (fun _ h => (List.mem_cons_of_mem _ (List.mem_append_left _ (List.mem_append_right _ h)))) hown hC.1 hG 2 (by decide) rfl rfl 1 (by decide) (hts (.fieldLink RX9 15 "StraitSwim$Swim" "quarters" "I") (List.mem_cons_of_mem _ (List.mem_append_left _ (List.mem_append_left _ (List.mem_of_getElem? (i := 5) rfl))))) (fun _ h9 => h9) rfl dX9_staysWithin_140 ?_
      have e_22 : u21.1 6 = p2 + 1 := by subst hu21; subst hu17; rfl
      rw [e_22]
      refine lv_iload hx hb dX9_staysWithin_143 (lv_at hl 0 rfl) ?_
      refine z_if_eq (tgt := 153) hx hb dX9_staysWithin_145 (by decide) (by omega) (by omega) (fun c_23 => ?_) (fun c_23 => ?_)
      · refine lv_aload_n hx hb dX9_staysWithin_153 rfl (lv_at hl 5 rfl) ?_
        refine g_get (C := RX9) (T := TX9) (N := 9) (ci := 8) hx hb hts (fun _ h => (List.mem_cons_of_mem _ (List.mem_append_left _ (List.mem_append_right _ h)))) hown hC.1 hG 2 (by decide) rfl rfl 4 (by decide) (hts (.fieldLink RX9 25 "StraitSwim$Swim" "ys" "[I") (List.mem_cons_of_mem _ (List.mem_append_left _ (List.mem_append_left _ (List.mem_of_getElem? (i := 1) rfl))))) (fun _ h9 => h9) rfl dX9_staysWithin_154 ?_
        refine lv_iload_n hx hb dX9_staysWithin_157 rfl (lv_at hl 7 rfl) ?_
        refine g_iald (n := 101) hx hb hC.1 hG 14 (by decide) rfl (by omega) (by omega) (by decide) dX9_staysWithin_158 ?_
        have e_24 : u21.2.1 14 = u.2.1 14 := by subst hu21; subst hu17; rfl
        rw [e_24]
        refine g_iast (n := 101) hx hb hC.1 hG hS 14 (by decide) rfl rfl (by omega) (by omega) (by decide) dX9_staysWithin_159 (fun u25 H locs hu25 hG hS => ?_)
        refine lv_iload hx hb dX9_staysWithin_160 (lv_at hl 0 rfl) ?_
        exact W.zret (ty := .boolean) (v := zI b15) hx hb hr (nar_b (by omega)) (fun t9 ht9_ hW => ⟨⟨zI b15, u25, rfl, (by unfold cStay; rw [← hX, ← hY]; first | (exfalso; omega) | ((first | rw [if_pos (by omega)] | rw [if_neg (by omega)]); unfold cStB; subst hu25; subst hu21; subst hu17; refine ⟨?_, rfl⟩; congr 1 <;> omega)), gB.mk' hG hC hS ht9_ hW⟩, hS.F ht9_⟩) hS.2.2 dX9_staysWithin_162
      · refine lv_iload hx hb dX9_staysWithin_148 (lv_at hl 1 rfl) ?_
        refine lv_goto (tgt := 159) hx hb dX9_staysWithin_150 (by decide) ?_
        refine g_iast (n := 101) hx hb hC.1 hG hS 14 (by decide) rfl rfl (by omega) (by omega) (by decide) dX9_staysWithin_159 (fun u26 H locs hu26 hG hS => ?_)
        refine lv_iload hx hb dX9_staysWithin_160 (lv_at hl 0 rfl) ?_
        exact W.zret (ty := .boolean) (v := zI b15) hx hb hr (nar_b (by omega)) (fun t9 ht9_ hW => ⟨⟨zI b15, u26, rfl, (by unfold cStay; rw [← hX, ← hY]; first | (exfalso; omega) | ((first | rw [if_pos (by omega)] | rw [if_neg (by omega)]); unfold cStB; subst hu26; subst hu21; subst hu17; refine ⟨?_, rfl⟩; congr 1 <;> omega)), gB.mk' hG hC hS ht9_ hW⟩, hS.F ht9_⟩) hS.2.2 dX9_staysWithin_162
    · refine lv_iload hx hb dX9_staysWithin_123 (lv_at hl 2 rfl) ?_
      refine lv_goto (tgt := 134) hx hb dX9_staysWithin_125 (by decide) ?_
      refine g_iast (n := 101) hx hb hC.1 hG hS 13 (by decide) rfl rfl (by omega) (by omega) (by decide) dX9_staysWithin_134 (fun u27 H locs hu27 hG hS => ?_)
      refine lv_aload_n hx hb dX9_staysWithin_135 rfl (lv_at hl 5 rfl) ?_
      refine g_get (C := RX9) (T := TX9) (N := 9) (ci := 8) hx hb hts (fun _ h => (List.mem_cons_of_mem _ (List.mem_append_left _ (List.mem_append_right _ h)))) hown hC.1 hG 2 (by decide) rfl rfl 4 (by decide) (hts (.fieldLink RX9 25 "StraitSwim$Swim" "ys" "[I") (List.mem_cons_of_mem _ (List.mem_append_left _ (List.mem_append_left _ (List.mem_of_getElem? (i := 1) rfl))))) (fun _ h9 => h9) rfl dX9_staysWithin_136 ?_
      refine lv_aload_n hx hb dX9_staysWithin_139 rfl (lv_at hl 5 rfl) ?_
      refine g_get (C := RX9) (T := TX9) (N := 9) (ci := 8) hx hb hts (fun _ h => (List.mem_cons_of_mem _ (List.mem_append_left _ (List.mem_append_right _ h)))) hown hC.1 hG 2 (by decide) rfl rfl 1 (by decide) (hts (.fieldLink RX9 15 "StraitSwim$Swim" "quarters" "I") (List.mem_cons_of_mem _ (List.mem_append_left _ (List.mem_append_left _ (List.mem_of_getElem? (i := 5) rfl))))) (fun _ h9 => h9) rfl dX9_staysWithin_140 ?_
      have e_28 : u27.1 6 = p2 + 1 := by subst hu27; subst hu17; rfl
      rw [e_28]
      refine lv_iload hx hb dX9_staysWithin_143 (lv_at hl 0 rfl) ?_
      refine z_if_eq (tgt := 153) hx hb dX9_staysWithin_145 (by decide) (by omega) (by omega) (fun c_29 => ?_) (fun c_29 => ?_)
      · refine lv_aload_n hx hb dX9_staysWithin_153 rfl (lv_at hl 5 rfl) ?_
        refine g_get (C := RX9) (T := TX9) (N := 9) (ci := 8) hx hb hts (fun _ h => (List.mem_cons_of_mem _ (List.mem_append_left _ (List.mem_append_right _ h)))) hown hC.1 hG 2 (by decide) rfl rfl 4 (by decide) (hts (.fieldLink RX9 25 "StraitSwim$Swim" "ys" "[I") (List.mem_cons_of_mem _ (List.mem_append_left _ (List.mem_append_left _ (List.mem_of_getElem? (i := 1) rfl))))) (fun _ h9 => h9) rfl dX9_staysWithin_154 ?_
        refine lv_iload_n hx hb dX9_staysWithin_157 rfl (lv_at hl 7 rfl) ?_
        refine g_iald (n := 101) hx hb hC.1 hG 14 (by decide) rfl (by omega) (by omega) (by decide) dX9_staysWithin_158 ?_
        have e_30 : u27.2.1 14 = u.2.1 14 := by subst hu27; subst hu17; rfl
        rw [e_30]
        refine g_iast (n := 101) hx hb hC.1 hG hS 14 (by decide) rfl rfl (by omega) (by omega) (by decide) dX9_staysWithin_159 (fun u31 H locs hu31 hG hS => ?_)
        refine lv_iload hx hb dX9_staysWithin_160 (lv_at hl 0 rfl) ?_
        exact W.zret (ty := .boolean) (v := zI b15) hx hb hr (nar_b (by omega)) (fun t9 ht9_ hW => ⟨⟨zI b15, u31, rfl, (by unfold cStay; rw [← hX, ← hY]; first | (exfalso; omega) | ((first | rw [if_pos (by omega)] | rw [if_neg (by omega)]); unfold cStB; subst hu31; subst hu27; subst hu17; refine ⟨?_, rfl⟩; congr 1 <;> omega)), gB.mk' hG hC hS ht9_ hW⟩, hS.F ht9_⟩) hS.2.2 dX9_staysWithin_162
      · refine lv_iload hx hb dX9_staysWithin_148 (lv_at hl 1 rfl) ?_
        refine lv_goto (tgt := 159) hx hb dX9_staysWithin_150 (by decide) ?_
        refine g_iast (n := 101) hx hb hC.1 hG hS 14 (by decide) rfl rfl (by omega) (by omega) (by decide) dX9_staysWithin_159 (fun u32 H locs hu32 hG hS => ?_)
        refine lv_iload hx hb dX9_staysWithin_160 (lv_at hl 0 rfl) ?_
        exact W.zret (ty := .boolean) (v := zI b15) hx hb hr (nar_b (by omega)) (fun t9 ht9_ hW => ⟨⟨zI b15, u32, rfl, (by unfold cStay; rw [← hX, ← hY]; first | (exfalso; omega) | ((first | rw [if_pos (by omega)] | rw [if_neg (by omega)]); unfold cStB; subst hu32; subst hu27; subst hu17; refine ⟨?_, rfl⟩; congr 1 <;> omega)), gB.mk' hG hC hS ht9_ hW⟩, hS.F ht9_⟩) hS.2.2 dX9_staysWithin_162
  · refine lv_aload_n hx hb dX9_staysWithin_7 rfl (lv_at hl 0 rfl) ?_
    refine g_get (C := RX9) (T := TX9) (N := 9) (ci := 8) hx hb hts (fun _ h => (List.mem_cons_of_mem _ (List.mem_append_left _ (List.mem_append_right _ h)))) hown hC.1 hG 2 (by decide) rfl rfl 5 (by decide) (hts (.fieldLink RX9 28 "StraitSwim$Swim" "strides" "[I") (List.mem_cons_of_mem _ (List.mem_append_left _ (List.mem_append_left _ (List.mem_of_getElem? (i := 0) rfl))))) (fun _ h9 => h9) rfl dX9_staysWithin_8 ?_
    refine lv_iload_n hx hb dX9_staysWithin_11 rfl (lv_at hl 2 rfl) ?_
    refine g_iald (n := 100) hx hb hC.1 hG 15 (by decide) rfl (by omega) (by omega) (by decide) dX9_staysWithin_12 ?_
    have q_33 := isd p2.toNat (by omega)
    refine lv_goto (tgt := 28) hx hb dX9_staysWithin_13 (by decide) ?_
    obtain ⟨al, hal⟩ : ∃ z : Int, z = u.2.1 15 p2.toNat := ⟨_, rfl⟩
    rw [← hal]
    refine lv_istore (lv' := [(5, .int (zI al)), (0, .ref (ad 2)), (1, .ref (ad 1)), (2, .int (zI p2)), (3, .int (zI p3)), (4, .int (zI p4))]) hx hb dX9_staysWithin_28 hl (by decide) rfl (fun ls hl => ?_)
    refine lv_aload_n hx hb dX9_staysWithin_30 rfl (lv_at hl 1 rfl) ?_
    refine g_get (C := RX9) (T := TX9) (N := 9) (ci := 8) hx hb hts (fun _ h => (List.mem_cons_of_mem _ (List.mem_append_left _ (List.mem_append_right _ h)))) hown hC.1 hG 2 (by decide) rfl rfl 4 (by decide) (hts (.fieldLink RX9 25 "StraitSwim$Swim" "ys" "[I") (List.mem_cons_of_mem _ (List.mem_append_left _ (List.mem_append_left _ (List.mem_of_getElem? (i := 1) rfl))))) (fun _ h9 => h9) rfl dX9_staysWithin_31 ?_
    refine lv_iload_n hx hb dX9_staysWithin_34 rfl (lv_at hl 3 rfl) ?_
    refine g_iald (n := 101) hx hb hC.1 hG 14 (by decide) rfl (by omega) (by omega) (by decide) dX9_staysWithin_35 ?_
    refine lv_iload_n hx hb dX9_staysWithin_36 rfl (lv_at hl 4 rfl) ?_
    refine g_calli (va_runSN (As := [.int (zI (u.2.1 14 p2.toNat)), .int (zI p3)]) (rest := []) ⟨hx, hb, hml, hown, hts⟩ (kX11_tideIndex l D cy ad jf A u (u.2.1 14 p2.toNat) p3 (by omega) (by omega)) ⟨va_cnB 2 hts gX9_staysWithin_X11_tideIndex_n74 rfl rfl rfl hC.2.2.2.1.2.1 (hts (.initialized RX11) (List.mem_cons_of_mem _ (List.mem_append_left _ (List.mem_append_left _ (List.mem_of_getElem? (i := 7) rfl))))) (by decide +kernel) ⟨by decide, by decide⟩, (hts (.static yX11_tideIndex) (List.mem_cons_of_mem _ (List.mem_append_left _ (List.mem_append_left _ (List.mem_of_getElem? (i := 6) rfl))))), trivial⟩ (g_preS hG hC hS) rfl rfl hl.1 rfl (lv_room (Nat.le_of_ble_eq_true rfl)) dX9_staysWithin_37 ⟨Nat.le_of_ble_eq_true rfl, Nat.le_of_ble_eq_true rfl⟩) hS (fun r34 u35 H locs p_36 hG hS => ?_)
    obtain ⟨rfl, he_⟩ := p_36
    rw [he_] at hG; clear he_
    obtain ⟨wn, hwn⟩ : ∃ z : Int, z = (u.2.1 14 p2.toNat) / 40 * 12 + p3 / 4 % 12 := ⟨_, rfl⟩
    rw [← hwn]
    refine lv_istore (lv' := [(6, .int (zI wn)), (5, .int (zI al)), (0, .ref (ad 2)), (1, .ref (ad 1)), (2, .int (zI p2)), (3, .int (zI p3)), (4, .int (zI p4))]) hx hb dX9_staysWithin_40 hl (by decide) rfl (fun ls hl => ?_)
    refine lv_aload_n hx hb dX9_staysWithin_42 rfl (lv_at hl 2 rfl) ?_
    refine g_get (C := RX9) (T := TX9) (N := 9) (ci := 8) hx hb hts (fun _ h => (List.mem_cons_of_mem _ (List.mem_append_left _ (List.mem_append_right _ h)))) hown hC.1 hG 2 (by decide) rfl rfl 3 (by decide) (hts (.fieldLink RX9 21 "StraitSwim$Swim" "xs" "[I") (List.mem_cons_of_mem _ (List.mem_append_left _ (List.mem_append_left _ (List.mem_of_getElem? (i := 2) rfl))))) (fun _ h9 => h9) rfl dX9_staysWithin_43 ?_
    refine lv_iload_n hx hb dX9_staysWithin_46 rfl (lv_at hl 4 rfl) ?_
    refine g_iald (n := 101) hx hb hC.1 hG 13 (by decide) rfl (by omega) (by omega) (by decide) dX9_staysWithin_47 ?_
    refine va_getsN (C := RX11) (n := "AIM_EAST") (d := "[I") hx hb hZE hS hown (va_Nw.use rfl hC.2.2.2.2.1.1) (fun _ h9 => h9) dX9_staysWithin_48 ?_
    refine lv_iload hx hb dX9_staysWithin_51 (lv_at hl 6 rfl) ?_
    refine va_ti (v := .int (zI (aimE p4.toNat))) hx hb hTE hS (zI_in (by omega) (by omega) (by decide)) (by rw [zI_clamp (by omega) (by omega)]) dX9_staysWithin_53 ?_
    obtain ⟨z37, hz37⟩ : ∃ z : Int, z = aimE p4.toNat := ⟨_, rfl⟩
    rw [← hz37]
    have qz37 : -1 ≤ z37 ∧ z37 ≤ 1 := by rw [hz37]; exact aimE_bnd _
    refine lv_iload hx hb dX9_staysWithin_54 (lv_at hl 1 rfl) ?_
    have q_38 := mul1 (a := z37) (b := al) (by omega) (by omega)
    refine z_imul hx hb dX9_staysWithin_56 ?_
    refine z_iadd hx hb dX9_staysWithin_57 ?_
    refine lv_aload_n hx hb dX9_staysWithin_58 rfl (lv_at hl 3 rfl) ?_
    refine g_get (C := RX8) (T := TX8) (N := 4) (ci := 7) hx hb hts (fun _ h => (List.mem_cons_of_mem _ (List.mem_append_right _ h))) hown hC.1 hG 1 (by decide) rfl rfl 2 (by decide) (hts (.fieldLink RX9 80 "StraitSwim$Strait" "east" "[I") (List.mem_cons_of_mem _ (List.mem_append_left _ (List.mem_append_left _ (List.mem_of_getElem? (i := 3) rfl))))) (fun _ h9 => h9) rfl dX9_staysWithin_59 ?_
    refine lv_iload hx hb dX9_staysWithin_62 (lv_at hl 0 rfl) ?_
    refine g_iald (n := 36) hx hb hC.1 hG 10 (by decide) rfl (by omega) (by omega) (by decide) dX9_staysWithin_64 ?_
    have q_39 := i10 wn.toNat (by omega)
    refine z_iadd hx hb dX9_staysWithin_65 ?_
    obtain ⟨nx, hnx⟩ : ∃ z : Int, z = ((u.2.1 13 p2.toNat) + (z37 * al)) + (u.2.1 10 wn.toNat) := ⟨_, rfl⟩
    rw [← hnx]
    refine lv_istore (lv' := [(7, .int (zI nx)), (6, .int (zI wn)), (5, .int (zI al)), (0, .ref (ad 2)), (1, .ref (ad 1)), (2, .int (zI p2)), (3, .int (zI p3)), (4, .int (zI p4))]) hx hb dX9_staysWithin_66 hl (by decide) rfl (fun ls hl => ?_)
    refine lv_aload_n hx hb dX9_staysWithin_68 rfl (lv_at hl 3 rfl) ?_
    refine g_get (C := RX9) (T := TX9) (N := 9) (ci := 8) hx hb hts (fun _ h => (List.mem_cons_of_mem _ (List.mem_append_left _ (List.mem_append_right _ h)))) hown hC.1 hG 2 (by decide) rfl rfl 4 (by decide) (hts (.fieldLink RX9 25 "StraitSwim$Swim" "ys" "[I") (List.mem_cons_of_mem _ (List.mem_append_left _ (List.mem_append_left _ (List.mem_of_getElem? (i := 1) rfl))))) (fun _ h9 => h9) rfl dX9_staysWithin_69 ?_
    refine lv_iload_n hx hb dX9_staysWithin_72 rfl (lv_at hl 5 rfl) ?_
    refine g_iald (n := 101) hx hb hC.1 hG 14 (by decide) rfl (by omega) (by omega) (by decide) dX9_staysWithin_73 ?_
    refine va_getsN (C := RX11) (n := "AIM_NORTH") (d := "[I") hx hb hZN hS hown (va_Nw.use rfl hC.2.2.2.2.1.2) (fun _ h9 => h9) dX9_staysWithin_74 ?_
    refine lv_iload hx hb dX9_staysWithin_77 (lv_at hl 7 rfl) ?_
    refine va_ti (v := .int (zI (aimN p4.toNat))) hx hb hTN hS (zI_in (by omega) (by omega) (by decide)) (by rw [zI_clamp (by omega) (by omega)]) dX9_staysWithin_79 ?_
    obtain ⟨z40, hz40⟩ : ∃ z : Int, z = aimN p4.toNat := ⟨_, rfl⟩
    rw [← hz40]
    have qz40 : -1 ≤ z40 ∧ z40 ≤ 1 := by rw [hz40]; exact aimN_bnd _
    refine lv_iload hx hb dX9_staysWithin_80 (lv_at hl 2 rfl) ?_
    have q_41 := mul1 (a := z40) (b := al) (by omega) (by omega)
    refine z_imul hx hb dX9_staysWithin_82 ?_
    refine z_iadd hx hb dX9_staysWithin_83 ?_
    refine lv_aload_n hx hb dX9_staysWithin_84 rfl (lv_at hl 4 rfl) ?_
    refine g_get (C := RX8) (T := TX8) (N := 4) (ci := 7) hx hb hts (fun _ h => (List.mem_cons_of_mem _ (List.mem_append_right _ h))) hown hC.1 hG 1 (by decide) rfl rfl 3 (by decide) (hts (.fieldLink RX9 86 "StraitSwim$Strait" "north" "[I") (List.mem_cons_of_mem _ (List.mem_append_left _ (List.mem_append_left _ (List.mem_of_getElem? (i := 4) rfl))))) (fun _ h9 => h9) rfl dX9_staysWithin_85 ?_
    refine lv_iload hx hb dX9_staysWithin_88 (lv_at hl 1 rfl) ?_
    refine g_iald (n := 36) hx hb hC.1 hG 11 (by decide) rfl (by omega) (by omega) (by decide) dX9_staysWithin_90 ?_
    have q_42 := i11 wn.toNat (by omega)
    refine z_iadd hx hb dX9_staysWithin_91 ?_
    obtain ⟨ny, hny⟩ : ∃ z : Int, z = ((u.2.1 14 p2.toNat) + (z40 * al)) + (u.2.1 11 wn.toNat) := ⟨_, rfl⟩
    rw [← hny]
    refine lv_istore (lv' := [(8, .int (zI ny)), (7, .int (zI nx)), (6, .int (zI wn)), (5, .int (zI al)), (0, .ref (ad 2)), (1, .ref (ad 1)), (2, .int (zI p2)), (3, .int (zI p3)), (4, .int (zI p4))]) hx hb dX9_staysWithin_92 hl (by decide) rfl (fun ls hl => ?_)
    have hX : nx = cX u 13 14 15 p2 p3 p4 := by unfold cX cAl; (repeat (first | rw [if_pos (by omega)] | rw [if_neg (by omega)])); subst_vars; rfl
    have hY : ny = cY u 14 15 p2 p3 p4 := by unfold cY cAl; (repeat (first | rw [if_pos (by omega)] | rw [if_neg (by omega)])); subst_vars; rfl
    have hbX : -1000 ≤ nx ∧ nx ≤ 1000 := by omega
    have hbY : -1000 ≤ ny ∧ ny ≤ 1000 := by omega
    refine lv_iload hx hb dX9_staysWithin_94 (lv_at hl 1 rfl) ?_
    refine lv_iload hx hb dX9_staysWithin_96 (lv_at hl 0 rfl) ?_
    refine g_calli (va_runSN (As := [.int (zI nx), .int (zI ny)]) (rest := []) ⟨hx, hb, hml, hown, hts⟩ (kX11_isPlace l D cy ad jf A u nx ny (by omega) (by omega)) ⟨va_cnB 2 hts gX9_staysWithin_X11_isPlace_n89 rfl rfl rfl hC.2.2.2.1.2.2 (hts (.initialized RX11) (List.mem_cons_of_mem _ (List.mem_append_left _ (List.mem_append_left _ (List.mem_of_getElem? (i := 7) rfl))))) (by decide +kernel) ⟨by decide, by decide⟩, (hts (.static yX11_isPlace) (List.mem_cons_of_mem _ (List.mem_append_left _ (List.mem_append_left _ (List.mem_of_getElem? (i := 9) rfl))))), trivial⟩ (g_preS hG hC hS) rfl rfl hl.1 rfl (lv_room (Nat.le_of_ble_eq_true rfl)) dX9_staysWithin_98 ⟨Nat.le_of_ble_eq_true rfl, Nat.le_of_ble_eq_true rfl⟩) hS (fun r43 u44 H locs p_45 hG hS => ?_)
    obtain ⟨⟨b46, rfl, q_47⟩, he_⟩ := p_45
    rw [he_] at hG; clear he_
    have hbb46 : 0 ≤ b46 ∧ b46 ≤ 1 := by rcases q_47 with ⟨h, _⟩ | ⟨h, _⟩ <;> omega
    refine lv_istore (lv' := [(9, .int (zI b46)), (8, .int (zI ny)), (7, .int (zI nx)), (6, .int (zI wn)), (5, .int (zI al)), (0, .ref (ad 2)), (1, .ref (ad 1)), (2, .int (zI p2)), (3, .int (zI p3)), (4, .int (zI p4))]) hx hb dX9_staysWithin_101 hl (by decide) rfl (fun ls hl => ?_)
    refine lv_aload_n hx hb dX9_staysWithin_103 rfl (lv_at hl 5 rfl) ?_
    refine lv_iload_n hx hb dX9_staysWithin_104 rfl (lv_at hl 7 rfl) ?_
    refine z_iconst hx hb dX9_staysWithin_105 ?_
    refine z_iadd hx hb dX9_staysWithin_106 ?_
    refine g_put (C := RX9) (T := TX9) (N := 9) (ci := 8) (ty := .int) hx hb hts (fun _ h => (List.mem_cons_of_mem _ (List.mem_append_left _ (List.mem_append_right _ h)))) tyX9 tyX9_ok nmX9 hown hC.1 hG hS 2 (by decide) rfl rfl 1 6 (by decide) (hts (.fieldLink RX9 15 "StraitSwim$Swim" "quarters" "I") (List.mem_cons_of_mem _ (List.mem_append_left _ (List.mem_append_left _ (List.mem_of_getElem? (i := 5) rfl))))) (fun _ h9 => h9) rfl (by decide +kernel) rfl rfl (Nat.le_of_ble_eq_true rfl) rfl (gO_6 ad _ _) dX9_staysWithin_107 (fun u48 H locs hu48 hG hS => ?_)
    refine lv_aload_n hx hb dX9_staysWithin_110 rfl (lv_at hl 5 rfl) ?_
    refine g_get (C := RX9) (T := TX9) (N := 9) (ci := 8) hx hb hts (fun _ h => (List.mem_cons_of_mem _ (List.mem_append_left _ (List.mem_append_right _ h)))) hown hC.1 hG 2 (by decide) rfl rfl 3 (by decide) (hts (.fieldLink RX9 21 "StraitSwim$Swim" "xs" "[I") (List.mem_cons_of_mem _ (List.mem_append_left _ (List.mem_append_left _ (List.mem_of_getElem? (i := 2) rfl))))) (fun _ h9 => h9) rfl dX9_staysWithin_111 ?_
    refine lv_aload_n hx hb dX9_staysWithin_114 rfl (lv_at hl 5 rfl) ?_
    refine g_get (C := RX9) (T := TX9) (N := 9) (ci := 8) hx hb hts (fun _ h => (List.mem_cons_of_mem _ (List.mem_append_left _ (List.mem_append_right _ h)))) hown hC.1 hG 2 (by decide) rfl rfl 1 (by decide) (hts (.fieldLink RX9 15 "StraitSwim$Swim" "quarters" "I") (List.mem_cons_of_mem _ (List.mem_append_left _ (List.mem_append_left _ (List.mem_of_getElem? (i := 5) rfl))))) (fun _ h9 => h9) rfl dX9_staysWithin_115 ?_
    have e_49 : u48.1 6 = p2 + 1 := by subst hu48; rfl
    rw [e_49]
    refine lv_iload hx hb dX9_staysWithin_118 (lv_at hl 0 rfl) ?_
    refine z_if_eq (tgt := 128) hx hb dX9_staysWithin_120 (by decide) (by omega) (by omega) (fun c_50 => ?_) (fun c_50 => ?_)
    · refine lv_aload_n hx hb dX9_staysWithin_128 rfl (lv_at hl 5 rfl) ?_
      refine g_get (C := RX9) (T := TX9) (N := 9) (ci := 8) hx hb hts (fun _ h => (List.mem_cons_of_mem _ (List.mem_append_left _ (List.mem_append_right _ h)))) hown hC.1 hG 2 (by decide) rfl rfl 3 (by decide) (hts (.fieldLink RX9 21 "StraitSwim$Swim" "xs" "[I") (List.mem_cons_of_mem _ (List.mem_append_left _ (List.mem_append_left _ (List.mem_of_getElem? (i := 2) rfl))))) (fun _ h9 => h9) rfl dX9_staysWithin_129 ?_
      refine lv_iload_n hx hb dX9_staysWithin_132 rfl (lv_at hl 7 rfl) ?_
      refine g_iald (n := 101) hx hb hC.1 hG 13 (by decide) rfl (by omega) (by omega) (by decide) dX9_staysWithin_133 ?_
      have e_51 : u48.2.1 13 = u.2.1 13 := by subst hu48; rfl
      rw [e_51]
      refine g_iast (n := 101) hx hb hC.1 hG hS 13 (by decide) rfl rfl (by omega) (by omega) (by decide) dX9_staysWithin_134 (fun u52 H locs hu52 hG hS => ?_)
      refine lv_aload_n hx hb dX9_staysWithin_135 rfl (lv_at hl 5 rfl) ?_
      refine g_get (C := RX9) (T := TX9) (N := 9) (ci := 8) hx hb hts (fun _ h => (List.mem_cons_of_mem _ (List.mem_append_left _ (List.mem_append_right _ h)))) hown hC.1 hG 2 (by decide) rfl rfl 4 (by decide) (hts (.fieldLink RX9 25 "StraitSwim$Swim" "ys" "[I") (List.mem_cons_of_mem _ (List.mem_append_left _ (List.mem_append_left _ (List.mem_of_getElem? (i := 1) rfl))))) (fun _ h9 => h9) rfl dX9_staysWithin_136 ?_
      refine lv_aload_n hx hb dX9_staysWithin_139 rfl (lv_at hl 5 rfl) ?_
      refine g_get (C := RX9) (T := TX9) (N := 9) (ci := 8) hx hb hts (fun _ h => (List.mem_cons_of_mem _ (List.mem_append_left _ (List.mem_append_right _ h)))) hown hC.1 hG 2 (by decide) rfl rfl 1 (by decide) (hts (.fieldLink RX9 15 "StraitSwim$Swim" "quarters" "I") (List.mem_cons_of_mem _ (List.mem_append_left _ (List.mem_append_left _ (List.mem_of_getElem? (i := 5) rfl))))) (fun _ h9 => h9) rfl dX9_staysWithin_140 ?_
      have e_53 : u52.1 6 = p2 + 1 := by subst hu52; subst hu48; rfl
      rw [e_53]
      refine lv_iload hx hb dX9_staysWithin_143 (lv_at hl 0 rfl) ?_
      refine z_if_eq (tgt := 153) hx hb dX9_staysWithin_145 (by decide) (by omega) (by omega) (fun c_54 => ?_) (fun c_54 => ?_)
      · refine lv_aload_n hx hb dX9_staysWithin_153 rfl (lv_at hl 5 rfl) ?_
        refine g_get (C := RX9) (T := TX9) (N := 9) (ci := 8) hx hb hts (fun _ h => (List.mem_cons_of_mem _ (List.mem_append_left _ (List.mem_append_right _ h)))) hown hC.1 hG 2 (by decide) rfl rfl 4 (by decide) (hts (.fieldLink RX9 25 "StraitSwim$Swim" "ys" "[I") (List.mem_cons_of_mem _ (List.mem_append_left _ (List.mem_append_left _ (List.mem_of_getElem? (i := 1) rfl))))) (fun _ h9 => h9) rfl dX9_staysWithin_154 ?_
        refine lv_iload_n hx hb dX9_staysWithin_157 rfl (lv_at hl 7 rfl) ?_
        refine g_iald (n := 101) hx hb hC.1 hG 14 (by decide) rfl (by omega) (by omega) (by decide) dX9_staysWithin_158 ?_
        have e_55 : u52.2.1 14 = u.2.1 14 := by subst hu52; subst hu48; rfl
        rw [e_55]
        refine g_iast (n := 101) hx hb hC.1 hG hS 14 (by decide) rfl rfl (by omega) (by omega) (by decide) dX9_staysWithin_159 (fun u56 H locs hu56 hG hS => ?_)
        refine lv_iload hx hb dX9_staysWithin_160 (lv_at hl 0 rfl) ?_
        exact W.zret (ty := .boolean) (v := zI b46) hx hb hr (nar_b (by omega)) (fun t9 ht9_ hW => ⟨⟨zI b46, u56, rfl, (by unfold cStay; rw [← hX, ← hY]; first | (exfalso; omega) | ((first | rw [if_pos (by omega)] | rw [if_neg (by omega)]); unfold cStB; subst hu56; subst hu52; subst hu48; refine ⟨?_, rfl⟩; congr 1 <;> omega)), gB.mk' hG hC hS ht9_ hW⟩, hS.F ht9_⟩) hS.2.2 dX9_staysWithin_162
      · refine lv_iload hx hb dX9_staysWithin_148 (lv_at hl 1 rfl) ?_
        refine lv_goto (tgt := 159) hx hb dX9_staysWithin_150 (by decide) ?_
        refine g_iast (n := 101) hx hb hC.1 hG hS 14 (by decide) rfl rfl (by omega) (by omega) (by decide) dX9_staysWithin_159 (fun u57 H locs hu57 hG hS => ?_)
        refine lv_iload hx hb dX9_staysWithin_160 (lv_at hl 0 rfl) ?_
        exact W.zret (ty := .boolean) (v := zI b46) hx hb hr (nar_b (by omega)) (fun t9 ht9_ hW => ⟨⟨zI b46, u57, rfl, (by unfold cStay; rw [← hX, ← hY]; first | (exfalso; omega) | ((first | rw [if_pos (by omega)] | rw [if_neg (by omega)]); unfold cStB; subst hu57; subst hu52; subst hu48; refine ⟨?_, rfl⟩; congr 1 <;> omega)), gB.mk' hG hC hS ht9_ hW⟩, hS.F ht9_⟩) hS.2.2 dX9_staysWithin_162
    · refine lv_iload hx hb dX9_staysWithin_123 (lv_at hl 2 rfl) ?_
      refine lv_goto (tgt := 134) hx hb dX9_staysWithin_125 (by decide) ?_
      refine g_iast (n := 101) hx hb hC.1 hG hS 13 (by decide) rfl rfl (by omega) (by omega) (by decide) dX9_staysWithin_134 (fun u58 H locs hu58 hG hS => ?_)
      refine lv_aload_n hx hb dX9_staysWithin_135 rfl (lv_at hl 5 rfl) ?_
      refine g_get (C := RX9) (T := TX9) (N := 9) (ci := 8) hx hb hts (fun _ h => (List.mem_cons_of_mem _ (List.mem_append_left _ (List.mem_append_right _ h)))) hown hC.1 hG 2 (by decide) rfl rfl 4 (by decide) (hts (.fieldLink RX9 25 "StraitSwim$Swim" "ys" "[I") (List.mem_cons_of_mem _ (List.mem_append_left _ (List.mem_append_left _ (List.mem_of_getElem? (i := 1) rfl))))) (fun _ h9 => h9) rfl dX9_staysWithin_136 ?_
      refine lv_aload_n hx hb dX9_staysWithin_139 rfl (lv_at hl 5 rfl) ?_
      refine g_get (C := RX9) (T := TX9) (N := 9) (ci := 8) hx hb hts (fun _ h => (List.mem_cons_of_mem _ (List.mem_append_left _ (List.mem_append_right _ h)))) hown hC.1 hG 2 (by decide) rfl rfl 1 (by decide) (hts (.fieldLink RX9 15 "StraitSwim$Swim" "quarters" "I") (List.mem_cons_of_mem _ (List.mem_append_left _ (List.mem_append_left _ (List.mem_of_getElem? (i := 5) rfl))))) (fun _ h9 => h9) rfl dX9_staysWithin_140 ?_
      have e_59 : u58.1 6 = p2 + 1 := by subst hu58; subst hu48; rfl
      rw [e_59]
      refine lv_iload hx hb dX9_staysWithin_143 (lv_at hl 0 rfl) ?_
      refine z_if_eq (tgt := 153) hx hb dX9_staysWithin_145 (by decide) (by omega) (by omega) (fun c_60 => ?_) (fun c_60 => ?_)
      · refine lv_aload_n hx hb dX9_staysWithin_153 rfl (lv_at hl 5 rfl) ?_
        refine g_get (C := RX9) (T := TX9) (N := 9) (ci := 8) hx hb hts (fun _ h => (List.mem_cons_of_mem _ (List.mem_append_left _ (List.mem_append_right _ h)))) hown hC.1 hG 2 (by decide) rfl rfl 4 (by decide) (hts (.fieldLink RX9 25 "StraitSwim$Swim" "ys" "[I") (List.mem_cons_of_mem _ (List.mem_append_left _ (List.mem_append_left _ (List.mem_of_getElem? (i := 1) rfl))))) (fun _ h9 => h9) rfl dX9_staysWithin_154 ?_
        refine lv_iload_n hx hb dX9_staysWithin_157 rfl (lv_at hl 7 rfl) ?_
        refine g_iald (n := 101) hx hb hC.1 hG 14 (by decide) rfl (by omega) (by omega) (by decide) dX9_staysWithin_158 ?_
        have e_61 : u58.2.1 14 = u.2.1 14 := by subst hu58; subst hu48; rfl
        rw [e_61]
        refine g_iast (n := 101) hx hb hC.1 hG hS 14 (by decide) rfl rfl (by omega) (by omega) (by decide) dX9_staysWithin_159 (fun u62 H locs hu62 hG hS => ?_)
        refine lv_iload hx hb dX9_staysWithin_160 (lv_at hl 0 rfl) ?_
        exact W.zret (ty := .boolean) (v := zI b46) hx hb hr (nar_b (by omega)) (fun t9 ht9_ hW => ⟨⟨zI b46, u62, rfl, (by unfold cStay; rw [← hX, ← hY]; first | (exfalso; omega) | ((first | rw [if_pos (by omega)] | rw [if_neg (by omega)]); unfold cStB; subst hu62; subst hu58; subst hu48; refine ⟨?_, rfl⟩; congr 1 <;> omega)), gB.mk' hG hC hS ht9_ hW⟩, hS.F ht9_⟩) hS.2.2 dX9_staysWithin_162
      · refine lv_iload hx hb dX9_staysWithin_148 (lv_at hl 1 rfl) ?_
        refine lv_goto (tgt := 159) hx hb dX9_staysWithin_150 (by decide) ?_
        refine g_iast (n := 101) hx hb hC.1 hG hS 14 (by decide) rfl rfl (by omega) (by omega) (by decide) dX9_staysWithin_159 (fun u63 H locs hu63 hG hS => ?_)
        refine lv_iload hx hb dX9_staysWithin_160 (lv_at hl 0 rfl) ?_
        exact W.zret (ty := .boolean) (v := zI b46) hx hb hr (nar_b (by omega)) (fun t9 ht9_ hW => ⟨⟨zI b46, u63, rfl, (by unfold cStay; rw [← hX, ← hY]; first | (exfalso; omega) | ((first | rw [if_pos (by omega)] | rw [if_neg (by omega)]); unfold cStB; subst hu63; subst hu58; subst hu48; refine ⟨?_, rfl⟩; congr 1 <;> omega)), gB.mk' hG hC hS ht9_ hW⟩, hS.F ht9_⟩) hS.2.2 dX9_staysWithin_162
set_option maxHeartbeats 4000000 in
set_option maxRecDepth 100000 in
theorem kX9_staysWithin_3 (l : Launch) (D : va_G) (cy : Nat → ClassId) (ad : Nat → Nat) (jf : Nat → Int64) (A : Nat → Prop) (u : gS) (p2 p3 p4 : Int) (j_2 : 0 ≤ p2 ∧ p2 ≤ 99) (j_3 : 0 ≤ p3 ∧ p3 ≤ 1000) (j_4 : 0 ≤ p4 ∧ p4 ≤ 7) (i10 : ∀ j, j < 36 → -9 ≤ u.2.1 10 j ∧ u.2.1 10 j ≤ 9) (i11 : ∀ j, j < 36 → -9 ≤ u.2.1 11 j ∧ u.2.1 11 j ≤ 9) (isd : ∀ j, j < 100 → 0 ≤ u.2.1 19 j ∧ u.2.1 19 j ≤ 24) (hpx : 0 ≤ u.2.1 17 p2.toNat ∧ u.2.1 17 p2.toNat ≤ 239) (hpy : 0 ≤ u.2.1 18 p2.toNat ∧ u.2.1 18 p2.toNat ≤ 119) : Met l yX9_staysWithin wsX9_staysWithin ({ frames := 2, cells := 0, slots := 0, locals := 43 }) (va_Pc [.ref (ad 3), .ref (ad 1), .int (zI p2), .int (zI p3), .int (zI p4)] (gB D cy ad jf A u)) (va_Qi (fun (r : Int32) (v : gS) => r = zI (cStay u 17 18 19 11 p2 p3 p4).1 ∧ v = (cStay u 17 18 19 11 p2 p3 p4).2) (gB D cy ad jf A) A) 0 0 A := by
  refine Met.ofW (cc := cX9_staysWithin) (maxL := 10) (ret := (some .boolean)) (by decide) rfl ?_
  intro p e s m args below meth c s₁ B hml hv
  obtain ⟨rfl, hG, hC⟩ := hv
  have hx := B.exec
  have hb := B.bytes
  have hr := B.returns
  have hts := atoms_spec (ws := wsX9_staysWithin) B.pre
  have hown : s.vm.findClass RX9 = some m.cls := findClass_of_methodNamed B.named
  have hlocks := B.notSynchronized
  have hS : va_S A s.heap s.heap [] := va_S.rf
  have hl := lv_entry ([.ref (ad 3), .ref (ad 1), .int (zI p2), .int (zI p3), .int (zI p4)]) (n := 10) (Nat.le_of_ble_eq_true rfl)
  rw [lg_entry_eq]
  generalize (lg_sl ([.ref (ad 3), .ref (ad 1), .int (zI p2), .int (zI p3), .int (zI p4)]) ++ List.replicate (10 - (lg_sl ([.ref (ad 3), .ref (ad 1), .int (zI p2), .int (zI p3), .int (zI p4)])).length) Slot.unset).toArray = ls at hl ⊢
  have hl : lv_has ls 10 [(0, .ref (ad 3)), (1, .ref (ad 1)), (2, .int (zI p2)), (3, .int (zI p3)), (4, .int (zI p4))] := hl
  obtain ⟨⟨tE, hZE, hTE⟩, ⟨tN, hZN, hTN⟩⟩ := hC.2.2.1
  refine lv_iload hx hb dX9_staysWithin_0 (lv_at hl 4 rfl) ?_
  refine z_iconst hx hb dX9_staysWithin_2 ?_
  refine z_irem hx hb dX9_staysWithin_3 (by omega) (by omega) (by omega) (by omega) ?_
  refine z_if_ne (tgt := 16) hx hb dX9_staysWithin_4 (by decide) (by omega) (by omega) (fun c_1 => ?_) (fun c_1 => ?_)
  · refine lv_aload_n hx hb dX9_staysWithin_16 rfl (lv_at hl 0 rfl) ?_
    refine g_get (C := RX9) (T := TX9) (N := 9) (ci := 8) hx hb hts (fun _ h => (List.mem_cons_of_mem _ (List.mem_append_left _ (List.mem_append_right _ h)))) hown hC.1 hG 3 (by decide) rfl rfl 5 (by decide) (hts (.fieldLink RX9 28 "StraitSwim$Swim" "strides" "[I") (List.mem_cons_of_mem _ (List.mem_append_left _ (List.mem_append_left _ (List.mem_of_getElem? (i := 0) rfl))))) (fun _ h9 => h9) rfl dX9_staysWithin_17 ?_
    refine lv_iload_n hx hb dX9_staysWithin_20 rfl (lv_at hl 2 rfl) ?_
    refine g_iald (n := 100) hx hb hC.1 hG 19 (by decide) rfl (by omega) (by omega) (by decide) dX9_staysWithin_21 ?_
    have q_2 := isd p2.toNat (by omega)
    refine z_bipush hx hb dX9_staysWithin_22 (by decide) ?_
    refine z_imul hx hb dX9_staysWithin_24 ?_
    refine z_bipush hx hb dX9_staysWithin_25 (by decide) ?_
    refine z_idiv hx hb dX9_staysWithin_27 (by omega) (by omega) (by omega) (by omega) ?_
    obtain ⟨al, hal⟩ : ∃ z : Int, z = ((u.2.1 19 p2.toNat) * 7) / 10 := ⟨_, rfl⟩
    rw [← hal]
    refine lv_istore (lv' := [(5, .int (zI al)), (0, .ref (ad 3)), (1, .ref (ad 1)), (2, .int (zI p2)), (3, .int (zI p3)), (4, .int (zI p4))]) hx hb dX9_staysWithin_28 hl (by decide) rfl (fun ls hl => ?_)
    refine lv_aload_n hx hb dX9_staysWithin_30 rfl (lv_at hl 1 rfl) ?_
    refine g_get (C := RX9) (T := TX9) (N := 9) (ci := 8) hx hb hts (fun _ h => (List.mem_cons_of_mem _ (List.mem_append_left _ (List.mem_append_right _ h)))) hown hC.1 hG 3 (by decide) rfl rfl 4 (by decide) (hts (.fieldLink RX9 25 "StraitSwim$Swim" "ys" "[I") (List.mem_cons_of_mem _ (List.mem_append_left _ (List.mem_append_left _ (List.mem_of_getElem? (i := 1) rfl))))) (fun _ h9 => h9) rfl dX9_staysWithin_31 ?_
    refine lv_iload_n hx hb dX9_staysWithin_34 rfl (lv_at hl 3 rfl) ?_
    refine g_iald (n := 101) hx hb hC.1 hG 18 (by decide) rfl (by omega) (by omega) (by decide) dX9_staysWithin_35 ?_
    refine lv_iload_n hx hb dX9_staysWithin_36 rfl (lv_at hl 4 rfl) ?_
    refine g_calli (va_runSN (As := [.int (zI (u.2.1 18 p2.toNat)), .int (zI p3)]) (rest := []) ⟨hx, hb, hml, hown, hts⟩ (kX11_tideIndex l D cy ad jf A u (u.2.1 18 p2.toNat) p3 (by omega) (by omega)) ⟨va_cnB 2 hts gX9_staysWithin_X11_tideIndex_n74 rfl rfl rfl hC.2.2.2.1.2.1 (hts (.initialized RX11) (List.mem_cons_of_mem _ (List.mem_append_left _ (List.mem_append_left _ (List.mem_of_getElem? (i := 7) rfl))))) (by decide +kernel) ⟨by decide, by decide⟩, (hts (.static yX11_tideIndex) (List.mem_cons_of_mem _ (List.mem_append_left _ (List.mem_append_left _ (List.mem_of_getElem? (i := 6) rfl))))), trivial⟩ (g_preS hG hC hS) rfl rfl hl.1 rfl (lv_room (Nat.le_of_ble_eq_true rfl)) dX9_staysWithin_37 ⟨Nat.le_of_ble_eq_true rfl, Nat.le_of_ble_eq_true rfl⟩) hS (fun r3 u4 H locs p_5 hG hS => ?_)
    obtain ⟨rfl, he_⟩ := p_5
    rw [he_] at hG; clear he_
    obtain ⟨wn, hwn⟩ : ∃ z : Int, z = (u.2.1 18 p2.toNat) / 40 * 12 + p3 / 4 % 12 := ⟨_, rfl⟩
    rw [← hwn]
    refine lv_istore (lv' := [(6, .int (zI wn)), (5, .int (zI al)), (0, .ref (ad 3)), (1, .ref (ad 1)), (2, .int (zI p2)), (3, .int (zI p3)), (4, .int (zI p4))]) hx hb dX9_staysWithin_40 hl (by decide) rfl (fun ls hl => ?_)
    refine lv_aload_n hx hb dX9_staysWithin_42 rfl (lv_at hl 2 rfl) ?_
    refine g_get (C := RX9) (T := TX9) (N := 9) (ci := 8) hx hb hts (fun _ h => (List.mem_cons_of_mem _ (List.mem_append_left _ (List.mem_append_right _ h)))) hown hC.1 hG 3 (by decide) rfl rfl 3 (by decide) (hts (.fieldLink RX9 21 "StraitSwim$Swim" "xs" "[I") (List.mem_cons_of_mem _ (List.mem_append_left _ (List.mem_append_left _ (List.mem_of_getElem? (i := 2) rfl))))) (fun _ h9 => h9) rfl dX9_staysWithin_43 ?_
    refine lv_iload_n hx hb dX9_staysWithin_46 rfl (lv_at hl 4 rfl) ?_
    refine g_iald (n := 101) hx hb hC.1 hG 17 (by decide) rfl (by omega) (by omega) (by decide) dX9_staysWithin_47 ?_
    refine va_getsN (C := RX11) (n := "AIM_EAST") (d := "[I") hx hb hZE hS hown (va_Nw.use rfl hC.2.2.2.2.1.1) (fun _ h9 => h9) dX9_staysWithin_48 ?_
    refine lv_iload hx hb dX9_staysWithin_51 (lv_at hl 6 rfl) ?_
    refine va_ti (v := .int (zI (aimE p4.toNat))) hx hb hTE hS (zI_in (by omega) (by omega) (by decide)) (by rw [zI_clamp (by omega) (by omega)]) dX9_staysWithin_53 ?_
    obtain ⟨z6, hz6⟩ : ∃ z : Int, z = aimE p4.toNat := ⟨_, rfl⟩
    rw [← hz6]
    have qz6 : -1 ≤ z6 ∧ z6 ≤ 1 := by rw [hz6]; exact aimE_bnd _
    refine lv_iload hx hb dX9_staysWithin_54 (lv_at hl 1 rfl) ?_
    have q_7 := mul1 (a := z6) (b := al) (by omega) (by omega)
    refine z_imul hx hb dX9_staysWithin_56 ?_
    refine z_iadd hx hb dX9_staysWithin_57 ?_
    refine lv_aload_n hx hb dX9_staysWithin_58 rfl (lv_at hl 3 rfl) ?_
    refine g_get (C := RX8) (T := TX8) (N := 4) (ci := 7) hx hb hts (fun _ h => (List.mem_cons_of_mem _ (List.mem_append_right _ h))) hown hC.1 hG 1 (by decide) rfl rfl 2 (by decide) (hts (.fieldLink RX9 80 "StraitSwim$Strait" "east" "[I") (List.mem_cons_of_mem _ (List.mem_append_left _ (List.mem_append_left _ (List.mem_of_getElem? (i := 3) rfl))))) (fun _ h9 => h9) rfl dX9_staysWithin_59 ?_
    refine lv_iload hx hb dX9_staysWithin_62 (lv_at hl 0 rfl) ?_
    refine g_iald (n := 36) hx hb hC.1 hG 10 (by decide) rfl (by omega) (by omega) (by decide) dX9_staysWithin_64 ?_
    have q_8 := i10 wn.toNat (by omega)
    refine z_iadd hx hb dX9_staysWithin_65 ?_
    obtain ⟨nx, hnx⟩ : ∃ z : Int, z = ((u.2.1 17 p2.toNat) + (z6 * al)) + (u.2.1 10 wn.toNat) := ⟨_, rfl⟩
    rw [← hnx]
    refine lv_istore (lv' := [(7, .int (zI nx)), (6, .int (zI wn)), (5, .int (zI al)), (0, .ref (ad 3)), (1, .ref (ad 1)), (2, .int (zI p2)), (3, .int (zI p3)), (4, .int (zI p4))]) hx hb dX9_staysWithin_66 hl (by decide) rfl (fun ls hl => ?_)
    refine lv_aload_n hx hb dX9_staysWithin_68 rfl (lv_at hl 3 rfl) ?_
    refine g_get (C := RX9) (T := TX9) (N := 9) (ci := 8) hx hb hts (fun _ h => (List.mem_cons_of_mem _ (List.mem_append_left _ (List.mem_append_right _ h)))) hown hC.1 hG 3 (by decide) rfl rfl 4 (by decide) (hts (.fieldLink RX9 25 "StraitSwim$Swim" "ys" "[I") (List.mem_cons_of_mem _ (List.mem_append_left _ (List.mem_append_left _ (List.mem_of_getElem? (i := 1) rfl))))) (fun _ h9 => h9) rfl dX9_staysWithin_69 ?_
    refine lv_iload_n hx hb dX9_staysWithin_72 rfl (lv_at hl 5 rfl) ?_
    refine g_iald (n := 101) hx hb hC.1 hG 18 (by decide) rfl (by omega) (by omega) (by decide) dX9_staysWithin_73 ?_
    refine va_getsN (C := RX11) (n := "AIM_NORTH") (d := "[I") hx hb hZN hS hown (va_Nw.use rfl hC.2.2.2.2.1.2) (fun _ h9 => h9) dX9_staysWithin_74 ?_
    refine lv_iload hx hb dX9_staysWithin_77 (lv_at hl 7 rfl) ?_
    refine va_ti (v := .int (zI (aimN p4.toNat))) hx hb hTN hS (zI_in (by omega) (by omega) (by decide)) (by rw [zI_clamp (by omega) (by omega)]) dX9_staysWithin_79 ?_
    obtain ⟨z9, hz9⟩ : ∃ z : Int, z = aimN p4.toNat := ⟨_, rfl⟩
    rw [← hz9]
    have qz9 : -1 ≤ z9 ∧ z9 ≤ 1 := by rw [hz9]; exact aimN_bnd _
    refine lv_iload hx hb dX9_staysWithin_80 (lv_at hl 2 rfl) ?_
    have q_10 := mul1 (a := z9) (b := al) (by omega) (by omega)
    refine z_imul hx hb dX9_staysWithin_82 ?_
    refine z_iadd hx hb dX9_staysWithin_83 ?_
    refine lv_aload_n hx hb dX9_staysWithin_84 rfl (lv_at hl 4 rfl) ?_
    refine g_get (C := RX8) (T := TX8) (N := 4) (ci := 7) hx hb hts (fun _ h => (List.mem_cons_of_mem _ (List.mem_append_right _ h))) hown hC.1 hG 1 (by decide) rfl rfl 3 (by decide) (hts (.fieldLink RX9 86 "StraitSwim$Strait" "north" "[I") (List.mem_cons_of_mem _ (List.mem_append_left _ (List.mem_append_left _ (List.mem_of_getElem? (i := 4) rfl))))) (fun _ h9 => h9) rfl dX9_staysWithin_85 ?_
    refine lv_iload hx hb dX9_staysWithin_88 (lv_at hl 1 rfl) ?_
    refine g_iald (n := 36) hx hb hC.1 hG 11 (by decide) rfl (by omega) (by omega) (by decide) dX9_staysWithin_90 ?_
    have q_11 := i11 wn.toNat (by omega)
    refine z_iadd hx hb dX9_staysWithin_91 ?_
    obtain ⟨ny, hny⟩ : ∃ z : Int, z = ((u.2.1 18 p2.toNat) + (z9 * al)) + (u.2.1 11 wn.toNat) := ⟨_, rfl⟩
    rw [← hny]
    refine lv_istore (lv' := [(8, .int (zI ny)), (7, .int (zI nx)), (6, .int (zI wn)), (5, .int (zI al)), (0, .ref (ad 3)), (1, .ref (ad 1)), (2, .int (zI p2)), (3, .int (zI p3)), (4, .int (zI p4))]) hx hb dX9_staysWithin_92 hl (by decide) rfl (fun ls hl => ?_)
    have hX : nx = cX u 17 18 19 p2 p3 p4 := by unfold cX cAl; (repeat (first | rw [if_pos (by omega)] | rw [if_neg (by omega)])); subst_vars; rfl
    have hY : ny = cY u 18 19 p2 p3 p4 := by unfold cY cAl; (repeat (first | rw [if_pos (by omega)] | rw [if_neg (by omega)])); subst_vars; rfl
    have hbX : -1000 ≤ nx ∧ nx ≤ 1000 := by omega
    have hbY : -1000 ≤ ny ∧ ny ≤ 1000 := by omega
    refine lv_iload hx hb dX9_staysWithin_94 (lv_at hl 1 rfl) ?_
    refine lv_iload hx hb dX9_staysWithin_96 (lv_at hl 0 rfl) ?_
    refine g_calli (va_runSN (As := [.int (zI nx), .int (zI ny)]) (rest := []) ⟨hx, hb, hml, hown, hts⟩ (kX11_isPlace l D cy ad jf A u nx ny (by omega) (by omega)) ⟨va_cnB 2 hts gX9_staysWithin_X11_isPlace_n89 rfl rfl rfl hC.2.2.2.1.2.2 (hts (.initialized RX11) (List.mem_cons_of_mem _ (List.mem_append_left _ (List.mem_append_left _ (List.mem_of_getElem? (i := 7) rfl))))) (by decide +kernel) ⟨by decide, by decide⟩, (hts (.static yX11_isPlace) (List.mem_cons_of_mem _ (List.mem_append_left _ (List.mem_append_left _ (List.mem_of_getElem? (i := 9) rfl))))), trivial⟩ (g_preS hG hC hS) rfl rfl hl.1 rfl (lv_room (Nat.le_of_ble_eq_true rfl)) dX9_staysWithin_98 ⟨Nat.le_of_ble_eq_true rfl, Nat.le_of_ble_eq_true rfl⟩) hS (fun r12 u13 H locs p_14 hG hS => ?_)
    obtain ⟨⟨b15, rfl, q_16⟩, he_⟩ := p_14
    rw [he_] at hG; clear he_
    have hbb15 : 0 ≤ b15 ∧ b15 ≤ 1 := by rcases q_16 with ⟨h, _⟩ | ⟨h, _⟩ <;> omega
    refine lv_istore (lv' := [(9, .int (zI b15)), (8, .int (zI ny)), (7, .int (zI nx)), (6, .int (zI wn)), (5, .int (zI al)), (0, .ref (ad 3)), (1, .ref (ad 1)), (2, .int (zI p2)), (3, .int (zI p3)), (4, .int (zI p4))]) hx hb dX9_staysWithin_101 hl (by decide) rfl (fun ls hl => ?_)
    refine lv_aload_n hx hb dX9_staysWithin_103 rfl (lv_at hl 5 rfl) ?_
    refine lv_iload_n hx hb dX9_staysWithin_104 rfl (lv_at hl 7 rfl) ?_
    refine z_iconst hx hb dX9_staysWithin_105 ?_
    refine z_iadd hx hb dX9_staysWithin_106 ?_
    refine g_put (C := RX9) (T := TX9) (N := 9) (ci := 8) (ty := .int) hx hb hts (fun _ h => (List.mem_cons_of_mem _ (List.mem_append_left _ (List.mem_append_right _ h)))) tyX9 tyX9_ok nmX9 hown hC.1 hG hS 3 (by decide) rfl rfl 1 11 (by decide) (hts (.fieldLink RX9 15 "StraitSwim$Swim" "quarters" "I") (List.mem_cons_of_mem _ (List.mem_append_left _ (List.mem_append_left _ (List.mem_of_getElem? (i := 5) rfl))))) (fun _ h9 => h9) rfl (by decide +kernel) rfl rfl (Nat.le_of_ble_eq_true rfl) rfl (gO_11 ad _ _) dX9_staysWithin_107 (fun u17 H locs hu17 hG hS => ?_)
    refine lv_aload_n hx hb dX9_staysWithin_110 rfl (lv_at hl 5 rfl) ?_
    refine g_get (C := RX9) (T := TX9) (N := 9) (ci := 8) hx hb hts (fun _ h => (List.mem_cons_of_mem _ (List.mem_append_left _ (List.mem_append_right _ h)))) hown hC.1 hG 3 (by decide) rfl rfl 3 (by decide) (hts (.fieldLink RX9 21 "StraitSwim$Swim" "xs" "[I") (List.mem_cons_of_mem _ (List.mem_append_left _ (List.mem_append_left _ (List.mem_of_getElem? (i := 2) rfl))))) (fun _ h9 => h9) rfl dX9_staysWithin_111 ?_
    refine lv_aload_n hx hb dX9_staysWithin_114 rfl (lv_at hl 5 rfl) ?_
    refine g_get (C := RX9) (T := TX9) (N := 9) (ci := 8) hx hb hts (fun _ h => (List.mem_cons_of_mem _ (List.mem_append_left _ (List.mem_append_right _ h)))) hown hC.1 hG 3 (by decide) rfl rfl 1 (by decide) (hts (.fieldLink RX9 15 "StraitSwim$Swim" "quarters" "I") (List.mem_cons_of_mem _ (List.mem_append_left _ (List.mem_append_left _ (List.mem_of_getElem? (i := 5) rfl))))) (fun _ h9 => h9) rfl dX9_staysWithin_115 ?_
    have e_18 : u17.1 11 = p2 + 1 := by subst hu17; rfl
    rw [e_18]
    refine lv_iload hx hb dX9_staysWithin_118 (lv_at hl 0 rfl) ?_
    refine z_if_eq (tgt := 128) hx hb dX9_staysWithin_120 (by decide) (by omega) (by omega) (fun c_19 => ?_) (fun c_19 => ?_)
    · refine lv_aload_n hx hb dX9_staysWithin_128 rfl (lv_at hl 5 rfl) ?_
      refine g_get (C := RX9) (T := TX9) (N := 9) (ci := 8) hx hb hts (fun _ h => (List.mem_cons_of_mem _ (List.mem_append_left _ (List.mem_append_right _ h)))) hown hC.1 hG 3 (by decide) rfl rfl 3 (by decide) (hts (.fieldLink RX9 21 "StraitSwim$Swim" "xs" "[I") (List.mem_cons_of_mem _ (List.mem_append_left _ (List.mem_append_left _ (List.mem_of_getElem? (i := 2) rfl))))) (fun _ h9 => h9) rfl dX9_staysWithin_129 ?_
      refine lv_iload_n hx hb dX9_staysWithin_132 rfl (lv_at hl 7 rfl) ?_
      refine g_iald (n := 101) hx hb hC.1 hG 17 (by decide) rfl (by omega) (by omega) (by decide) dX9_staysWithin_133 ?_
      have e_20 : u17.2.1 17 = u.2.1 17 := by subst hu17; rfl
      rw [e_20]
      refine g_iast (n := 101) hx hb hC.1 hG hS 17 (by decide) rfl rfl (by omega) (by omega) (by decide) dX9_staysWithin_134 (fun u21 H locs hu21 hG hS => ?_)
      refine lv_aload_n hx hb dX9_staysWithin_135 rfl (lv_at hl 5 rfl) ?_
      refine g_get (C := RX9) (T := TX9) (N := 9) (ci := 8) hx hb hts (fun _ h => (List.mem_cons_of_mem _ (List.mem_append_left _ (List.mem_append_right _ h)))) hown hC.1 hG 3 (by decide) rfl rfl 4 (by decide) (hts (.fieldLink RX9 25 "StraitSwim$Swim" "ys" "[I") (List.mem_cons_of_mem _ (List.mem_append_left _ (List.mem_append_left _ (List.mem_of_getElem? (i := 1) rfl))))) (fun _ h9 => h9) rfl dX9_staysWithin_136 ?_
      refine lv_aload_n hx hb dX9_staysWithin_139 rfl (lv_at hl 5 rfl) ?_
      refine g_get (C := RX9) (T := TX9) (N := 9) (ci := 8) hx hb hts (fun _ h => (List.mem_cons_of_mem _ (List.mem_append_left _ (List.mem_append_right _ h)))) hown hC.1 hG 3 (by decide) rfl rfl 1 (by decide) (hts (.fieldLink RX9 15 "StraitSwim$Swim" "quarters" "I") (List.mem_cons_of_mem _ (List.mem_append_left _ (List.mem_append_left _ (List.mem_of_getElem? (i := 5) rfl))))) (fun _ h9 => h9) rfl dX9_staysWithin_140 ?_
      have e_22 : u21.1 11 = p2 + 1 := by subst hu21; subst hu17; rfl
      rw [e_22]
      refine lv_iload hx hb dX9_staysWithin_143 (lv_at hl 0 rfl) ?_
      refine z_if_eq (tgt := 153) hx hb dX9_staysWithin_145 (by decide) (by omega) (by omega) (fun c_23 => ?_) (fun c_23 => ?_)
      · refine lv_aload_n hx hb dX9_staysWithin_153 rfl (lv_at hl 5 rfl) ?_
        refine g_get (C := RX9) (T := TX9) (N := 9) (ci := 8) hx hb hts (fun _ h => (List.mem_cons_of_mem _ (List.mem_append_left _ (List.mem_append_right _ h)))) hown hC.1 hG 3 (by decide) rfl rfl 4 (by decide) (hts (.fieldLink RX9 25 "StraitSwim$Swim" "ys" "[I") (List.mem_cons_of_mem _ (List.mem_append_left _ (List.mem_append_left _ (List.mem_of_getElem? (i := 1) rfl))))) (fun _ h9 => h9) rfl dX9_staysWithin_154 ?_
        refine lv_iload_n hx hb dX9_staysWithin_157 rfl (lv_at hl 7 rfl) ?_
        refine g_iald (n := 101) hx hb hC.1 hG 18 (by decide) rfl (by omega) (by omega) (by decide) dX9_staysWithin_158 ?_
        have e_24 : u21.2.1 18 = u.2.1 18 := by subst hu21; subst hu17; rfl
        rw [e_24]
        refine g_iast (n := 101) hx hb hC.1 hG hS 18 (by decide) rfl rfl (by omega) (by omega) (by decide) dX9_staysWithin_159 (fun u25 H locs hu25 hG hS => ?_)
        refine lv_iload hx hb dX9_staysWithin_160 (lv_at hl 0 rfl) ?_
        exact W.zret (ty := .boolean) (v := zI b15) hx hb hr (nar_b (by omega)) (fun t9 ht9_ hW => ⟨⟨zI b15, u25, rfl, (by unfold cStay; rw [← hX, ← hY]; first | (exfalso; omega) | ((first | rw [if_pos (by omega)] | rw [if_neg (by omega)]); unfold cStB; subst hu25; subst hu21; subst hu17; refine ⟨?_, rfl⟩; congr 1 <;> omega)), gB.mk' hG hC hS ht9_ hW⟩, hS.F ht9_⟩) hS.2.2 dX9_staysWithin_162
      · refine lv_iload hx hb dX9_staysWithin_148 (lv_at hl 1 rfl) ?_
        refine lv_goto (tgt := 159) hx hb dX9_staysWithin_150 (by decide) ?_
        refine g_iast (n := 101) hx hb hC.1 hG hS 18 (by decide) rfl rfl (by omega) (by omega) (by decide) dX9_staysWithin_159 (fun u26 H locs hu26 hG hS => ?_)
        refine lv_iload hx hb dX9_staysWithin_160 (lv_at hl 0 rfl) ?_
        exact W.zret (ty := .boolean) (v := zI b15) hx hb hr (nar_b (by omega)) (fun t9 ht9_ hW => ⟨⟨zI b15, u26, rfl, (by unfold cStay; rw [← hX, ← hY]; first | (exfalso; omega) | ((first | rw [if_pos (by omega)] | rw [if_neg (by omega)]); unfold cStB; subst hu26; subst hu21; subst hu17; refine ⟨?_, rfl⟩; congr 1 <;> omega)), gB.mk' hG hC hS ht9_ hW⟩, hS.F ht9_⟩) hS.2.2 dX9_staysWithin_162
    · refine lv_iload hx hb dX9_staysWithin_123 (lv_at hl 2 rfl) ?_
      refine lv_goto (tgt := 134) hx hb dX9_staysWithin_125 (by decide) ?_
      refine g_iast (n := 101) hx hb hC.1 hG hS 17 (by decide) rfl rfl (by omega) (by omega) (by decide) dX9_staysWithin_134 (fun u27 H locs hu27 hG hS => ?_)
      refine lv_aload_n hx hb dX9_staysWithin_135 rfl (lv_at hl 5 rfl) ?_
      refine g_get (C := RX9) (T := TX9) (N := 9) (ci := 8) hx hb hts (fun _ h => (List.mem_cons_of_mem _ (List.mem_append_left _ (List.mem_append_right _ h)))) hown hC.1 hG 3 (by decide) rfl rfl 4 (by decide) (hts (.fieldLink RX9 25 "StraitSwim$Swim" "ys" "[I") (List.mem_cons_of_mem _ (List.mem_append_left _ (List.mem_append_left _ (List.mem_of_getElem? (i := 1) rfl))))) (fun _ h9 => h9) rfl dX9_staysWithin_136 ?_
      refine lv_aload_n hx hb dX9_staysWithin_139 rfl (lv_at hl 5 rfl) ?_
      refine g_get (C := RX9) (T := TX9) (N := 9) (ci := 8) hx hb hts (fun _ h => (List.mem_cons_of_mem _ (List.mem_append_left _ (List.mem_append_right _ h)))) hown hC.1 hG 3 (by decide) rfl rfl 1 (by decide) (hts (.fieldLink RX9 15 "StraitSwim$Swim" "quarters" "I") (List.mem_cons_of_mem _ (List.mem_append_left _ (List.mem_append_left _ (List.mem_of_getElem? (i := 5) rfl))))) (fun _ h9 => h9) rfl dX9_staysWithin_140 ?_
      have e_28 : u27.1 11 = p2 + 1 := by subst hu27; subst hu17; rfl
      rw [e_28]
      refine lv_iload hx hb dX9_staysWithin_143 (lv_at hl 0 rfl) ?_
      refine z_if_eq (tgt := 153) hx hb dX9_staysWithin_145 (by decide) (by omega) (by omega) (fun c_29 => ?_) (fun c_29 => ?_)
      · refine lv_aload_n hx hb dX9_staysWithin_153 rfl (lv_at hl 5 rfl) ?_
        refine g_get (C := RX9) (T := TX9) (N := 9) (ci := 8) hx hb hts (fun _ h => (List.mem_cons_of_mem _ (List.mem_append_left _ (List.mem_append_right _ h)))) hown hC.1 hG 3 (by decide) rfl rfl 4 (by decide) (hts (.fieldLink RX9 25 "StraitSwim$Swim" "ys" "[I") (List.mem_cons_of_mem _ (List.mem_append_left _ (List.mem_append_left _ (List.mem_of_getElem? (i := 1) rfl))))) (fun _ h9 => h9) rfl dX9_staysWithin_154 ?_
        refine lv_iload_n hx hb dX9_staysWithin_157 rfl (lv_at hl 7 rfl) ?_
        refine g_iald (n := 101) hx hb hC.1 hG 18 (by decide) rfl (by omega) (by omega) (by decide) dX9_staysWithin_158 ?_
        have e_30 : u27.2.1 18 = u.2.1 18 := by subst hu27; subst hu17; rfl
        rw [e_30]
        refine g_iast (n := 101) hx hb hC.1 hG hS 18 (by decide) rfl rfl (by omega) (by omega) (by decide) dX9_staysWithin_159 (fun u31 H locs hu31 hG hS => ?_)
        refine lv_iload hx hb dX9_staysWithin_160 (lv_at hl 0 rfl) ?_
        exact W.zret (ty := .boolean) (v := zI b15) hx hb hr (nar_b (by omega)) (fun t9 ht9_ hW => ⟨⟨zI b15, u31, rfl, (by unfold cStay; rw [← hX, ← hY]; first | (exfalso; omega) | ((first | rw [if_pos (by omega)] | rw [if_neg (by omega)]); unfold cStB; subst hu31; subst hu27; subst hu17; refine ⟨?_, rfl⟩; congr 1 <;> omega)), gB.mk' hG hC hS ht9_ hW⟩, hS.F ht9_⟩) hS.2.2 dX9_staysWithin_162
      · refine lv_iload hx hb dX9_staysWithin_148 (lv_at hl 1 rfl) ?_
        refine lv_goto (tgt := 159) hx hb dX9_staysWithin_150 (by decide) ?_
        refine g_iast (n := 101) hx hb hC.1 hG hS 18 (by decide) rfl rfl (by omega) (by omega) (by decide) dX9_staysWithin_159 (fun u32 H locs hu32 hG hS => ?_)
        refine lv_iload hx hb dX9_staysWithin_160 (lv_at hl 0 rfl) ?_
        exact W.zret (ty := .boolean) (v := zI b15) hx hb hr (nar_b (by omega)) (fun t9 ht9_ hW => ⟨⟨zI b15, u32, rfl, (by unfold cStay; rw [← hX, ← hY]; first | (exfalso; omega) | ((first | rw [if_pos (by omega)] | rw [if_neg (by omega)]); unfold cStB; subst hu32; subst hu27; subst hu17; refine ⟨?_, rfl⟩; congr 1 <;> omega)), gB.mk' hG hC hS ht9_ hW⟩, hS.F ht9_⟩) hS.2.2 dX9_staysWithin_162
  · refine lv_aload_n hx hb dX9_staysWithin_7 rfl (lv_at hl 0 rfl) ?_
    refine g_get (C := RX9) (T := TX9) (N := 9) (ci := 8) hx hb hts (fun _ h => (List.mem_cons_of_mem _ (List.mem_append_left _ (List.mem_append_right _ h)))) hown hC.1 hG 3 (by decide) rfl rfl 5 (by decide) (hts (.fieldLink RX9 28 "StraitSwim$Swim" "strides" "[I") (List.mem_cons_of_mem _ (List.mem_append_left _ (List.mem_append_left _ (List.mem_of_getElem? (i := 0) rfl))))) (fun _ h9 => h9) rfl dX9_staysWithin_8 ?_
    refine lv_iload_n hx hb dX9_staysWithin_11 rfl (lv_at hl 2 rfl) ?_
    refine g_iald (n := 100) hx hb hC.1 hG 19 (by decide) rfl (by omega) (by omega) (by decide) dX9_staysWithin_12 ?_
    have q_33 := isd p2.toNat (by omega)
    refine lv_goto (tgt := 28) hx hb dX9_staysWithin_13 (by decide) ?_
    obtain ⟨al, hal⟩ : ∃ z : Int, z = u.2.1 19 p2.toNat := ⟨_, rfl⟩
    rw [← hal]
    refine lv_istore (lv' := [(5, .int (zI al)), (0, .ref (ad 3)), (1, .ref (ad 1)), (2, .int (zI p2)), (3, .int (zI p3)), (4, .int (zI p4))]) hx hb dX9_staysWithin_28 hl (by decide) rfl (fun ls hl => ?_)
    refine lv_aload_n hx hb dX9_staysWithin_30 rfl (lv_at hl 1 rfl) ?_
    refine g_get (C := RX9) (T := TX9) (N := 9) (ci := 8) hx hb hts (fun _ h => (List.mem_cons_of_mem _ (List.mem_append_left _ (List.mem_append_right _ h)))) hown hC.1 hG 3 (by decide) rfl rfl 4 (by decide) (hts (.fieldLink RX9 25 "StraitSwim$Swim" "ys" "[I") (List.mem_cons_of_mem _ (List.mem_append_left _ (List.mem_append_left _ (List.mem_of_getElem? (i := 1) rfl))))) (fun _ h9 => h9) rfl dX9_staysWithin_31 ?_
    refine lv_iload_n hx hb dX9_staysWithin_34 rfl (lv_at hl 3 rfl) ?_
    refine g_iald (n := 101) hx hb hC.1 hG 18 (by decide) rfl (by omega) (by omega) (by decide) dX9_staysWithin_35 ?_
    refine lv_iload_n hx hb dX9_staysWithin_36 rfl (lv_at hl 4 rfl) ?_
    refine g_calli (va_runSN (As := [.int (zI (u.2.1 18 p2.toNat)), .int (zI p3)]) (rest := []) ⟨hx, hb, hml, hown, hts⟩ (kX11_tideIndex l D cy ad jf A u (u.2.1 18 p2.toNat) p3 (by omega) (by omega)) ⟨va_cnB 2 hts gX9_staysWithin_X11_tideIndex_n74 rfl rfl rfl hC.2.2.2.1.2.1 (hts (.initialized RX11) (List.mem_cons_of_mem _ (List.mem_append_left _ (List.mem_append_left _ (List.mem_of_getElem? (i := 7) rfl))))) (by decide +kernel) ⟨by decide, by decide⟩, (hts (.static yX11_tideIndex) (List.mem_cons_of_mem _ (List.mem_append_left _ (List.mem_append_left _ (List.mem_of_getElem? (i := 6) rfl))))), trivial⟩ (g_preS hG hC hS) rfl rfl hl.1 rfl (lv_room (Nat.le_of_ble_eq_true rfl)) dX9_staysWithin_37 ⟨Nat.le_of_ble_eq_true rfl, Nat.le_of_ble_eq_true rfl⟩) hS (fun r34 u35 H locs p_36 hG hS => ?_)
    obtain ⟨rfl, he_⟩ := p_36
    rw [he_] at hG; clear he_
    obtain ⟨wn, hwn⟩ : ∃ z : Int, z = (u.2.1 18 p2.toNat) / 40 * 12 + p3 / 4 % 12 := ⟨_, rfl⟩
    rw [← hwn]
    refine lv_istore (lv' := [(6, .int (zI wn)), (5, .int (zI al)), (0, .ref (ad 3)), (1, .ref (ad 1)), (2, .int (zI p2)), (3, .int (zI p3)), (4, .int (zI p4))]) hx hb dX9_staysWithin_40 hl (by decide) rfl (fun ls hl => ?_)
    refine lv_aload_n hx hb dX9_staysWithin_42 rfl (lv_at hl 2 rfl) ?_
    refine g_get (C := RX9) (T := TX9) (N := 9) (ci := 8) hx hb hts (fun _ h => (List.mem_cons_of_mem _ (List.mem_append_left _ (List.mem_append_right _ h)))) hown hC.1 hG 3 (by decide) rfl rfl 3 (by decide) (hts (.fieldLink RX9 21 "StraitSwim$Swim" "xs" "[I") (List.mem_cons_of_mem _ (List.mem_append_left _ (List.mem_append_left _ (List.mem_of_getElem? (i := 2) rfl))))) (fun _ h9 => h9) rfl dX9_staysWithin_43 ?_
    refine lv_iload_n hx hb dX9_staysWithin_46 rfl (lv_at hl 4 rfl) ?_
    refine g_iald (n := 101) hx hb hC.1 hG 17 (by decide) rfl (by omega) (by omega) (by decide) dX9_staysWithin_47 ?_
    refine va_getsN (C := RX11) (n := "AIM_EAST") (d := "[I") hx hb hZE hS hown (va_Nw.use rfl hC.2.2.2.2.1.1) (fun _ h9 => h9) dX9_staysWithin_48 ?_
    refine lv_iload hx hb dX9_staysWithin_51 (lv_at hl 6 rfl) ?_
    refine va_ti (v := .int (zI (aimE p4.toNat))) hx hb hTE hS (zI_in (by omega) (by omega) (by decide)) (by rw [zI_clamp (by omega) (by omega)]) dX9_staysWithin_53 ?_
    obtain ⟨z37, hz37⟩ : ∃ z : Int, z = aimE p4.toNat := ⟨_, rfl⟩
    rw [← hz37]
    have qz37 : -1 ≤ z37 ∧ z37 ≤ 1 := by rw [hz37]; exact aimE_bnd _
    refine lv_iload hx hb dX9_staysWithin_54 (lv_at hl 1 rfl) ?_
    have q_38 := mul1 (a := z37) (b := al) (by omega) (by omega)
    refine z_imul hx hb dX9_staysWithin_56 ?_
    refine z_iadd hx hb dX9_staysWithin_57 ?_
    refine lv_aload_n hx hb dX9_staysWithin_58 rfl (lv_at hl 3 rfl) ?_
    refine g_get (C := RX8) (T := TX8) (N := 4) (ci := 7) hx hb hts (fun _ h => (List.mem_cons_of_mem _ (List.mem_append_right _ h))) hown hC.1 hG 1 (by decide) rfl rfl 2 (by decide) (hts (.fieldLink RX9 80 "StraitSwim$Strait" "east" "[I") (List.mem_cons_of_mem _ (List.mem_append_left _ (List.mem_append_left _ (List.mem_of_getElem? (i := 3) rfl))))) (fun _ h9 => h9) rfl dX9_staysWithin_59 ?_
    refine lv_iload hx hb dX9_staysWithin_62 (lv_at hl 0 rfl) ?_
    refine g_iald (n := 36) hx hb hC.1 hG 10 (by decide) rfl (by omega) (by omega) (by decide) dX9_staysWithin_64 ?_
    have q_39 := i10 wn.toNat (by omega)
    refine z_iadd hx hb dX9_staysWithin_65 ?_
    obtain ⟨nx, hnx⟩ : ∃ z : Int, z = ((u.2.1 17 p2.toNat) + (z37 * al)) + (u.2.1 10 wn.toNat) := ⟨_, rfl⟩
    rw [← hnx]
    refine lv_istore (lv' := [(7, .int (zI nx)), (6, .int (zI wn)), (5, .int (zI al)), (0, .ref (ad 3)), (1, .ref (ad 1)), (2, .int (zI p2)), (3, .int (zI p3)), (4, .int (zI p4))]) hx hb dX9_staysWithin_66 hl (by decide) rfl (fun ls hl => ?_)
    refine lv_aload_n hx hb dX9_staysWithin_68 rfl (lv_at hl 3 rfl) ?_
    refine g_get (C := RX9) (T := TX9) (N := 9) (ci := 8) hx hb hts (fun _ h => (List.mem_cons_of_mem _ (List.mem_append_left _ (List.mem_append_right _ h)))) hown hC.1 hG 3 (by decide) rfl rfl 4 (by decide) (hts (.fieldLink RX9 25 "StraitSwim$Swim" "ys" "[I") (List.mem_cons_of_mem _ (List.mem_append_left _ (List.mem_append_left _ (List.mem_of_getElem? (i := 1) rfl))))) (fun _ h9 => h9) rfl dX9_staysWithin_69 ?_
    refine lv_iload_n hx hb dX9_staysWithin_72 rfl (lv_at hl 5 rfl) ?_
    refine g_iald (n := 101) hx hb hC.1 hG 18 (by decide) rfl (by omega) (by omega) (by decide) dX9_staysWithin_73 ?_
    refine va_getsN (C := RX11) (n := "AIM_NORTH") (d := "[I") hx hb hZN hS hown (va_Nw.use rfl hC.2.2.2.2.1.2) (fun _ h9 => h9) dX9_staysWithin_74 ?_
    refine lv_iload hx hb dX9_staysWithin_77 (lv_at hl 7 rfl) ?_
    refine va_ti (v := .int (zI (aimN p4.toNat))) hx hb hTN hS (zI_in (by omega) (by omega) (by decide)) (by rw [zI_clamp (by omega) (by omega)]) dX9_staysWithin_79 ?_
    obtain ⟨z40, hz40⟩ : ∃ z : Int, z = aimN p4.toNat := ⟨_, rfl⟩
    rw [← hz40]
    have qz40 : -1 ≤ z40 ∧ z40 ≤ 1 := by rw [hz40]; exact aimN_bnd _
    refine lv_iload hx hb dX9_staysWithin_80 (lv_at hl 2 rfl) ?_
    have q_41 := mul1 (a := z40) (b := al) (by omega) (by omega)
    refine z_imul hx hb dX9_staysWithin_82 ?_
    refine z_iadd hx hb dX9_staysWithin_83 ?_
    refine lv_aload_n hx hb dX9_staysWithin_84 rfl (lv_at hl 4 rfl) ?_
    refine g_get (C := RX8) (T := TX8) (N := 4) (ci := 7) hx hb hts (fun _ h => (List.mem_cons_of_mem _ (List.mem_append_right _ h))) hown hC.1 hG 1 (by decide) rfl rfl 3 (by decide) (hts (.fieldLink RX9 86 "StraitSwim$Strait" "north" "[I") (List.mem_cons_of_mem _ (List.mem_append_left _ (List.mem_append_left _ (List.mem_of_getElem? (i := 4) rfl))))) (fun _ h9 => h9) rfl dX9_staysWithin_85 ?_
    refine lv_iload hx hb dX9_staysWithin_88 (lv_at hl 1 rfl) ?_
    refine g_iald (n := 36) hx hb hC.1 hG 11 (by decide) rfl (by omega) (by omega) (by decide) dX9_staysWithin_90 ?_
    have q_42 := i11 wn.toNat (by omega)
    refine z_iadd hx hb dX9_staysWithin_91 ?_
    obtain ⟨ny, hny⟩ : ∃ z : Int, z = ((u.2.1 18 p2.toNat) + (z40 * al)) + (u.2.1 11 wn.toNat) := ⟨_, rfl⟩
    rw [← hny]
    refine lv_istore (lv' := [(8, .int (zI ny)), (7, .int (zI nx)), (6, .int (zI wn)), (5, .int (zI al)), (0, .ref (ad 3)), (1, .ref (ad 1)), (2, .int (zI p2)), (3, .int (zI p3)), (4, .int (zI p4))]) hx hb dX9_staysWithin_92 hl (by decide) rfl (fun ls hl => ?_)
    have hX : nx = cX u 17 18 19 p2 p3 p4 := by unfold cX cAl; (repeat (first | rw [if_pos (by omega)] | rw [if_neg (by omega)])); subst_vars; rfl
    have hY : ny = cY u 18 19 p2 p3 p4 := by unfold cY cAl; (repeat (first | rw [if_pos (by omega)] | rw [if_neg (by omega)])); subst_vars; rfl
    have hbX : -1000 ≤ nx ∧ nx ≤ 1000 := by omega
    have hbY : -1000 ≤ ny ∧ ny ≤ 1000 := by omega
    refine lv_iload hx hb dX9_staysWithin_94 (lv_at hl 1 rfl) ?_
    refine lv_iload hx hb dX9_staysWithin_96 (lv_at hl 0 rfl) ?_
    refine g_calli (va_runSN (As := [.int (zI nx), .int (zI ny)]) (rest := []) ⟨hx, hb, hml, hown, hts⟩ (kX11_isPlace l D cy ad jf A u nx ny (by omega) (by omega)) ⟨va_cnB 2 hts gX9_staysWithin_X11_isPlace_n89 rfl rfl rfl hC.2.2.2.1.2.2 (hts (.initialized RX11) (List.mem_cons_of_mem _ (List.mem_append_left _ (List.mem_append_left _ (List.mem_of_getElem? (i := 7) rfl))))) (by decide +kernel) ⟨by decide, by decide⟩, (hts (.static yX11_isPlace) (List.mem_cons_of_mem _ (List.mem_append_left _ (List.mem_append_left _ (List.mem_of_getElem? (i := 9) rfl))))), trivial⟩ (g_preS hG hC hS) rfl rfl hl.1 rfl (lv_room (Nat.le_of_ble_eq_true rfl)) dX9_staysWithin_98 ⟨Nat.le_of_ble_eq_true rfl, Nat.le_of_ble_eq_true rfl⟩) hS (fun r43 u44 H locs p_45 hG hS => ?_)
    obtain ⟨⟨b46, rfl, q_47⟩, he_⟩ := p_45
    rw [he_] at hG; clear he_
    have hbb46 : 0 ≤ b46 ∧ b46 ≤ 1 := by rcases q_47 with ⟨h, _⟩ | ⟨h, _⟩ <;> omega
    refine lv_istore (lv' := [(9, .int (zI b46)), (8, .int (zI ny)), (7, .int (zI nx)), (6, .int (zI wn)), (5, .int (zI al)), (0, .ref (ad 3)), (1, .ref (ad 1)), (2, .int (zI p2)), (3, .int (zI p3)), (4, .int (zI p4))]) hx hb dX9_staysWithin_101 hl (by decide) rfl (fun ls hl => ?_)
    refine lv_aload_n hx hb dX9_staysWithin_103 rfl (lv_at hl 5 rfl) ?_
    refine lv_iload_n hx hb dX9_staysWithin_104 rfl (lv_at hl 7 rfl) ?_
    refine z_iconst hx hb dX9_staysWithin_105 ?_
    refine z_iadd hx hb dX9_staysWithin_106 ?_
    refine g_put (C := RX9) (T := TX9) (N := 9) (ci := 8) (ty := .int) hx hb hts (fun _ h => (List.mem_cons_of_mem _ (List.mem_append_left _ (List.mem_append_right _ h)))) tyX9 tyX9_ok nmX9 hown hC.1 hG hS 3 (by decide) rfl rfl 1 11 (by decide) (hts (.fieldLink RX9 15 "StraitSwim$Swim" "quarters" "I") (List.mem_cons_of_mem _ (List.mem_append_left _ (List.mem_append_left _ (List.mem_of_getElem? (i := 5) rfl))))) (fun _ h9 => h9) rfl (by decide +kernel) rfl rfl (Nat.le_of_ble_eq_true rfl) rfl (gO_11 ad _ _) dX9_staysWithin_107 (fun u48 H locs hu48 hG hS => ?_)
    refine lv_aload_n hx hb dX9_staysWithin_110 rfl (lv_at hl 5 rfl) ?_
    refine g_get (C := RX9) (T := TX9) (N := 9) (ci := 8) hx hb hts (fun _ h => (List.mem_cons_of_mem _ (List.mem_append_left _ (List.mem_append_right _ h)))) hown hC.1 hG 3 (by decide) rfl rfl 3 (by decide) (hts (.fieldLink RX9 21 "StraitSwim$Swim" "xs" "[I") (List.mem_cons_of_mem _ (List.mem_append_left _ (List.mem_append_left _ (List.mem_of_getElem? (i := 2) rfl))))) (fun _ h9 => h9) rfl dX9_staysWithin_111 ?_
    refine lv_aload_n hx hb dX9_staysWithin_114 rfl (lv_at hl 5 rfl) ?_
    refine g_get (C := RX9) (T := TX9) (N := 9) (ci := 8) hx hb hts (fun _ h => (List.mem_cons_of_mem _ (List.mem_append_left _ (List.mem_append_right _ h)))) hown hC.1 hG 3 (by decide) rfl rfl 1 (by decide) (hts (.fieldLink RX9 15 "StraitSwim$Swim" "quarters" "I") (List.mem_cons_of_mem _ (List.mem_append_left _ (List.mem_append_left _ (List.mem_of_getElem? (i := 5) rfl))))) (fun _ h9 => h9) rfl dX9_staysWithin_115 ?_
    have e_49 : u48.1 11 = p2 + 1 := by subst hu48; rfl
    rw [e_49]
    refine lv_iload hx hb dX9_staysWithin_118 (lv_at hl 0 rfl) ?_
    refine z_if_eq (tgt := 128) hx hb dX9_staysWithin_120 (by decide) (by omega) (by omega) (fun c_50 => ?_) (fun c_50 => ?_)
    · refine lv_aload_n hx hb dX9_staysWithin_128 rfl (lv_at hl 5 rfl) ?_
      refine g_get (C := RX9) (T := TX9) (N := 9) (ci := 8) hx hb hts (fun _ h => (List.mem_cons_of_mem _ (List.mem_append_left _ (List.mem_append_right _ h)))) hown hC.1 hG 3 (by decide) rfl rfl 3 (by decide) (hts (.fieldLink RX9 21 "StraitSwim$Swim" "xs" "[I") (List.mem_cons_of_mem _ (List.mem_append_left _ (List.mem_append_left _ (List.mem_of_getElem? (i := 2) rfl))))) (fun _ h9 => h9) rfl dX9_staysWithin_129 ?_
      refine lv_iload_n hx hb dX9_staysWithin_132 rfl (lv_at hl 7 rfl) ?_
      refine g_iald (n := 101) hx hb hC.1 hG 17 (by decide) rfl (by omega) (by omega) (by decide) dX9_staysWithin_133 ?_
      have e_51 : u48.2.1 17 = u.2.1 17 := by subst hu48; rfl
      rw [e_51]
      refine g_iast (n := 101) hx hb hC.1 hG hS 17 (by decide) rfl rfl (by omega) (by omega) (by decide) dX9_staysWithin_134 (fun u52 H locs hu52 hG hS => ?_)
      refine lv_aload_n hx hb dX9_staysWithin_135 rfl (lv_at hl 5 rfl) ?_
      refine g_get (C := RX9) (T := TX9) (N := 9) (ci := 8) hx hb hts (fun _ h => (List.mem_cons_of_mem _ (List.mem_append_left _ (List.mem_append_right _ h)))) hown hC.1 hG 3 (by decide) rfl rfl 4 (by decide) (hts (.fieldLink RX9 25 "StraitSwim$Swim" "ys" "[I") (List.mem_cons_of_mem _ (List.mem_append_left _ (List.mem_append_left _ (List.mem_of_getElem? (i := 1) rfl))))) (fun _ h9 => h9) rfl dX9_staysWithin_136 ?_
      refine lv_aload_n hx hb dX9_staysWithin_139 rfl (lv_at hl 5 rfl) ?_
      refine g_get (C := RX9) (T := TX9) (N := 9) (ci := 8) hx hb hts (fun _ h => (List.mem_cons_of_mem _ (List.mem_append_left _ (List.mem_append_right _ h)))) hown hC.1 hG 3 (by decide) rfl rfl 1 (by decide) (hts (.fieldLink RX9 15 "StraitSwim$Swim" "quarters" "I") (List.mem_cons_of_mem _ (List.mem_append_left _ (List.mem_append_left _ (List.mem_of_getElem? (i := 5) rfl))))) (fun _ h9 => h9) rfl dX9_staysWithin_140 ?_
      have e_53 : u52.1 11 = p2 + 1 := by subst hu52; subst hu48; rfl
      rw [e_53]
      refine lv_iload hx hb dX9_staysWithin_143 (lv_at hl 0 rfl) ?_
      refine z_if_eq (tgt := 153) hx hb dX9_staysWithin_145 (by decide) (by omega) (by omega) (fun c_54 => ?_) (fun c_54 => ?_)
      · refine lv_aload_n hx hb dX9_staysWithin_153 rfl (lv_at hl 5 rfl) ?_
        refine g_get (C := RX9) (T := TX9) (N := 9) (ci := 8) hx hb hts (fun _ h => (List.mem_cons_of_mem _ (List.mem_append_left _ (List.mem_append_right _ h)))) hown hC.1 hG 3 (by decide) rfl rfl 4 (by decide) (hts (.fieldLink RX9 25 "StraitSwim$Swim" "ys" "[I") (List.mem_cons_of_mem _ (List.mem_append_left _ (List.mem_append_left _ (List.mem_of_getElem? (i := 1) rfl))))) (fun _ h9 => h9) rfl dX9_staysWithin_154 ?_
        refine lv_iload_n hx hb dX9_staysWithin_157 rfl (lv_at hl 7 rfl) ?_
        refine g_iald (n := 101) hx hb hC.1 hG 18 (by decide) rfl (by omega) (by omega) (by decide) dX9_staysWithin_158 ?_
        have e_55 : u52.2.1 18 = u.2.1 18 := by subst hu52; subst hu48; rfl
        rw [e_55]
        refine g_iast (n := 101) hx hb hC.1 hG hS 18 (by decide) rfl rfl (by omega) (by omega) (by decide) dX9_staysWithin_159 (fun u56 H locs hu56 hG hS => ?_)
        refine lv_iload hx hb dX9_staysWithin_160 (lv_at hl 0 rfl) ?_
        exact W.zret (ty := .boolean) (v := zI b46) hx hb hr (nar_b (by omega)) (fun t9 ht9_ hW => ⟨⟨zI b46, u56, rfl, (by unfold cStay; rw [← hX, ← hY]; first | (exfalso; omega) | ((first | rw [if_pos (by omega)] | rw [if_neg (by omega)]); unfold cStB; subst hu56; subst hu52; subst hu48; refine ⟨?_, rfl⟩; congr 1 <;> omega)), gB.mk' hG hC hS ht9_ hW⟩, hS.F ht9_⟩) hS.2.2 dX9_staysWithin_162
      · refine lv_iload hx hb dX9_staysWithin_148 (lv_at hl 1 rfl) ?_
        refine lv_goto (tgt := 159) hx hb dX9_staysWithin_150 (by decide) ?_
        refine g_iast (n := 101) hx hb hC.1 hG hS 18 (by decide) rfl rfl (by omega) (by omega) (by decide) dX9_staysWithin_159 (fun u57 H locs hu57 hG hS => ?_)
        refine lv_iload hx hb dX9_staysWithin_160 (lv_at hl 0 rfl) ?_
        exact W.zret (ty := .boolean) (v := zI b46) hx hb hr (nar_b (by omega)) (fun t9 ht9_ hW => ⟨⟨zI b46, u57, rfl, (by unfold cStay; rw [← hX, ← hY]; first | (exfalso; omega) | ((first | rw [if_pos (by omega)] | rw [if_neg (by omega)]); unfold cStB; subst hu57; subst hu52; subst hu48; refine ⟨?_, rfl⟩; congr 1 <;> omega)), gB.mk' hG hC hS ht9_ hW⟩, hS.F ht9_⟩) hS.2.2 dX9_staysWithin_162
    · refine lv_iload hx hb dX9_staysWithin_123 (lv_at hl 2 rfl) ?_
      refine lv_goto (tgt := 134) hx hb dX9_staysWithin_125 (by decide) ?_
      refine g_iast (n := 101) hx hb hC.1 hG hS 17 (by decide) rfl rfl (by omega) (by omega) (by decide) dX9_staysWithin_134 (fun u58 H locs hu58 hG hS => ?_)
      refine lv_aload_n hx hb dX9_staysWithin_135 rfl (lv_at hl 5 rfl) ?_
      refine g_get (C := RX9) (T := TX9) (N := 9) (ci := 8) hx hb hts (fun _ h => (List.mem_cons_of_mem _ (List.mem_append_left _ (List.mem_append_right _ h)))) hown hC.1 hG 3 (by decide) rfl rfl 4 (by decide) (hts (.fieldLink RX9 25 "StraitSwim$Swim" "ys" "[I") (List.mem_cons_of_mem _ (List.mem_append_left _ (List.mem_append_left _ (List.mem_of_getElem? (i := 1) rfl))))) (fun _ h9 => h9) rfl dX9_staysWithin_136 ?_
      refine lv_aload_n hx hb dX9_staysWithin_139 rfl (lv_at hl 5 rfl) ?_
      refine g_get (C := RX9) (T := TX9) (N := 9) (ci := 8) hx hb hts (fun _ h => (List.mem_cons_of_mem _ (List.mem_append_left _ (List.mem_append_right _ h)))) hown hC.1 hG 3 (by decide) rfl rfl 1 (by decide) (hts (.fieldLink RX9 15 "StraitSwim$Swim" "quarters" "I") (List.mem_cons_of_mem _ (List.mem_append_left _ (List.mem_append_left _ (List.mem_of_getElem? (i := 5) rfl))))) (fun _ h9 => h9) rfl dX9_staysWithin_140 ?_
      have e_59 : u58.1 11 = p2 + 1 := by subst hu58; subst hu48; rfl
      rw [e_59]
      refine lv_iload hx hb dX9_staysWithin_143 (lv_at hl 0 rfl) ?_
      refine z_if_eq (tgt := 153) hx hb dX9_staysWithin_145 (by decide) (by omega) (by omega) (fun c_60 => ?_) (fun c_60 => ?_)
      · refine lv_aload_n hx hb dX9_staysWithin_153 rfl (lv_at hl 5 rfl) ?_
        refine g_get (C := RX9) (T := TX9) (N := 9) (ci := 8) hx hb hts (fun _ h => (List.mem_cons_of_mem _ (List.mem_append_left _ (List.mem_append_right _ h)))) hown hC.1 hG 3 (by decide) rfl rfl 4 (by decide) (hts (.fieldLink RX9 25 "StraitSwim$Swim" "ys" "[I") (List.mem_cons_of_mem _ (List.mem_append_left _ (List.mem_append_left _ (List.mem_of_getElem? (i := 1) rfl))))) (fun _ h9 => h9) rfl dX9_staysWithin_154 ?_
        refine lv_iload_n hx hb dX9_staysWithin_157 rfl (lv_at hl 7 rfl) ?_
        refine g_iald (n := 101) hx hb hC.1 hG 18 (by decide) rfl (by omega) (by omega) (by decide) dX9_staysWithin_158 ?_
        have e_61 : u58.2.1 18 = u.2.1 18 := by subst hu58; subst hu48; rfl
        rw [e_61]
        refine g_iast (n := 101) hx hb hC.1 hG hS 18 (by decide) rfl rfl (by omega) (by omega) (by decide) dX9_staysWithin_159 (fun u62 H locs hu62 hG hS => ?_)
        refine lv_iload hx hb dX9_staysWithin_160 (lv_at hl 0 rfl) ?_
        exact W.zret (ty := .boolean) (v := zI b46) hx hb hr (nar_b (by omega)) (fun t9 ht9_ hW => ⟨⟨zI b46, u62, rfl, (by unfold cStay; rw [← hX, ← hY]; first | (exfalso; omega) | ((first | rw [if_pos (by omega)] | rw [if_neg (by omega)]); unfold cStB; subst hu62; subst hu58; subst hu48; refine ⟨?_, rfl⟩; congr 1 <;> omega)), gB.mk' hG hC hS ht9_ hW⟩, hS.F ht9_⟩) hS.2.2 dX9_staysWithin_162
      · refine lv_iload hx hb dX9_staysWithin_148 (lv_at hl 1 rfl) ?_
        refine lv_goto (tgt := 159) hx hb dX9_staysWithin_150 (by decide) ?_
        refine g_iast (n := 101) hx hb hC.1 hG hS 18 (by decide) rfl rfl (by omega) (by omega) (by decide) dX9_staysWithin_159 (fun u63 H locs hu63 hG hS => ?_)
        refine lv_iload hx hb dX9_staysWithin_160 (lv_at hl 0 rfl) ?_
        exact W.zret (ty := .boolean) (v := zI b46) hx hb hr (nar_b (by omega)) (fun t9 ht9_ hW => ⟨⟨zI b46, u63, rfl, (by unfold cStay; rw [← hX, ← hY]; first | (exfalso; omega) | ((first | rw [if_pos (by omega)] | rw [if_neg (by omega)]); unfold cStB; subst hu63; subst hu58; subst hu48; refine ⟨?_, rfl⟩; congr 1 <;> omega)), gB.mk' hG hC hS ht9_ hW⟩, hS.F ht9_⟩) hS.2.2 dX9_staysWithin_162
