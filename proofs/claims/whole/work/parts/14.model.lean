set_option maxHeartbeats 4000000 in
set_option maxRecDepth 100000 in
theorem kX12_apart (l : Launch) (D : va_G) (cy : Nat → ClassId) (ad : Nat → Nat) (jf : Nat → Int64) (A : Nat → Prop) (u : gS) (p1 p2 : Int) (j_1 : -100000 ≤ p1 ∧ p1 ≤ 100000) (j_2 : -100000 ≤ p2 ∧ p2 ≤ 100000) : Met l yX12_apart wsX12_apart ({ frames := 0, cells := 0, slots := 0, locals := 0 }) (va_Pc [.int (zI p1), .int (zI p2)] (gB D cy ad jf A u)) (va_Qi (fun (r : Int32) (v : gS) => r = zI (spApart p1 p2) ∧ v = u) (gB D cy ad jf A) A) 0 0 A := by
  refine Met.ofW (cc := cX12_apart) (maxL := 2) (ret := (some .int)) (by decide) rfl ?_
  intro p e s m args below meth c s₁ B hml hv
  obtain ⟨rfl, hG, hC⟩ := hv
  have hx := B.exec
  have hb := B.bytes
  have hr := B.returns
  have hts := atoms_spec (ws := wsX12_apart) B.pre
  have hown : s.vm.findClass RX12 = some m.cls := findClass_of_methodNamed B.named
  have hlocks := B.notSynchronized
  have hS : va_S A s.heap s.heap [] := va_S.rf
  have hl := lv_entry ([.int (zI p1), .int (zI p2)]) (n := 2) (Nat.le_of_ble_eq_true rfl)
  rw [lg_entry_eq]
  generalize (lg_sl ([.int (zI p1), .int (zI p2)]) ++ List.replicate (2 - (lg_sl ([.int (zI p1), .int (zI p2)])).length) Slot.unset).toArray = ls at hl ⊢
  have hl : lv_has ls 2 [(0, .int (zI p1)), (1, .int (zI p2))] := hl
  refine lv_iload_n hx hb dX12_apart_0 rfl (lv_at hl 0 rfl) ?_
  refine lv_iload_n hx hb dX12_apart_1 rfl (lv_at hl 1 rfl) ?_
  refine z_icmp_le (tgt := 11) hx hb dX12_apart_2 (by decide) (by omega) (by omega) (by omega) (by omega) (fun c_1 => ?_) (fun c_1 => ?_)
  · refine lv_iload_n hx hb dX12_apart_11 rfl (lv_at hl 1 rfl) ?_
    refine lv_iload_n hx hb dX12_apart_12 rfl (lv_at hl 0 rfl) ?_
    refine z_isub hx hb dX12_apart_13 ?_
    exact W.iret (v := zI (p2 - p1)) hx hb hr (fun t9 ht9_ hW => ⟨⟨zI (p2 - p1), u, rfl, (by refine ⟨?_, rfl⟩; unfold spApart; (repeat (first | rw [if_pos (by omega)] | rw [if_neg (by omega)])); all_goals (first | rfl | (congr 1; omega) | (subst_vars; rfl))), gB.mk' hG hC hS ht9_ hW⟩, hS.F ht9_⟩) hS.2.2 dX12_apart_14
  · refine lv_iload_n hx hb dX12_apart_5 rfl (lv_at hl 0 rfl) ?_
    refine lv_iload_n hx hb dX12_apart_6 rfl (lv_at hl 1 rfl) ?_
    refine z_isub hx hb dX12_apart_7 ?_
    refine lv_goto (tgt := 14) hx hb dX12_apart_8 (by decide) ?_
    exact W.iret (v := zI (p1 - p2)) hx hb hr (fun t9 ht9_ hW => ⟨⟨zI (p1 - p2), u, rfl, (by refine ⟨?_, rfl⟩; unfold spApart; (repeat (first | rw [if_pos (by omega)] | rw [if_neg (by omega)])); all_goals (first | rfl | (congr 1; omega) | (subst_vars; rfl))), gB.mk' hG hC hS ht9_ hW⟩, hS.F ht9_⟩) hS.2.2 dX12_apart_14
set_option maxHeartbeats 4000000 in
set_option maxRecDepth 100000 in
theorem kX12_nearFirst (l : Launch) (D : va_G) (cy : Nat → ClassId) (ad : Nat → Nat) (jf : Nat → Int64) (A : Nat → Prop) (u : gS) (p1 : Int) (j_k : 0 ≤ p1 ∧ p1 ≤ 7) (i22 : 1 ≤ u.1 22 ∧ u.1 22 ≤ 60) (i38 : ∀ j, j < 202 → -1000 ≤ u.2.1 38 j ∧ u.2.1 38 j ≤ 1000) (i39 : ∀ j, j < 202 → -1000 ≤ u.2.1 39 j ∧ u.2.1 39 j ≤ 1000) (i40 : ∀ j, j < 2 → 0 ≤ u.2.1 40 j ∧ u.2.1 40 j ≤ 100) (i42 : ∀ j, j < 8 → 0 ≤ u.2.1 42 j ∧ u.2.1 42 j ≤ 239) (i43 : ∀ j, j < 8 → 0 ≤ u.2.1 43 j ∧ u.2.1 43 j ≤ 239) (i44 : ∀ j, j < 8 → -20 ≤ u.2.1 44 j ∧ u.2.1 44 j ≤ 20) (i45 : ∀ j, j < 8 → -20 ≤ u.2.1 45 j ∧ u.2.1 45 j ≤ 20) : Met l yX12_nearFirst wsX12_nearFirst ({ frames := 1, cells := 0, slots := 0, locals := 21 }) (va_Pc [.ref (ad 8), .int (zI p1)] (gB D cy ad jf A u)) (va_Qi (fun (r : Int32) (v : gS) => r = zI (mNr u p1) ∧ v = u) (gB D cy ad jf A) A) 0 0 A := by
  refine Met.ofW (cc := cX12_nearFirst) (maxL := 5) (ret := (some .int)) (by decide) rfl ?_
  intro p e s m args below meth c s₁ B hml hv
  obtain ⟨rfl, hG, hC⟩ := hv
  have hx := B.exec
  have hb := B.bytes
  have hr := B.returns
  have hts := atoms_spec (ws := wsX12_nearFirst) B.pre
  have hown : s.vm.findClass RX12 = some m.cls := findClass_of_methodNamed B.named
  have hlocks := B.notSynchronized
  have hS : va_S A s.heap s.heap [] := va_S.rf
  have hl := lv_entry ([.ref (ad 8), .int (zI p1)]) (n := 5) (Nat.le_of_ble_eq_true rfl)
  rw [lg_entry_eq]
  generalize (lg_sl ([.ref (ad 8), .int (zI p1)]) ++ List.replicate (5 - (lg_sl ([.ref (ad 8), .int (zI p1)])).length) Slot.unset).toArray = ls at hl ⊢
  have hl : lv_has ls 5 [(0, .ref (ad 8)), (1, .int (zI p1))] := hl
  have q40 := i40 0 (by omega)
  refine z_iconst hx hb dX12_nearFirst_0 ?_
  refine lv_istore_n (lv' := [(2, .int (zI 0)), (0, .ref (ad 8)), (1, .int (zI p1))]) hx hb dX12_nearFirst_1 rfl hl (by decide) rfl (fun ls hl => ?_)
  have loop2 : ∀ (n : Nat) (t : Int) (H : Heap) (locs : List Loc) (ls : Array Slot), (u.2.1 40 0 - t).toNat < n → (0 ≤ t ∧ t ≤ 100) → (spNr (u.2.1 38) (u.2.1 39) (u.2.1 40 0) (u.2.1 42 p1.toNat) (u.2.1 43 p1.toNat) (u.2.1 44 p1.toNat) (u.2.1 45 p1.toNat) (u.1 22) 101 0 = spNr (u.2.1 38) (u.2.1 39) (u.2.1 40 0) (u.2.1 42 p1.toNat) (u.2.1 43 p1.toNat) (u.2.1 44 p1.toNat) (u.2.1 45 p1.toNat) (u.1 22) n t) → gH D cy ad jf A u H → va_S A s.heap H locs → lv_has ls 5 [(2, .int (zI t)), (0, .ref (ad 8)), (1, .int (zI p1))] → W p l e (headSpec wsX12_nearFirst ({ frames := 1, cells := 0, slots := 0, locals := 21 })).room s m ([.ref (ad 8), .int (zI p1)]).toArray below meth c H locs 0 0 (MQ below (va_Qi (fun (r : Int32) (v : gS) => r = zI (mNr u p1) ∧ v = u) (gB D cy ad jf A) A) ([.ref (ad 8), .int (zI p1)]).toArray s 0 0 A) (F0 m 2 ls []) := by
    intro n
    induction n with
    | zero => intro t  H locs ls hm; exact absurd hm (Nat.not_lt_zero _)
    | succ n ih2 =>
      intro t  H locs ls hm ht9 hT hG hS hl
      have q40 := i40 0 (by omega)
      refine lv_iload_n hx hb dX12_nearFirst_2 rfl (lv_at hl 0 rfl) ?_
      refine lv_aload_n hx hb dX12_nearFirst_3 rfl (lv_at hl 1 rfl) ?_
      refine g_get (C := RX12) (T := TX12) (N := 42) (ci := 11) hx hb hts (fun _ h => (List.mem_cons_of_mem _ (List.mem_append_right _ h))) hown hC.1 hG 8 (by decide) rfl rfl 13 (by decide) (hts (.fieldLink RX12 45 "StraitSwimModel" "quarters" "[I") (List.mem_cons_of_mem _ (List.mem_append_left _ (List.mem_of_getElem? (i := 0) rfl)))) (fun _ h9 => h9) rfl dX12_nearFirst_4 ?_
      refine z_iconst hx hb dX12_nearFirst_7 ?_
      refine g_iald (n := 2) hx hb hC.1 hG 40 (by decide) rfl (by omega) (by omega) (by decide) dX12_nearFirst_8 ?_
      rw [show Int.toNat 0 = 0 from rfl]
      have q_1 := i40 0 (by omega)
      refine z_icmp_ge (tgt := 96) hx hb dX12_nearFirst_9 (by decide) (by omega) (by omega) (by omega) (by omega) (fun c_2 => ?_) (fun c_2 => ?_)
      · refine z_bipush hx hb dX12_nearFirst_96 (by decide) ?_
        exact W.iret (v := zI ((-4))) hx hb hr (fun t9 ht9_ hW => ⟨⟨zI ((-4)), u, rfl, (by refine ⟨?_, rfl⟩; unfold mNr; rw [hT, spNr]; subst_vars; (repeat (first | rw [if_pos (by omega)] | rw [if_neg (by omega)])); all_goals rfl), gB.mk' hG hC hS ht9_ hW⟩, hS.F ht9_⟩) hS.2.2 dX12_nearFirst_98
      · refine lv_aload_n hx hb dX12_nearFirst_12 rfl (lv_at hl 1 rfl) ?_
        refine g_get (C := RX12) (T := TX12) (N := 42) (ci := 11) hx hb hts (fun _ h => (List.mem_cons_of_mem _ (List.mem_append_right _ h))) hown hC.1 hG 8 (by decide) rfl rfl 17 (by decide) (hts (.fieldLink RX12 54 "StraitSwimModel" "shipX" "[I") (List.mem_cons_of_mem _ (List.mem_append_left _ (List.mem_of_getElem? (i := 1) rfl)))) (fun _ h9 => h9) rfl dX12_nearFirst_13 ?_
        refine lv_iload_n hx hb dX12_nearFirst_16 rfl (lv_at hl 2 rfl) ?_
        refine g_iald (n := 8) hx hb hC.1 hG 42 (by decide) rfl (by omega) (by omega) (by decide) dX12_nearFirst_17 ?_
        have q_3 := i42 p1.toNat (by omega)
        refine lv_iload_n hx hb dX12_nearFirst_18 rfl (lv_at hl 0 rfl) ?_
        refine z_iconst hx hb dX12_nearFirst_19 ?_
        refine z_iadd hx hb dX12_nearFirst_20 ?_
        refine lv_aload_n hx hb dX12_nearFirst_21 rfl (lv_at hl 1 rfl) ?_
        refine g_get (C := RX12) (T := TX12) (N := 42) (ci := 11) hx hb hts (fun _ h => (List.mem_cons_of_mem _ (List.mem_append_right _ h))) hown hC.1 hG 8 (by decide) rfl rfl 19 (by decide) (hts (.fieldLink RX12 60 "StraitSwimModel" "shipEast" "[I") (List.mem_cons_of_mem _ (List.mem_append_left _ (List.mem_of_getElem? (i := 2) rfl)))) (fun _ h9 => h9) rfl dX12_nearFirst_22 ?_
        refine lv_iload_n hx hb dX12_nearFirst_25 rfl (lv_at hl 2 rfl) ?_
        refine g_iald (n := 8) hx hb hC.1 hG 44 (by decide) rfl (by omega) (by omega) (by decide) dX12_nearFirst_26 ?_
        have q_4 := i44 p1.toNat (by omega)
        have q_5 := mul20 (a := t + 1) (b := u.2.1 44 p1.toNat) (by omega) (by omega)
        refine z_imul hx hb dX12_nearFirst_27 ?_
        refine z_iadd hx hb dX12_nearFirst_28 ?_
        refine lv_istore_n (lv' := [(3, .int (zI ((u.2.1 42 p1.toNat) + ((t + 1) * (u.2.1 44 p1.toNat))))), (2, .int (zI t)), (0, .ref (ad 8)), (1, .int (zI p1))]) hx hb dX12_nearFirst_29 rfl hl (by decide) rfl (fun ls hl => ?_)
        refine lv_aload_n hx hb dX12_nearFirst_30 rfl (lv_at hl 2 rfl) ?_
        refine g_get (C := RX12) (T := TX12) (N := 42) (ci := 11) hx hb hts (fun _ h => (List.mem_cons_of_mem _ (List.mem_append_right _ h))) hown hC.1 hG 8 (by decide) rfl rfl 18 (by decide) (hts (.fieldLink RX12 57 "StraitSwimModel" "shipY" "[I") (List.mem_cons_of_mem _ (List.mem_append_left _ (List.mem_of_getElem? (i := 3) rfl)))) (fun _ h9 => h9) rfl dX12_nearFirst_31 ?_
        refine lv_iload_n hx hb dX12_nearFirst_34 rfl (lv_at hl 3 rfl) ?_
        refine g_iald (n := 8) hx hb hC.1 hG 43 (by decide) rfl (by omega) (by omega) (by decide) dX12_nearFirst_35 ?_
        have q_6 := i43 p1.toNat (by omega)
        refine lv_iload_n hx hb dX12_nearFirst_36 rfl (lv_at hl 1 rfl) ?_
        refine z_iconst hx hb dX12_nearFirst_37 ?_
        refine z_iadd hx hb dX12_nearFirst_38 ?_
        refine lv_aload_n hx hb dX12_nearFirst_39 rfl (lv_at hl 2 rfl) ?_
        refine g_get (C := RX12) (T := TX12) (N := 42) (ci := 11) hx hb hts (fun _ h => (List.mem_cons_of_mem _ (List.mem_append_right _ h))) hown hC.1 hG 8 (by decide) rfl rfl 20 (by decide) (hts (.fieldLink RX12 63 "StraitSwimModel" "shipNorth" "[I") (List.mem_cons_of_mem _ (List.mem_append_left _ (List.mem_of_getElem? (i := 4) rfl)))) (fun _ h9 => h9) rfl dX12_nearFirst_40 ?_
        refine lv_iload_n hx hb dX12_nearFirst_43 rfl (lv_at hl 3 rfl) ?_
        refine g_iald (n := 8) hx hb hC.1 hG 45 (by decide) rfl (by omega) (by omega) (by decide) dX12_nearFirst_44 ?_
        have q_7 := i45 p1.toNat (by omega)
        have q_8 := mul20 (a := t + 1) (b := u.2.1 45 p1.toNat) (by omega) (by omega)
        refine z_imul hx hb dX12_nearFirst_45 ?_
        refine z_iadd hx hb dX12_nearFirst_46 ?_
        refine lv_istore (lv' := [(4, .int (zI ((u.2.1 43 p1.toNat) + ((t + 1) * (u.2.1 45 p1.toNat))))), (3, .int (zI ((u.2.1 42 p1.toNat) + ((t + 1) * (u.2.1 44 p1.toNat))))), (2, .int (zI t)), (0, .ref (ad 8)), (1, .int (zI p1))]) hx hb dX12_nearFirst_47 hl (by decide) rfl (fun ls hl => ?_)
        refine lv_iload_n hx hb dX12_nearFirst_49 rfl (lv_at hl 1 rfl) ?_
        refine lv_aload_n hx hb dX12_nearFirst_50 rfl (lv_at hl 3 rfl) ?_
        refine g_get (C := RX12) (T := TX12) (N := 42) (ci := 11) hx hb hts (fun _ h => (List.mem_cons_of_mem _ (List.mem_append_right _ h))) hown hC.1 hG 8 (by decide) rfl rfl 11 (by decide) (hts (.fieldLink RX12 39 "StraitSwimModel" "pathX" "[I") (List.mem_cons_of_mem _ (List.mem_append_left _ (List.mem_of_getElem? (i := 5) rfl)))) (fun _ h9 => h9) rfl dX12_nearFirst_51 ?_
        refine lv_iload_n hx hb dX12_nearFirst_54 rfl (lv_at hl 2 rfl) ?_
        refine z_iconst hx hb dX12_nearFirst_55 ?_
        refine z_iadd hx hb dX12_nearFirst_56 ?_
        refine g_iald (n := 202) hx hb hC.1 hG 38 (by decide) rfl (by omega) (by omega) (by decide) dX12_nearFirst_57 ?_
        have q_9 := i38 (t + 1).toNat (by omega)
        refine g_calli (va_runS (As := [.int (zI ((u.2.1 42 p1.toNat) + ((t + 1) * (u.2.1 44 p1.toNat)))), .int (zI (u.2.1 38 (t + 1).toNat))]) (rest := []) ⟨hx, hb, hml, hown, hts⟩ (kX12_apart l D cy ad jf A u ((u.2.1 42 p1.toNat) + ((t + 1) * (u.2.1 44 p1.toNat))) (u.2.1 38 (t + 1).toNat) (by omega) (by omega)) (va_cwS 2 hts gX12_nearFirst_X12_apart rfl rfl rfl (by decide +kernel) ⟨by decide, by decide⟩) (g_preS hG hC hS) rfl rfl hl.1 rfl (lv_room (Nat.le_of_ble_eq_true rfl)) dX12_nearFirst_58 ⟨Nat.le_of_ble_eq_true rfl, Nat.le_of_ble_eq_true rfl⟩) hS (fun r10 u11 H locs p_12 hG hS => ?_)
        obtain ⟨rfl, he_⟩ := p_12
        rw [he_] at hG; clear he_
        obtain ⟨z13, hz13⟩ : ∃ z : Int, z = spApart ((u.2.1 42 p1.toNat) + ((t + 1) * (u.2.1 44 p1.toNat))) (u.2.1 38 (t + 1).toNat) := ⟨_, rfl⟩
        rw [← hz13]
        have qz13 : 0 ≤ z13 ∧ z13 ≤ 200000 := by rw [hz13]; unfold spApart; split <;> omega
        refine lv_aload_n hx hb dX12_nearFirst_61 rfl (lv_at hl 3 rfl) ?_
        refine g_get (C := RX12) (T := TX12) (N := 42) (ci := 11) hx hb hts (fun _ h => (List.mem_cons_of_mem _ (List.mem_append_right _ h))) hown hC.1 hG 8 (by decide) rfl rfl 5 (by decide) (hts (.fieldLink RX12 24 "StraitSwimModel" "nearness" "I") (List.mem_cons_of_mem _ (List.mem_append_left _ (List.mem_of_getElem? (i := 6) rfl)))) (fun _ h9 => h9) rfl dX12_nearFirst_62 ?_
        refine z_icmp_ge (tgt := 90) hx hb dX12_nearFirst_65 (by decide) (by omega) (by omega) (by omega) (by omega) (fun c_14 => ?_) (fun c_14 => ?_)
        · refine z_iinc (lv' := [(2, .int (zI (t + 1))), (4, .int (zI ((u.2.1 43 p1.toNat) + ((t + 1) * (u.2.1 45 p1.toNat))))), (3, .int (zI ((u.2.1 42 p1.toNat) + ((t + 1) * (u.2.1 44 p1.toNat))))), (0, .ref (ad 8)), (1, .int (zI p1))]) hx hb dX12_nearFirst_90 hl (k := 2) rfl (by decide) rfl (fun ls hl => ?_)
          refine lv_goto (tgt := 2) hx hb dX12_nearFirst_93 (by decide) ?_
          exact ih2 (t + 1) _ _ _ (by omega) (by omega) (by rw [hT, spNr]; subst_vars; (repeat (first | rw [if_pos (by omega)] | rw [if_neg (by omega)]))) hG hS (lv_sub hl [0, 3, 4] rfl)
        · refine lv_iload hx hb dX12_nearFirst_68 (lv_at hl 0 rfl) ?_
          refine lv_aload_n hx hb dX12_nearFirst_70 rfl (lv_at hl 3 rfl) ?_
          refine g_get (C := RX12) (T := TX12) (N := 42) (ci := 11) hx hb hts (fun _ h => (List.mem_cons_of_mem _ (List.mem_append_right _ h))) hown hC.1 hG 8 (by decide) rfl rfl 12 (by decide) (hts (.fieldLink RX12 42 "StraitSwimModel" "pathY" "[I") (List.mem_cons_of_mem _ (List.mem_append_left _ (List.mem_of_getElem? (i := 7) rfl)))) (fun _ h9 => h9) rfl dX12_nearFirst_71 ?_
          refine lv_iload_n hx hb dX12_nearFirst_74 rfl (lv_at hl 2 rfl) ?_
          refine z_iconst hx hb dX12_nearFirst_75 ?_
          refine z_iadd hx hb dX12_nearFirst_76 ?_
          refine g_iald (n := 202) hx hb hC.1 hG 39 (by decide) rfl (by omega) (by omega) (by decide) dX12_nearFirst_77 ?_
          have q_15 := i39 (t + 1).toNat (by omega)
          refine g_calli (va_runS (As := [.int (zI ((u.2.1 43 p1.toNat) + ((t + 1) * (u.2.1 45 p1.toNat)))), .int (zI (u.2.1 39 (t + 1).toNat))]) (rest := []) ⟨hx, hb, hml, hown, hts⟩ (kX12_apart l D cy ad jf A u ((u.2.1 43 p1.toNat) + ((t + 1) * (u.2.1 45 p1.toNat))) (u.2.1 39 (t + 1).toNat) (by omega) (by omega)) (va_cwS 2 hts gX12_nearFirst_X12_apart rfl rfl rfl (by decide +kernel) ⟨by decide, by decide⟩) (g_preS hG hC hS) rfl rfl hl.1 rfl (lv_room (Nat.le_of_ble_eq_true rfl)) dX12_nearFirst_78 ⟨Nat.le_of_ble_eq_true rfl, Nat.le_of_ble_eq_true rfl⟩) hS (fun r16 u17 H locs p_18 hG hS => ?_)
          obtain ⟨rfl, he_⟩ := p_18
          rw [he_] at hG; clear he_
          obtain ⟨z19, hz19⟩ : ∃ z : Int, z = spApart ((u.2.1 43 p1.toNat) + ((t + 1) * (u.2.1 45 p1.toNat))) (u.2.1 39 (t + 1).toNat) := ⟨_, rfl⟩
          rw [← hz19]
          have qz19 : 0 ≤ z19 ∧ z19 ≤ 200000 := by rw [hz19]; unfold spApart; split <;> omega
          refine lv_aload_n hx hb dX12_nearFirst_81 rfl (lv_at hl 3 rfl) ?_
          refine g_get (C := RX12) (T := TX12) (N := 42) (ci := 11) hx hb hts (fun _ h => (List.mem_cons_of_mem _ (List.mem_append_right _ h))) hown hC.1 hG 8 (by decide) rfl rfl 5 (by decide) (hts (.fieldLink RX12 24 "StraitSwimModel" "nearness" "I") (List.mem_cons_of_mem _ (List.mem_append_left _ (List.mem_of_getElem? (i := 6) rfl)))) (fun _ h9 => h9) rfl dX12_nearFirst_82 ?_
          refine z_icmp_ge (tgt := 90) hx hb dX12_nearFirst_85 (by decide) (by omega) (by omega) (by omega) (by omega) (fun c_20 => ?_) (fun c_20 => ?_)
          · refine z_iinc (lv' := [(2, .int (zI (t + 1))), (4, .int (zI ((u.2.1 43 p1.toNat) + ((t + 1) * (u.2.1 45 p1.toNat))))), (3, .int (zI ((u.2.1 42 p1.toNat) + ((t + 1) * (u.2.1 44 p1.toNat))))), (0, .ref (ad 8)), (1, .int (zI p1))]) hx hb dX12_nearFirst_90 hl (k := 2) rfl (by decide) rfl (fun ls hl => ?_)
            refine lv_goto (tgt := 2) hx hb dX12_nearFirst_93 (by decide) ?_
            exact ih2 (t + 1) _ _ _ (by omega) (by omega) (by rw [hT, spNr]; subst_vars; (repeat (first | rw [if_pos (by omega)] | rw [if_neg (by omega)]))) hG hS (lv_sub hl [0, 3, 4] rfl)
          · refine lv_iload_n hx hb dX12_nearFirst_88 rfl (lv_at hl 2 rfl) ?_
            exact W.iret (v := zI t) hx hb hr (fun t9 ht9_ hW => ⟨⟨zI t, u, rfl, (by refine ⟨?_, rfl⟩; unfold mNr; rw [hT, spNr]; subst_vars; (repeat (first | rw [if_pos (by omega)] | rw [if_neg (by omega)])); all_goals rfl), gB.mk' hG hC hS ht9_ hW⟩, hS.F ht9_⟩) hS.2.2 dX12_nearFirst_89
  exact loop2 101 0 _ _ _ (by omega) (by omega) (by rfl) hG hS (lv_sub hl [0, 1, 2] rfl)
set_option maxHeartbeats 4000000 in
set_option maxRecDepth 100000 in
theorem kX12_near (l : Launch) (D : va_G) (cy : Nat → ClassId) (ad : Nat → Nat) (jf : Nat → Int64) (A : Nat → Prop) (u : gS) (p1 : Int) (j_p1 : -2147483648 ≤ p1 ∧ p1 < 2147483648) (i22 : 1 ≤ u.1 22 ∧ u.1 22 ≤ 60) (i24 : -1 ≤ u.1 24 ∧ u.1 24 ≤ 9) (i25 : 0 ≤ u.1 25 ∧ u.1 25 ≤ 8) (i38 : ∀ j, j < 202 → -1000 ≤ u.2.1 38 j ∧ u.2.1 38 j ≤ 1000) (i39 : ∀ j, j < 202 → -1000 ≤ u.2.1 39 j ∧ u.2.1 39 j ≤ 1000) (i40 : ∀ j, j < 2 → 0 ≤ u.2.1 40 j ∧ u.2.1 40 j ≤ 100) (i42 : ∀ j, j < 8 → 0 ≤ u.2.1 42 j ∧ u.2.1 42 j ≤ 239) (i43 : ∀ j, j < 8 → 0 ≤ u.2.1 43 j ∧ u.2.1 43 j ≤ 239) (i44 : ∀ j, j < 8 → -20 ≤ u.2.1 44 j ∧ u.2.1 44 j ≤ 20) (i45 : ∀ j, j < 8 → -20 ≤ u.2.1 45 j ∧ u.2.1 45 j ≤ 20) : Met l yX12_near wsX12_near ({ frames := 2, cells := 0, slots := 0, locals := 45 }) (va_Pc [.ref (ad 8), .int (zI p1)] (gB D cy ad jf A u)) (va_Qi (fun (r : Int32) (v : gS) => r = zI (mNear u p1) ∧ v = u) (gB D cy ad jf A) A) 0 0 A := by
  refine Met.ofW (cc := cX12_near) (maxL := 2) (ret := (some .int)) (by decide) rfl ?_
  intro p e s m args below meth c s₁ B hml hv
  obtain ⟨rfl, hG, hC⟩ := hv
  have hx := B.exec
  have hb := B.bytes
  have hr := B.returns
  have hts := atoms_spec (ws := wsX12_near) B.pre
  have hown : s.vm.findClass RX12 = some m.cls := findClass_of_methodNamed B.named
  have hlocks := B.notSynchronized
  have hS : va_S A s.heap s.heap [] := va_S.rf
  have hl := lv_entry ([.ref (ad 8), .int (zI p1)]) (n := 2) (Nat.le_of_ble_eq_true rfl)
  rw [lg_entry_eq]
  generalize (lg_sl ([.ref (ad 8), .int (zI p1)]) ++ List.replicate (2 - (lg_sl ([.ref (ad 8), .int (zI p1)])).length) Slot.unset).toArray = ls at hl ⊢
  have hl : lv_has ls 2 [(0, .ref (ad 8)), (1, .int (zI p1))] := hl
  refine lv_iload_n hx hb dX12_near_0 rfl (lv_at hl 1 rfl) ?_
  refine z_iconst hx hb dX12_near_1 ?_
  refine lv_aload_n hx hb dX12_near_2 rfl (lv_at hl 0 rfl) ?_
  refine g_get (C := RX12) (T := TX12) (N := 42) (ci := 11) hx hb hts (fun _ h => (List.mem_cons_of_mem _ (List.mem_append_right _ h))) hown hC.1 hG 8 (by decide) rfl rfl 16 (by decide) (hts (.fieldLink RX12 168 "StraitSwimModel" "ships" "I") (List.mem_cons_of_mem _ (List.mem_append_left _ (List.mem_of_getElem? (i := 0) rfl)))) (fun _ h9 => h9) rfl dX12_near_3 ?_
  refine z_iconst hx hb dX12_near_6 ?_
  refine z_isub hx hb dX12_near_7 ?_
  refine g_calli (va_runS (As := [.int (zI p1), .int (zI 0), .int (zI ((u.1 25) - 1))]) (rest := []) ⟨hx, hb, hml, hown, hts⟩ (kX12_in l D cy ad jf A u p1 0 ((u.1 25) - 1) (by omega) (by omega) (by omega)) (va_cwS 3 hts gX12_near_X12_in rfl rfl rfl (by decide +kernel) ⟨by decide, by decide⟩) (g_preS hG hC hS) rfl rfl hl.1 rfl (lv_room (Nat.le_of_ble_eq_true rfl)) dX12_near_8 ⟨Nat.le_of_ble_eq_true rfl, Nat.le_of_ble_eq_true rfl⟩) hS (fun r1 u2 H locs p_3 hG hS => ?_)
  obtain ⟨⟨b4, rfl, q_5⟩, he_⟩ := p_3
  rw [he_] at hG; clear he_
  have hbb4 : 0 ≤ b4 ∧ b4 ≤ 1 := by rcases q_5 with ⟨h, _⟩ | ⟨h, _⟩ <;> omega
  refine z_if_ne (tgt := 16) hx hb dX12_near_11 (by decide) (by omega) (by omega) (fun c_6 => ?_) (fun c_6 => ?_)
  · refine lv_aload_n hx hb dX12_near_16 rfl (lv_at hl 0 rfl) ?_
    refine g_get (C := RX12) (T := TX12) (N := 42) (ci := 11) hx hb hts (fun _ h => (List.mem_cons_of_mem _ (List.mem_append_right _ h))) hown hC.1 hG 8 (by decide) rfl rfl 15 (by decide) (hts (.fieldLink RX12 51 "StraitSwimModel" "lastSwimmer" "I") (List.mem_cons_of_mem _ (List.mem_append_left _ (List.mem_of_getElem? (i := 1) rfl)))) (fun _ h9 => h9) rfl dX12_near_17 ?_
    refine z_iconst hx hb dX12_near_20 ?_
    refine z_icmp_ne (tgt := 29) hx hb dX12_near_21 (by decide) (by omega) (by omega) (by omega) (by omega) (fun c_7 => ?_) (fun c_7 => ?_)
    · refine lv_aload_n hx hb dX12_near_29 rfl (lv_at hl 0 rfl) ?_
      refine lv_iload_n hx hb dX12_near_30 rfl (lv_at hl 1 rfl) ?_
      refine g_calli (va_runV (As := [.int (zI p1)]) (rest := []) ⟨hx, hb, hml, hown, hts⟩ (kX12_nearFirst l D cy ad jf A u p1 (by omega) i22 i38 i39 i40 i42 i43 i44 i45) (cwV 1 hts gX12_near_X12_nearFirst rfl rfl rfl (by decide +kernel) ⟨by decide, by decide⟩) (g_preV (C := RX12) hG hC hS 8 (by decide) rfl rfl) rfl rfl hl.1 rfl (lv_room (Nat.le_of_ble_eq_true rfl)) dX12_near_31 ⟨Nat.le_of_ble_eq_true rfl, Nat.le_of_ble_eq_true rfl⟩) hS (fun r8 u9 H locs p_10 hG hS => ?_)
      obtain ⟨rfl, he_⟩ := p_10
      rw [he_] at hG; clear he_
      obtain ⟨z11, hz11⟩ : ∃ z : Int, z = mNr u p1 := ⟨_, rfl⟩
      rw [← hz11]
      have qz11 : -4 ≤ z11 ∧ z11 ≤ 100 := by rw [hz11]; have := i40 0 (by omega); exact spNr_bnd _ _ _ _ _ _ _ _ (by omega) _ _ (by omega)
      exact W.iret (v := zI z11) hx hb hr (fun t9 ht9_ hW => ⟨⟨zI z11, u, rfl, (by refine ⟨?_, rfl⟩; unfold mNear; (repeat (first | rw [if_pos (by omega)] | rw [if_neg (by omega)])); all_goals (first | rfl | (congr 1; omega) | (subst_vars; rfl))), gB.mk' hG hC hS ht9_ hW⟩, hS.F ht9_⟩) hS.2.2 dX12_near_34
    · refine z_bipush hx hb dX12_near_24 (by decide) ?_
      refine lv_goto (tgt := 34) hx hb dX12_near_26 (by decide) ?_
      exact W.iret (v := zI ((-3))) hx hb hr (fun t9 ht9_ hW => ⟨⟨zI ((-3)), u, rfl, (by refine ⟨?_, rfl⟩; unfold mNear; (repeat (first | rw [if_pos (by omega)] | rw [if_neg (by omega)])); all_goals (first | rfl | (congr 1; omega) | (subst_vars; rfl))), gB.mk' hG hC hS ht9_ hW⟩, hS.F ht9_⟩) hS.2.2 dX12_near_34
  · refine z_iconst hx hb dX12_near_14 ?_
    exact W.iret (v := zI ((-1))) hx hb hr (fun t9 ht9_ hW => ⟨⟨zI ((-1)), u, rfl, (by refine ⟨?_, rfl⟩; unfold mNear; (repeat (first | rw [if_pos (by omega)] | rw [if_neg (by omega)])); all_goals (first | rfl | (congr 1; omega) | (subst_vars; rfl))), gB.mk' hG hC hS ht9_ hW⟩, hS.F ht9_⟩) hS.2.2 dX12_near_15
set_option maxHeartbeats 4000000 in
set_option maxRecDepth 100000 in
theorem kX12_lanes (l : Launch) (D : va_G) (cy : Nat → ClassId) (ad : Nat → Nat) (jf : Nat → Int64) (A : Nat → Prop) (u : gS) (i22 : 1 ≤ u.1 22 ∧ u.1 22 ≤ 60) (i24 : -1 ≤ u.1 24 ∧ u.1 24 ≤ 9) (i25 : 0 ≤ u.1 25 ∧ u.1 25 ≤ 8) (i38 : ∀ j, j < 202 → -1000 ≤ u.2.1 38 j ∧ u.2.1 38 j ≤ 1000) (i39 : ∀ j, j < 202 → -1000 ≤ u.2.1 39 j ∧ u.2.1 39 j ≤ 1000) (i40 : ∀ j, j < 2 → 0 ≤ u.2.1 40 j ∧ u.2.1 40 j ≤ 100) (i42 : ∀ j, j < 8 → 0 ≤ u.2.1 42 j ∧ u.2.1 42 j ≤ 239) (i43 : ∀ j, j < 8 → 0 ≤ u.2.1 43 j ∧ u.2.1 43 j ≤ 239) (i44 : ∀ j, j < 8 → -20 ≤ u.2.1 44 j ∧ u.2.1 44 j ≤ 20) (i45 : ∀ j, j < 8 → -20 ≤ u.2.1 45 j ∧ u.2.1 45 j ≤ 20) : Met l yX12_lanes wsX12_lanes ({ frames := 2, cells := 0, slots := 0, locals := 45 }) (va_Pc [.ref (ad 8)] (gB D cy ad jf A u)) (va_Qi (fun (r : Int32) (v : gS) => r = zI (mLanes u) ∧ v = u) (gB D cy ad jf A) A) 0 0 A := by
  refine Met.ofW (cc := cX12_lanes) (maxL := 3) (ret := (some .int)) (by decide) rfl ?_
  intro p e s m args below meth c s₁ B hml hv
  obtain ⟨rfl, hG, hC⟩ := hv
  have hx := B.exec
  have hb := B.bytes
  have hr := B.returns
  have hts := atoms_spec (ws := wsX12_lanes) B.pre
  have hown : s.vm.findClass RX12 = some m.cls := findClass_of_methodNamed B.named
  have hlocks := B.notSynchronized
  have hS : va_S A s.heap s.heap [] := va_S.rf
  have hl := lv_entry ([.ref (ad 8)]) (n := 3) (Nat.le_of_ble_eq_true rfl)
  rw [lg_entry_eq]
  generalize (lg_sl ([.ref (ad 8)]) ++ List.replicate (3 - (lg_sl ([.ref (ad 8)])).length) Slot.unset).toArray = ls at hl ⊢
  have hl : lv_has ls 3 [(0, .ref (ad 8))] := hl
  refine lv_aload_n hx hb dX12_lanes_0 rfl (lv_at hl 0 rfl) ?_
  refine g_get (C := RX12) (T := TX12) (N := 42) (ci := 11) hx hb hts (fun _ h => (List.mem_cons_of_mem _ (List.mem_append_right _ h))) hown hC.1 hG 8 (by decide) rfl rfl 15 (by decide) (hts (.fieldLink RX12 51 "StraitSwimModel" "lastSwimmer" "I") (List.mem_cons_of_mem _ (List.mem_append_left _ (List.mem_of_getElem? (i := 0) rfl)))) (fun _ h9 => h9) rfl dX12_lanes_1 ?_
  refine z_iconst hx hb dX12_lanes_4 ?_
  refine z_icmp_ne (tgt := 11) hx hb dX12_lanes_5 (by decide) (by omega) (by omega) (by omega) (by omega) (fun c_1 => ?_) (fun c_1 => ?_)
  · refine z_iconst hx hb dX12_lanes_11 ?_
    refine lv_istore_n (lv' := [(1, .int (zI 0)), (0, .ref (ad 8))]) hx hb dX12_lanes_12 rfl hl (by decide) rfl (fun ls hl => ?_)
    refine z_iconst hx hb dX12_lanes_13 ?_
    refine lv_istore_n (lv' := [(2, .int (zI 0)), (1, .int (zI 0)), (0, .ref (ad 8))]) hx hb dX12_lanes_14 rfl hl (by decide) rfl (fun ls hl => ?_)
    have loop15 : ∀ (n : Nat) (k b : Int) (H : Heap) (locs : List Loc) (ls : Array Slot), (u.1 25 - k).toNat < n → (0 ≤ k ∧ k ≤ 8) → (mLanL u 9 0 0 = mLanL u n k b) → gH D cy ad jf A u H → va_S A s.heap H locs → lv_has ls 3 [(2, .int (zI k)), (1, .int (zI b)), (0, .ref (ad 8))] → W p l e (headSpec wsX12_lanes ({ frames := 2, cells := 0, slots := 0, locals := 45 })).room s m ([.ref (ad 8)]).toArray below meth c H locs 0 0 (MQ below (va_Qi (fun (r : Int32) (v : gS) => r = zI (mLanes u) ∧ v = u) (gB D cy ad jf A) A) ([.ref (ad 8)]).toArray s 0 0 A) (F0 m 15 ls []) := by
      intro n
      induction n with
      | zero => intro k b  H locs ls hm; exact absurd hm (Nat.not_lt_zero _)
      | succ n ih15 =>
        intro k b  H locs ls hm hk9 hT hG hS hl
        refine lv_iload_n hx hb dX12_lanes_15 rfl (lv_at hl 0 rfl) ?_
        refine lv_aload_n hx hb dX12_lanes_16 rfl (lv_at hl 2 rfl) ?_
        refine g_get (C := RX12) (T := TX12) (N := 42) (ci := 11) hx hb hts (fun _ h => (List.mem_cons_of_mem _ (List.mem_append_right _ h))) hown hC.1 hG 8 (by decide) rfl rfl 16 (by decide) (hts (.fieldLink RX12 168 "StraitSwimModel" "ships" "I") (List.mem_cons_of_mem _ (List.mem_append_left _ (List.mem_of_getElem? (i := 1) rfl)))) (fun _ h9 => h9) rfl dX12_lanes_17 ?_
        refine z_icmp_ge (tgt := 49) hx hb dX12_lanes_20 (by decide) (by omega) (by omega) (by omega) (by omega) (fun c_2 => ?_) (fun c_2 => ?_)
        · refine lv_iload_n hx hb dX12_lanes_49 rfl (lv_at hl 1 rfl) ?_
          exact W.iret (v := zI b) hx hb hr (fun t9 ht9_ hW => ⟨⟨zI b, u, rfl, (by refine ⟨?_, rfl⟩; unfold mLanes; (repeat (first | rw [if_pos (by omega)] | rw [if_neg (by omega)])); all_goals (rw [hT, mLanL]; (repeat (first | rw [if_pos (by omega)] | rw [if_neg (by omega)])); all_goals rfl)), gB.mk' hG hC hS ht9_ hW⟩, hS.F ht9_⟩) hS.2.2 dX12_lanes_50
        · refine lv_iload_n hx hb dX12_lanes_23 rfl (lv_at hl 1 rfl) ?_
          refine lv_aload_n hx hb dX12_lanes_24 rfl (lv_at hl 2 rfl) ?_
          refine lv_iload_n hx hb dX12_lanes_25 rfl (lv_at hl 0 rfl) ?_
          refine g_calli (va_runV (As := [.int (zI k)]) (rest := [.int (zI b)]) ⟨hx, hb, hml, hown, hts⟩ (kX12_nearFirst l D cy ad jf A u k (by omega) i22 i38 i39 i40 i42 i43 i44 i45) (cwV 1 hts gX12_lanes_X12_nearFirst rfl rfl rfl (by decide +kernel) ⟨by decide, by decide⟩) (g_preV (C := RX12) hG hC hS 8 (by decide) rfl rfl) rfl rfl hl.1 rfl (lv_room (Nat.le_of_ble_eq_true rfl)) dX12_lanes_26 ⟨Nat.le_of_ble_eq_true rfl, Nat.le_of_ble_eq_true rfl⟩) hS (fun r3 u4 H locs p_5 hG hS => ?_)
          obtain ⟨rfl, he_⟩ := p_5
          rw [he_] at hG; clear he_
          obtain ⟨z6, hz6⟩ : ∃ z : Int, z = mNr u k := ⟨_, rfl⟩
          rw [← hz6]
          have qz6 : -4 ≤ z6 ∧ z6 ≤ 100 := by rw [hz6]; have := i40 0 (by omega); exact spNr_bnd _ _ _ _ _ _ _ _ (by omega) _ _ (by omega)
          refine z_bipush hx hb dX12_lanes_29 (by decide) ?_
          refine z_icmp_eq (tgt := 40) hx hb dX12_lanes_31 (by decide) (by omega) (by omega) (by omega) (by omega) (fun c_7 => ?_) (fun c_7 => ?_)
          · refine z_iconst hx hb dX12_lanes_40 ?_
            have q_8 := bOr_bnd b 0
            refine z_ior hx hb dX12_lanes_41 ?_
            refine lv_istore_n (lv' := [(1, .int (zI (bOr b 0))), (2, .int (zI k)), (0, .ref (ad 8))]) hx hb dX12_lanes_42 rfl hl (by decide) rfl (fun ls hl => ?_)
            refine z_iinc (lv' := [(2, .int (zI (k + 1))), (1, .int (zI (bOr b 0))), (0, .ref (ad 8))]) hx hb dX12_lanes_43 hl (k := 1) rfl (by decide) rfl (fun ls hl => ?_)
            refine lv_goto (tgt := 15) hx hb dX12_lanes_46 (by decide) ?_
            exact ih15 (k + 1) (bOr b 0) _ _ _ (by omega) (by omega) (by rw [hT, mLanL]; subst_vars; (repeat (first | rw [if_pos (by omega)] | rw [if_neg (by omega)]))) hG hS (lv_sub hl [0, 1, 2] rfl)
          · refine z_iconst hx hb dX12_lanes_34 ?_
            refine lv_iload_n hx hb dX12_lanes_35 rfl (lv_at hl 0 rfl) ?_
            have q_9 := bShl_bnd 1 k
            refine z_ishl hx hb dX12_lanes_36 ?_
            refine lv_goto (tgt := 41) hx hb dX12_lanes_37 (by decide) ?_
            have q_10 := bOr_bnd b (bShl 1 k)
            refine z_ior hx hb dX12_lanes_41 ?_
            refine lv_istore_n (lv' := [(1, .int (zI (bOr b (bShl 1 k)))), (2, .int (zI k)), (0, .ref (ad 8))]) hx hb dX12_lanes_42 rfl hl (by decide) rfl (fun ls hl => ?_)
            refine z_iinc (lv' := [(2, .int (zI (k + 1))), (1, .int (zI (bOr b (bShl 1 k)))), (0, .ref (ad 8))]) hx hb dX12_lanes_43 hl (k := 1) rfl (by decide) rfl (fun ls hl => ?_)
            refine lv_goto (tgt := 15) hx hb dX12_lanes_46 (by decide) ?_
            exact ih15 (k + 1) (bOr b (bShl 1 k)) _ _ _ (by omega) (by omega) (by rw [hT, mLanL]; subst_vars; (repeat (first | rw [if_pos (by omega)] | rw [if_neg (by omega)]))) hG hS (lv_sub hl [0, 1, 2] rfl)
    exact loop15 9 0 0 _ _ _ (by omega) (by omega) (by rfl) hG hS (lv_sub hl [0, 1, 2] rfl)
  · refine z_bipush hx hb dX12_lanes_8 (by decide) ?_
    exact W.iret (v := zI ((-3))) hx hb hr (fun t9 ht9_ hW => ⟨⟨zI ((-3)), u, rfl, (by refine ⟨?_, rfl⟩; unfold mLanes; (repeat (first | rw [if_pos (by omega)] | rw [if_neg (by omega)])); all_goals rfl), gB.mk' hG hC hS ht9_ hW⟩, hS.F ht9_⟩) hS.2.2 dX12_lanes_10
set_option maxHeartbeats 4000000 in
set_option maxRecDepth 100000 in
theorem kX12_count (l : Launch) (D : va_G) (cy : Nat → ClassId) (ad : Nat → Nat) (jf : Nat → Int64) (A : Nat → Prop) (u : gS) (p1 : Int) (j_p1 : -2147483648 ≤ p1 ∧ p1 < 2147483648) (i23 : 0 ≤ u.1 23 ∧ u.1 23 ≤ 10) (hd : ∀ j, j < 288 → u.2.1 31 j = 0 ∨ u.2.1 31 j = 1) (i49 : ∀ j, j < 16 → u.2.1 49 j = 0 ∨ u.2.1 49 j = 1) : Met l yX12_count wsX12_count ({ frames := 0, cells := 0, slots := 0, locals := 0 }) (va_Pc [.ref (ad 8), .int (zI p1)] (gB D cy ad jf A u)) (va_Qi (fun (r : Int32) (v : gS) => r = zI (mCount u p1) ∧ v = u) (gB D cy ad jf A) A) 0 0 A := by
  refine Met.ofW (cc := cX12_count) (maxL := 4) (ret := (some .int)) (by decide) rfl ?_
  intro p e s m args below meth c s₁ B hml hv
  obtain ⟨rfl, hG, hC⟩ := hv
  have hx := B.exec
  have hb := B.bytes
  have hr := B.returns
  have hts := atoms_spec (ws := wsX12_count) B.pre
  have hown : s.vm.findClass RX12 = some m.cls := findClass_of_methodNamed B.named
  have hlocks := B.notSynchronized
  have hS : va_S A s.heap s.heap [] := va_S.rf
  have hl := lv_entry ([.ref (ad 8), .int (zI p1)]) (n := 4) (Nat.le_of_ble_eq_true rfl)
  rw [lg_entry_eq]
  generalize (lg_sl ([.ref (ad 8), .int (zI p1)]) ++ List.replicate (4 - (lg_sl ([.ref (ad 8), .int (zI p1)])).length) Slot.unset).toArray = ls at hl ⊢
  have hl : lv_has ls 4 [(0, .ref (ad 8)), (1, .int (zI p1))] := hl
  refine z_iconst hx hb dX12_count_0 ?_
  refine lv_istore_n (lv' := [(2, .int (zI 0)), (0, .ref (ad 8)), (1, .int (zI p1))]) hx hb dX12_count_1 rfl hl (by decide) rfl (fun ls hl => ?_)
  refine lv_iload_n hx hb dX12_count_2 rfl (lv_at hl 2 rfl) ?_
  rcases (show (p1 < 0 ∨ 5 < p1) ∨ p1 = 0 ∨ p1 = 1 ∨ p1 = 2 ∨ p1 = 3 ∨ p1 = 4 ∨ p1 = 5 by omega) with c_1 | c_1 | c_1 | c_1 | c_1 | c_1 | c_1
  · refine lv_tableOut (tgt := 127) hx hb dX12_count_3 (by rw [zI_toInt (by omega) (by omega)]; omega) (by decide) ?_
    refine z_iconst hx hb dX12_count_127 ?_
    exact W.iret (v := zI ((-1))) hx hb hr (fun t9 ht9_ hW => ⟨⟨zI ((-1)), u, rfl, (by refine ⟨?_, rfl⟩; unfold mCount; (repeat (first | rw [if_pos (by omega)] | rw [if_neg (by omega)])); all_goals rfl), gB.mk' hG hC hS ht9_ hW⟩, hS.F ht9_⟩) hS.2.2 dX12_count_128
  · refine lv_tableIn (off := 37) (tgt := 40) hx hb dX12_count_3 (by rw [c_1]; decide) (by rw [c_1]; decide) (by rw [c_1]; decide) (by decide) ?_
    refine lv_aload_n hx hb dX12_count_40 rfl (lv_at hl 1 rfl) ?_
    refine g_get (C := RX12) (T := TX12) (N := 42) (ci := 11) hx hb hts (fun _ h => (List.mem_cons_of_mem _ (List.mem_append_right _ h))) hown hC.1 hG 8 (by decide) rfl rfl 6 (by decide) (hts (.fieldLink RX12 138 "StraitSwimModel" "swimmers" "I") (List.mem_cons_of_mem _ (List.mem_append_left _ (List.mem_of_getElem? (i := 0) rfl)))) (fun _ h9 => h9) rfl dX12_count_41 ?_
    exact W.iret (v := zI (u.1 23)) hx hb hr (fun t9 ht9_ hW => ⟨⟨zI (u.1 23), u, rfl, (by refine ⟨?_, rfl⟩; unfold mCount; (repeat (first | rw [if_pos (by omega)] | rw [if_neg (by omega)])); all_goals rfl), gB.mk' hG hC hS ht9_ hW⟩, hS.F ht9_⟩) hS.2.2 dX12_count_44
  · refine lv_tableIn (off := 42) (tgt := 45) hx hb dX12_count_3 (by rw [c_1]; decide) (by rw [c_1]; decide) (by rw [c_1]; decide) (by decide) ?_
    refine z_iconst hx hb dX12_count_45 ?_
    refine lv_istore_n (lv' := [(3, .int (zI 0)), (2, .int (zI 0)), (0, .ref (ad 8)), (1, .int (zI p1))]) hx hb dX12_count_46 rfl hl (by decide) rfl (fun ls hl => ?_)
    have loop47 : ∀ (n : Nat) (i k : Int) (H : Heap) (locs : List Loc) (ls : Array Slot), (288 - i).toNat < n → (0 ≤ i ∧ i ≤ 288) → (0 ≤ k ∧ k ≤ i) → (spCnt (u.2.1 31) 288 289 0 0 = spCnt (u.2.1 31) 288 n i k) → gH D cy ad jf A u H → va_S A s.heap H locs → lv_has ls 4 [(3, .int (zI i)), (2, .int (zI k)), (0, .ref (ad 8)), (1, .int (zI p1))] → W p l e (headSpec wsX12_count ({ frames := 0, cells := 0, slots := 0, locals := 0 })).room s m ([.ref (ad 8), .int (zI p1)]).toArray below meth c H locs 0 0 (MQ below (va_Qi (fun (r : Int32) (v : gS) => r = zI (mCount u p1) ∧ v = u) (gB D cy ad jf A) A) ([.ref (ad 8), .int (zI p1)]).toArray s 0 0 A) (F0 m 47 ls []) := by
      intro n
      induction n with
      | zero => intro i k  H locs ls hm; exact absurd hm (Nat.not_lt_zero _)
      | succ n ih47 =>
        intro i k  H locs ls hm hi hk9 hT hG hS hl
        refine lv_iload_n hx hb dX12_count_47 rfl (lv_at hl 0 rfl) ?_
        refine z_sipush hx hb dX12_count_48 (by decide) ?_
        refine z_icmp_ge (tgt := 77) hx hb dX12_count_51 (by decide) (by omega) (by omega) (by omega) (by omega) (fun c_2 => ?_) (fun c_2 => ?_)
        · refine lv_iload_n hx hb dX12_count_77 rfl (lv_at hl 1 rfl) ?_
          exact W.iret (v := zI k) hx hb hr (fun t9 ht9_ hW => ⟨⟨zI k, u, rfl, (by refine ⟨?_, rfl⟩; unfold mCount; (repeat (first | rw [if_pos (by omega)] | rw [if_neg (by omega)])); all_goals (rw [hT, spCnt]; (repeat (first | rw [if_pos (by omega)] | rw [if_neg (by omega)])); all_goals rfl)), gB.mk' hG hC hS ht9_ hW⟩, hS.F ht9_⟩) hS.2.2 dX12_count_78
        · refine lv_iload_n hx hb dX12_count_54 rfl (lv_at hl 1 rfl) ?_
          refine lv_aload_n hx hb dX12_count_55 rfl (lv_at hl 2 rfl) ?_
          refine g_get (C := RX12) (T := TX12) (N := 42) (ci := 11) hx hb hts (fun _ h => (List.mem_cons_of_mem _ (List.mem_append_right _ h))) hown hC.1 hG 8 (by decide) rfl rfl 1 (by decide) (hts (.fieldLink RX12 7 "StraitSwimModel" "cells" "[Z") (List.mem_cons_of_mem _ (List.mem_append_left _ (List.mem_of_getElem? (i := 1) rfl)))) (fun _ h9 => h9) rfl dX12_count_56 ?_
          refine lv_iload_n hx hb dX12_count_59 rfl (lv_at hl 0 rfl) ?_
          refine g_zald (n := 288) hx hb hC.1 hG 31 (by decide) rfl (by omega) (by omega) (by decide) dX12_count_60 ?_
          have q_3 := hd i.toNat (by omega)
          refine z_if_eq (tgt := 68) hx hb dX12_count_61 (by decide) (by omega) (by omega) (fun c_4 => ?_) (fun c_4 => ?_)
          · refine z_iconst hx hb dX12_count_68 ?_
            refine z_iadd hx hb dX12_count_69 ?_
            refine lv_istore_n (lv' := [(2, .int (zI (k + 0))), (3, .int (zI i)), (0, .ref (ad 8)), (1, .int (zI p1))]) hx hb dX12_count_70 rfl hl (by decide) rfl (fun ls hl => ?_)
            refine z_iinc (lv' := [(3, .int (zI (i + 1))), (2, .int (zI (k + 0))), (0, .ref (ad 8)), (1, .int (zI p1))]) hx hb dX12_count_71 hl (k := 1) rfl (by decide) rfl (fun ls hl => ?_)
            refine lv_goto (tgt := 47) hx hb dX12_count_74 (by decide) ?_
            exact ih47 (i + 1) (k + 0) _ _ _ (by omega) (by omega) (by omega) (by rw [hT, spCnt]; (repeat (first | rw [if_pos (by omega)] | rw [if_neg (by omega)]))) hG hS (lv_sub hl [0, 1, 2, 3] rfl)
          · refine z_iconst hx hb dX12_count_64 ?_
            refine lv_goto (tgt := 69) hx hb dX12_count_65 (by decide) ?_
            refine z_iadd hx hb dX12_count_69 ?_
            refine lv_istore_n (lv' := [(2, .int (zI (k + 1))), (3, .int (zI i)), (0, .ref (ad 8)), (1, .int (zI p1))]) hx hb dX12_count_70 rfl hl (by decide) rfl (fun ls hl => ?_)
            refine z_iinc (lv' := [(3, .int (zI (i + 1))), (2, .int (zI (k + 1))), (0, .ref (ad 8)), (1, .int (zI p1))]) hx hb dX12_count_71 hl (k := 1) rfl (by decide) rfl (fun ls hl => ?_)
            refine lv_goto (tgt := 47) hx hb dX12_count_74 (by decide) ?_
            exact ih47 (i + 1) (k + 1) _ _ _ (by omega) (by omega) (by omega) (by rw [hT, spCnt]; (repeat (first | rw [if_pos (by omega)] | rw [if_neg (by omega)]))) hG hS (lv_sub hl [0, 1, 2, 3] rfl)
    exact loop47 289 0 0 _ _ _ (by omega) (by omega) (by omega) (by rfl) hG hS (lv_sub hl [0, 1, 2, 3] rfl)
  · refine lv_tableIn (off := 76) (tgt := 79) hx hb dX12_count_3 (by rw [c_1]; decide) (by rw [c_1]; decide) (by rw [c_1]; decide) (by decide) ?_
    refine lv_aload_n hx hb dX12_count_79 rfl (lv_at hl 1 rfl) ?_
    refine g_get (C := RX12) (T := TX12) (N := 42) (ci := 11) hx hb hts (fun _ h => (List.mem_cons_of_mem _ (List.mem_append_right _ h))) hown hC.1 hG 8 (by decide) rfl rfl 16 (by decide) (hts (.fieldLink RX12 168 "StraitSwimModel" "ships" "I") (List.mem_cons_of_mem _ (List.mem_append_left _ (List.mem_of_getElem? (i := 2) rfl)))) (fun _ h9 => h9) rfl dX12_count_80 ?_
    exact W.iret (v := zI (u.1 25)) hx hb hr (fun t9 ht9_ hW => ⟨⟨zI (u.1 25), u, rfl, (by refine ⟨?_, rfl⟩; unfold mCount; (repeat (first | rw [if_pos (by omega)] | rw [if_neg (by omega)])); all_goals rfl), gB.mk' hG hC hS ht9_ hW⟩, hS.F ht9_⟩) hS.2.2 dX12_count_83
  · refine lv_tableIn (off := 81) (tgt := 84) hx hb dX12_count_3 (by rw [c_1]; decide) (by rw [c_1]; decide) (by rw [c_1]; decide) (by decide) ?_
    refine lv_aload_n hx hb dX12_count_84 rfl (lv_at hl 1 rfl) ?_
    refine g_get (C := RX12) (T := TX12) (N := 42) (ci := 11) hx hb hts (fun _ h => (List.mem_cons_of_mem _ (List.mem_append_right _ h))) hown hC.1 hG 8 (by decide) rfl rfl 21 (by decide) (hts (.fieldLink RX12 177 "StraitSwimModel" "counted" "I") (List.mem_cons_of_mem _ (List.mem_append_left _ (List.mem_of_getElem? (i := 3) rfl)))) (fun _ h9 => h9) rfl dX12_count_85 ?_
    exact W.iret (v := zI (u.1 26)) hx hb hr (fun t9 ht9_ hW => ⟨⟨zI (u.1 26), u, rfl, (by refine ⟨?_, rfl⟩; unfold mCount; (repeat (first | rw [if_pos (by omega)] | rw [if_neg (by omega)])); all_goals rfl), gB.mk' hG hC hS ht9_ hW⟩, hS.F ht9_⟩) hS.2.2 dX12_count_88
  · refine lv_tableIn (off := 86) (tgt := 89) hx hb dX12_count_3 (by rw [c_1]; decide) (by rw [c_1]; decide) (by rw [c_1]; decide) (by decide) ?_
    refine lv_aload_n hx hb dX12_count_89 rfl (lv_at hl 1 rfl) ?_
    refine g_get (C := RX12) (T := TX12) (N := 42) (ci := 11) hx hb hts (fun _ h => (List.mem_cons_of_mem _ (List.mem_append_right _ h))) hown hC.1 hG 8 (by decide) rfl rfl 25 (by decide) (hts (.fieldLink RX12 186 "StraitSwimModel" "turned" "I") (List.mem_cons_of_mem _ (List.mem_append_left _ (List.mem_of_getElem? (i := 4) rfl)))) (fun _ h9 => h9) rfl dX12_count_90 ?_
    exact W.iret (v := zI (u.1 28)) hx hb hr (fun t9 ht9_ hW => ⟨⟨zI (u.1 28), u, rfl, (by refine ⟨?_, rfl⟩; unfold mCount; (repeat (first | rw [if_pos (by omega)] | rw [if_neg (by omega)])); all_goals rfl), gB.mk' hG hC hS ht9_ hW⟩, hS.F ht9_⟩) hS.2.2 dX12_count_93
  · refine lv_tableIn (off := 91) (tgt := 94) hx hb dX12_count_3 (by rw [c_1]; decide) (by rw [c_1]; decide) (by rw [c_1]; decide) (by decide) ?_
    refine z_iconst hx hb dX12_count_94 ?_
    refine lv_istore_n (lv' := [(3, .int (zI 0)), (2, .int (zI 0)), (0, .ref (ad 8)), (1, .int (zI p1))]) hx hb dX12_count_95 rfl hl (by decide) rfl (fun ls hl => ?_)
    have loop96 : ∀ (n : Nat) (i k : Int) (H : Heap) (locs : List Loc) (ls : Array Slot), (16 - i).toNat < n → (0 ≤ i ∧ i ≤ 16) → (0 ≤ k ∧ k ≤ i) → (spCnt (u.2.1 49) 16 17 0 0 = spCnt (u.2.1 49) 16 n i k) → gH D cy ad jf A u H → va_S A s.heap H locs → lv_has ls 4 [(3, .int (zI i)), (2, .int (zI k)), (0, .ref (ad 8)), (1, .int (zI p1))] → W p l e (headSpec wsX12_count ({ frames := 0, cells := 0, slots := 0, locals := 0 })).room s m ([.ref (ad 8), .int (zI p1)]).toArray below meth c H locs 0 0 (MQ below (va_Qi (fun (r : Int32) (v : gS) => r = zI (mCount u p1) ∧ v = u) (gB D cy ad jf A) A) ([.ref (ad 8), .int (zI p1)]).toArray s 0 0 A) (F0 m 96 ls []) := by
      intro n
      induction n with
      | zero => intro i k  H locs ls hm; exact absurd hm (Nat.not_lt_zero _)
      | succ n ih96 =>
        intro i k  H locs ls hm hi hk9 hT hG hS hl
        refine lv_iload_n hx hb dX12_count_96 rfl (lv_at hl 0 rfl) ?_
        refine z_bipush hx hb dX12_count_97 (by decide) ?_
        refine z_icmp_ge (tgt := 125) hx hb dX12_count_99 (by decide) (by omega) (by omega) (by omega) (by omega) (fun c_5 => ?_) (fun c_5 => ?_)
        · refine lv_iload_n hx hb dX12_count_125 rfl (lv_at hl 1 rfl) ?_
          exact W.iret (v := zI k) hx hb hr (fun t9 ht9_ hW => ⟨⟨zI k, u, rfl, (by refine ⟨?_, rfl⟩; unfold mCount; (repeat (first | rw [if_pos (by omega)] | rw [if_neg (by omega)])); all_goals (rw [hT, spCnt]; (repeat (first | rw [if_pos (by omega)] | rw [if_neg (by omega)])); all_goals rfl)), gB.mk' hG hC hS ht9_ hW⟩, hS.F ht9_⟩) hS.2.2 dX12_count_126
        · refine lv_iload_n hx hb dX12_count_102 rfl (lv_at hl 1 rfl) ?_
          refine lv_aload_n hx hb dX12_count_103 rfl (lv_at hl 2 rfl) ?_
          refine g_get (C := RX12) (T := TX12) (N := 42) (ci := 11) hx hb hts (fun _ h => (List.mem_cons_of_mem _ (List.mem_append_right _ h))) hown hC.1 hG 8 (by decide) rfl rfl 27 (by decide) (hts (.fieldLink RX12 75 "StraitSwimModel" "calms" "[Z") (List.mem_cons_of_mem _ (List.mem_append_left _ (List.mem_of_getElem? (i := 5) rfl)))) (fun _ h9 => h9) rfl dX12_count_104 ?_
          refine lv_iload_n hx hb dX12_count_107 rfl (lv_at hl 0 rfl) ?_
          refine g_zald (n := 16) hx hb hC.1 hG 49 (by decide) rfl (by omega) (by omega) (by decide) dX12_count_108 ?_
          have q_6 := i49 i.toNat (by omega)
          refine z_if_eq (tgt := 116) hx hb dX12_count_109 (by decide) (by omega) (by omega) (fun c_7 => ?_) (fun c_7 => ?_)
          · refine z_iconst hx hb dX12_count_116 ?_
            refine z_iadd hx hb dX12_count_117 ?_
            refine lv_istore_n (lv' := [(2, .int (zI (k + 0))), (3, .int (zI i)), (0, .ref (ad 8)), (1, .int (zI p1))]) hx hb dX12_count_118 rfl hl (by decide) rfl (fun ls hl => ?_)
            refine z_iinc (lv' := [(3, .int (zI (i + 1))), (2, .int (zI (k + 0))), (0, .ref (ad 8)), (1, .int (zI p1))]) hx hb dX12_count_119 hl (k := 1) rfl (by decide) rfl (fun ls hl => ?_)
            refine lv_goto (tgt := 96) hx hb dX12_count_122 (by decide) ?_
            exact ih96 (i + 1) (k + 0) _ _ _ (by omega) (by omega) (by omega) (by rw [hT, spCnt]; (repeat (first | rw [if_pos (by omega)] | rw [if_neg (by omega)]))) hG hS (lv_sub hl [0, 1, 2, 3] rfl)
          · refine z_iconst hx hb dX12_count_112 ?_
            refine lv_goto (tgt := 117) hx hb dX12_count_113 (by decide) ?_
            refine z_iadd hx hb dX12_count_117 ?_
            refine lv_istore_n (lv' := [(2, .int (zI (k + 1))), (3, .int (zI i)), (0, .ref (ad 8)), (1, .int (zI p1))]) hx hb dX12_count_118 rfl hl (by decide) rfl (fun ls hl => ?_)
            refine z_iinc (lv' := [(3, .int (zI (i + 1))), (2, .int (zI (k + 1))), (0, .ref (ad 8)), (1, .int (zI p1))]) hx hb dX12_count_119 hl (k := 1) rfl (by decide) rfl (fun ls hl => ?_)
            refine lv_goto (tgt := 96) hx hb dX12_count_122 (by decide) ?_
            exact ih96 (i + 1) (k + 1) _ _ _ (by omega) (by omega) (by omega) (by rw [hT, spCnt]; (repeat (first | rw [if_pos (by omega)] | rw [if_neg (by omega)]))) hG hS (lv_sub hl [0, 1, 2, 3] rfl)
    exact loop96 17 0 0 _ _ _ (by omega) (by omega) (by omega) (by rfl) hG hS (lv_sub hl [0, 1, 2, 3] rfl)
set_option maxHeartbeats 4000000 in
set_option maxRecDepth 100000 in
theorem kX12_carries (l : Launch) (D : va_G) (cy : Nat → ClassId) (ad : Nat → Nat) (jf : Nat → Int64) (A : Nat → Prop) (u : gS) (p1 p2 p3 p4 : Int) (j_p1 : -2147483648 ≤ p1 ∧ p1 < 2147483648) (j_p2 : -2147483648 ≤ p2 ∧ p2 < 2147483648) (j_p3 : -2147483648 ≤ p3 ∧ p3 < 2147483648) (j_p4 : -2147483648 ≤ p4 ∧ p4 < 2147483648) : Met l yX12_carries wsX12_carries ({ frames := 2, cells := 0, slots := 0, locals := 43 }) (va_Pc [.ref (ad 8), .int (zI p1), .int (zI p2), .int (zI p3), .int (zI p4)] (gB D cy ad jf A u)) (va_Ql (fun (r : Int64) (v : gS) => r = (zI (mCarV u p1 p2 p3 p4)).toInt64 ∧ v = sI u 20 (mCarT p1 p2 p3 p4)) (gB D cy ad jf A) A) 0 0 A := by
  refine Met.ofW (cc := cX12_carries) (maxL := 5) (ret := (some .long)) (by decide) rfl ?_
  intro p e s m args below meth c s₁ B hml hv
  obtain ⟨rfl, hG, hC⟩ := hv
  have hx := B.exec
  have hb := B.bytes
  have hr := B.returns
  have hts := atoms_spec (ws := wsX12_carries) B.pre
  have hown : s.vm.findClass RX12 = some m.cls := findClass_of_methodNamed B.named
  have hlocks := B.notSynchronized
  have hS : va_S A s.heap s.heap [] := va_S.rf
  have hl := lv_entry ([.ref (ad 8), .int (zI p1), .int (zI p2), .int (zI p3), .int (zI p4)]) (n := 5) (Nat.le_of_ble_eq_true rfl)
  rw [lg_entry_eq]
  generalize (lg_sl ([.ref (ad 8), .int (zI p1), .int (zI p2), .int (zI p3), .int (zI p4)]) ++ List.replicate (5 - (lg_sl ([.ref (ad 8), .int (zI p1), .int (zI p2), .int (zI p3), .int (zI p4)])).length) Slot.unset).toArray = ls at hl ⊢
  have hl : lv_has ls 5 [(0, .ref (ad 8)), (1, .int (zI p1)), (2, .int (zI p2)), (3, .int (zI p3)), (4, .int (zI p4))] := hl
  refine lv_aload_n hx hb dX12_carries_0 rfl (lv_at hl 0 rfl) ?_
  refine lv_iload_n hx hb dX12_carries_1 rfl (lv_at hl 1 rfl) ?_
  refine lv_iload_n hx hb dX12_carries_2 rfl (lv_at hl 2 rfl) ?_
  refine g_calli (va_runS (As := [.int (zI p1), .int (zI p2)]) (rest := [.ref (ad 8)]) ⟨hx, hb, hml, hown, hts⟩ (kX12_isPlace l D cy ad jf A u p1 p2 (by omega) (by omega)) (va_cwS 2 hts gX12_carries_X12_isPlace rfl rfl rfl (by decide +kernel) ⟨by decide, by decide⟩) (g_preS hG hC hS) rfl rfl hl.1 rfl (lv_room (Nat.le_of_ble_eq_true rfl)) dX12_carries_3 ⟨Nat.le_of_ble_eq_true rfl, Nat.le_of_ble_eq_true rfl⟩) hS (fun r1 u2 H locs p_3 hG hS => ?_)
  obtain ⟨⟨b4, rfl, q_5⟩, he_⟩ := p_3
  rw [he_] at hG; clear he_
  have hbb4 : 0 ≤ b4 ∧ b4 ≤ 1 := by rcases q_5 with ⟨h, _⟩ | ⟨h, _⟩ <;> omega
  refine z_if_eq (tgt := 34) hx hb dX12_carries_6 (by decide) (by omega) (by omega) (fun c_6 => ?_) (fun c_6 => ?_)
  · refine z_iconst hx hb dX12_carries_34 ?_
    refine g_put (C := RX12) (T := TX12) (N := 42) (ci := 11) (ty := .int) hx hb hts (fun _ h => (List.mem_cons_of_mem _ (List.mem_append_right _ h))) tyX12 tyX12_ok nmX12 hown hC.1 hG hS 8 (by decide) rfl rfl 0 20 (by decide) (hts (.fieldLink RX12 120 "StraitSwimModel" "thrown" "I") (List.mem_cons_of_mem _ (List.mem_append_left _ (List.mem_of_getElem? (i := 0) rfl)))) (fun _ h9 => h9) rfl (by decide +kernel) rfl rfl (Nat.le_of_ble_eq_true rfl) rfl (gO_20 ad _ _) dX12_carries_35 (fun u7 H locs hu7 hG hS => ?_)
    refine lv_aload_n hx hb dX12_carries_38 rfl (lv_at hl 0 rfl) ?_
    refine g_get (C := RX12) (T := TX12) (N := 42) (ci := 11) hx hb hts (fun _ h => (List.mem_cons_of_mem _ (List.mem_append_right _ h))) hown hC.1 hG 8 (by decide) rfl rfl 0 (by decide) (hts (.fieldLink RX12 120 "StraitSwimModel" "thrown" "I") (List.mem_cons_of_mem _ (List.mem_append_left _ (List.mem_of_getElem? (i := 0) rfl)))) (fun _ h9 => h9) rfl dX12_carries_39 ?_
    have e_8 : u7.1 20 = 1 := by subst hu7; rfl
    rw [e_8]
    refine z_if_le (tgt := 47) hx hb dX12_carries_42 (by decide) (by omega) (by omega) (fun c_9 => ?_) (fun c_9 => ?_)
    · exfalso; omega
    · refine lv_lconst (v := 0) hx hb dX12_carries_45 (by decide) ?_
      exact W.lret (v := 0) hx hb hr (fun t9 ht9_ hW => ⟨⟨0, u7, rfl, (by subst hu7; unfold mCarV mCarT; (repeat (first | rw [if_pos (by omega)] | rw [if_neg (by omega)])); all_goals exact ⟨rfl, rfl⟩), gB.mk' hG hC hS ht9_ hW⟩, hS.F ht9_⟩) hS.2.2 dX12_carries_46
  · refine lv_iload_n hx hb dX12_carries_9 rfl (lv_at hl 3 rfl) ?_
    refine z_iconst hx hb dX12_carries_10 ?_
    refine z_sipush hx hb dX12_carries_11 (by decide) ?_
    refine g_calli (va_runS (As := [.int (zI p3), .int (zI 0), .int (zI 199)]) (rest := [.ref (ad 8)]) ⟨hx, hb, hml, hown, hts⟩ (kX12_in l D cy ad jf A u p3 0 199 (by omega) (by omega) (by omega)) (va_cwS 3 hts gX12_carries_X12_in rfl rfl rfl (by decide +kernel) ⟨by decide, by decide⟩) (g_preS hG hC hS) rfl rfl hl.1 rfl (lv_room (Nat.le_of_ble_eq_true rfl)) dX12_carries_14 ⟨Nat.le_of_ble_eq_true rfl, Nat.le_of_ble_eq_true rfl⟩) hS (fun r10 u11 H locs p_12 hG hS => ?_)
    obtain ⟨⟨b13, rfl, q_14⟩, he_⟩ := p_12
    rw [he_] at hG; clear he_
    have hbb13 : 0 ≤ b13 ∧ b13 ≤ 1 := by rcases q_14 with ⟨h, _⟩ | ⟨h, _⟩ <;> omega
    refine z_if_eq (tgt := 34) hx hb dX12_carries_17 (by decide) (by omega) (by omega) (fun c_15 => ?_) (fun c_15 => ?_)
    · refine z_iconst hx hb dX12_carries_34 ?_
      refine g_put (C := RX12) (T := TX12) (N := 42) (ci := 11) (ty := .int) hx hb hts (fun _ h => (List.mem_cons_of_mem _ (List.mem_append_right _ h))) tyX12 tyX12_ok nmX12 hown hC.1 hG hS 8 (by decide) rfl rfl 0 20 (by decide) (hts (.fieldLink RX12 120 "StraitSwimModel" "thrown" "I") (List.mem_cons_of_mem _ (List.mem_append_left _ (List.mem_of_getElem? (i := 0) rfl)))) (fun _ h9 => h9) rfl (by decide +kernel) rfl rfl (Nat.le_of_ble_eq_true rfl) rfl (gO_20 ad _ _) dX12_carries_35 (fun u16 H locs hu16 hG hS => ?_)
      refine lv_aload_n hx hb dX12_carries_38 rfl (lv_at hl 0 rfl) ?_
      refine g_get (C := RX12) (T := TX12) (N := 42) (ci := 11) hx hb hts (fun _ h => (List.mem_cons_of_mem _ (List.mem_append_right _ h))) hown hC.1 hG 8 (by decide) rfl rfl 0 (by decide) (hts (.fieldLink RX12 120 "StraitSwimModel" "thrown" "I") (List.mem_cons_of_mem _ (List.mem_append_left _ (List.mem_of_getElem? (i := 0) rfl)))) (fun _ h9 => h9) rfl dX12_carries_39 ?_
      have e_17 : u16.1 20 = 1 := by subst hu16; rfl
      rw [e_17]
      refine z_if_le (tgt := 47) hx hb dX12_carries_42 (by decide) (by omega) (by omega) (fun c_18 => ?_) (fun c_18 => ?_)
      · exfalso; omega
      · refine lv_lconst (v := 0) hx hb dX12_carries_45 (by decide) ?_
        exact W.lret (v := 0) hx hb hr (fun t9 ht9_ hW => ⟨⟨0, u16, rfl, (by subst hu16; unfold mCarV mCarT; (repeat (first | rw [if_pos (by omega)] | rw [if_neg (by omega)])); all_goals exact ⟨rfl, rfl⟩), gB.mk' hG hC hS ht9_ hW⟩, hS.F ht9_⟩) hS.2.2 dX12_carries_46
    · refine lv_iload hx hb dX12_carries_20 (lv_at hl 4 rfl) ?_
      refine z_iconst hx hb dX12_carries_22 ?_
      refine z_iconst hx hb dX12_carries_23 ?_
      refine g_calli (va_runS (As := [.int (zI p4), .int (zI 0), .int (zI 1)]) (rest := [.ref (ad 8)]) ⟨hx, hb, hml, hown, hts⟩ (kX12_in l D cy ad jf A u p4 0 1 (by omega) (by omega) (by omega)) (va_cwS 3 hts gX12_carries_X12_in rfl rfl rfl (by decide +kernel) ⟨by decide, by decide⟩) (g_preS hG hC hS) rfl rfl hl.1 rfl (lv_room (Nat.le_of_ble_eq_true rfl)) dX12_carries_24 ⟨Nat.le_of_ble_eq_true rfl, Nat.le_of_ble_eq_true rfl⟩) hS (fun r19 u20 H locs p_21 hG hS => ?_)
      obtain ⟨⟨b22, rfl, q_23⟩, he_⟩ := p_21
      rw [he_] at hG; clear he_
      have hbb22 : 0 ≤ b22 ∧ b22 ≤ 1 := by rcases q_23 with ⟨h, _⟩ | ⟨h, _⟩ <;> omega
      refine z_if_eq (tgt := 34) hx hb dX12_carries_27 (by decide) (by omega) (by omega) (fun c_24 => ?_) (fun c_24 => ?_)
      · refine z_iconst hx hb dX12_carries_34 ?_
        refine g_put (C := RX12) (T := TX12) (N := 42) (ci := 11) (ty := .int) hx hb hts (fun _ h => (List.mem_cons_of_mem _ (List.mem_append_right _ h))) tyX12 tyX12_ok nmX12 hown hC.1 hG hS 8 (by decide) rfl rfl 0 20 (by decide) (hts (.fieldLink RX12 120 "StraitSwimModel" "thrown" "I") (List.mem_cons_of_mem _ (List.mem_append_left _ (List.mem_of_getElem? (i := 0) rfl)))) (fun _ h9 => h9) rfl (by decide +kernel) rfl rfl (Nat.le_of_ble_eq_true rfl) rfl (gO_20 ad _ _) dX12_carries_35 (fun u25 H locs hu25 hG hS => ?_)
        refine lv_aload_n hx hb dX12_carries_38 rfl (lv_at hl 0 rfl) ?_
        refine g_get (C := RX12) (T := TX12) (N := 42) (ci := 11) hx hb hts (fun _ h => (List.mem_cons_of_mem _ (List.mem_append_right _ h))) hown hC.1 hG 8 (by decide) rfl rfl 0 (by decide) (hts (.fieldLink RX12 120 "StraitSwimModel" "thrown" "I") (List.mem_cons_of_mem _ (List.mem_append_left _ (List.mem_of_getElem? (i := 0) rfl)))) (fun _ h9 => h9) rfl dX12_carries_39 ?_
        have e_26 : u25.1 20 = 1 := by subst hu25; rfl
        rw [e_26]
        refine z_if_le (tgt := 47) hx hb dX12_carries_42 (by decide) (by omega) (by omega) (fun c_27 => ?_) (fun c_27 => ?_)
        · exfalso; omega
        · refine lv_lconst (v := 0) hx hb dX12_carries_45 (by decide) ?_
          exact W.lret (v := 0) hx hb hr (fun t9 ht9_ hW => ⟨⟨0, u25, rfl, (by subst hu25; unfold mCarV mCarT; (repeat (first | rw [if_pos (by omega)] | rw [if_neg (by omega)])); all_goals exact ⟨rfl, rfl⟩), gB.mk' hG hC hS ht9_ hW⟩, hS.F ht9_⟩) hS.2.2 dX12_carries_46
      · refine z_iconst hx hb dX12_carries_30 ?_
        refine lv_goto (tgt := 35) hx hb dX12_carries_31 (by decide) ?_
        refine g_put (C := RX12) (T := TX12) (N := 42) (ci := 11) (ty := .int) hx hb hts (fun _ h => (List.mem_cons_of_mem _ (List.mem_append_right _ h))) tyX12 tyX12_ok nmX12 hown hC.1 hG hS 8 (by decide) rfl rfl 0 20 (by decide) (hts (.fieldLink RX12 120 "StraitSwimModel" "thrown" "I") (List.mem_cons_of_mem _ (List.mem_append_left _ (List.mem_of_getElem? (i := 0) rfl)))) (fun _ h9 => h9) rfl (by decide +kernel) rfl rfl (Nat.le_of_ble_eq_true rfl) rfl (gO_20 ad _ _) dX12_carries_35 (fun u28 H locs hu28 hG hS => ?_)
        refine lv_aload_n hx hb dX12_carries_38 rfl (lv_at hl 0 rfl) ?_
        refine g_get (C := RX12) (T := TX12) (N := 42) (ci := 11) hx hb hts (fun _ h => (List.mem_cons_of_mem _ (List.mem_append_right _ h))) hown hC.1 hG 8 (by decide) rfl rfl 0 (by decide) (hts (.fieldLink RX12 120 "StraitSwimModel" "thrown" "I") (List.mem_cons_of_mem _ (List.mem_append_left _ (List.mem_of_getElem? (i := 0) rfl)))) (fun _ h9 => h9) rfl dX12_carries_39 ?_
        have e_29 : u28.1 20 = 0 := by subst hu28; rfl
        rw [e_29]
        refine z_if_le (tgt := 47) hx hb dX12_carries_42 (by decide) (by omega) (by omega) (fun c_30 => ?_) (fun c_30 => ?_)
        · refine lv_iload hx hb dX12_carries_47 (lv_at hl 4 rfl) ?_
          refine z_if_ne (tgt := 66) hx hb dX12_carries_49 (by decide) (by omega) (by omega) (fun c_31 => ?_) (fun c_31 => ?_)
          · refine lv_aload_n hx hb dX12_carries_66 rfl (lv_at hl 0 rfl) ?_
            refine g_get (C := RX12) (T := TX12) (N := 42) (ci := 11) hx hb hts (fun _ h => (List.mem_cons_of_mem _ (List.mem_append_right _ h))) hown hC.1 hG 8 (by decide) rfl rfl 3 (by decide) (hts (.fieldLink RX12 17 "StraitSwimModel" "norths" "[I") (List.mem_cons_of_mem _ (List.mem_append_left _ (List.mem_of_getElem? (i := 2) rfl)))) (fun _ h9 => h9) rfl dX12_carries_67 ?_
            refine lv_iload_n hx hb dX12_carries_70 rfl (lv_at hl 2 rfl) ?_
            refine lv_iload_n hx hb dX12_carries_71 rfl (lv_at hl 3 rfl) ?_
            refine g_calli (va_runS (As := [.int (zI p2), .int (zI p3)]) (rest := [.ref (ad 33)]) ⟨hx, hb, hml, hown, hts⟩ (kX12_tideAt l D cy ad jf A u28 p2 p3 (by omega) (by omega)) (va_cwS 2 hts gX12_carries_X12_tideAt rfl rfl rfl (by decide +kernel) ⟨by decide, by decide⟩) (g_preS hG hC hS) rfl rfl hl.1 rfl (lv_room (Nat.le_of_ble_eq_true rfl)) dX12_carries_72 ⟨Nat.le_of_ble_eq_true rfl, Nat.le_of_ble_eq_true rfl⟩) hS (fun r32 u33 H locs p_34 hG hS => ?_)
            obtain ⟨rfl, he_⟩ := p_34
            rw [he_] at hG; clear he_
            refine g_iald (n := 36) hx hb hC.1 hG 33 (by decide) rfl (by omega) (by omega) (by decide) dX12_carries_75 ?_
            have e_35 : u28.2.1 33 = u.2.1 33 := by subst hu28; rfl
            rw [e_35]
            refine lv_i2l (v := (zI (u.2.1 33 (p2 / 40 * 12 + p3 / 4 % 12).toNat)).toInt64) hx hb dX12_carries_76 rfl ?_
            exact W.lret (v := (zI (u.2.1 33 (p2 / 40 * 12 + p3 / 4 % 12).toNat)).toInt64) hx hb hr (fun t9 ht9_ hW => ⟨⟨(zI (u.2.1 33 (p2 / 40 * 12 + p3 / 4 % 12).toNat)).toInt64, u28, rfl, (by subst hu28; unfold mCarV mCarT; (repeat (first | rw [if_pos (by omega)] | rw [if_neg (by omega)])); all_goals exact ⟨rfl, rfl⟩), gB.mk' hG hC hS ht9_ hW⟩, hS.F ht9_⟩) hS.2.2 dX12_carries_77
          · refine lv_aload_n hx hb dX12_carries_52 rfl (lv_at hl 0 rfl) ?_
            refine g_get (C := RX12) (T := TX12) (N := 42) (ci := 11) hx hb hts (fun _ h => (List.mem_cons_of_mem _ (List.mem_append_right _ h))) hown hC.1 hG 8 (by decide) rfl rfl 2 (by decide) (hts (.fieldLink RX12 13 "StraitSwimModel" "easts" "[I") (List.mem_cons_of_mem _ (List.mem_append_left _ (List.mem_of_getElem? (i := 1) rfl)))) (fun _ h9 => h9) rfl dX12_carries_53 ?_
            refine lv_iload_n hx hb dX12_carries_56 rfl (lv_at hl 2 rfl) ?_
            refine lv_iload_n hx hb dX12_carries_57 rfl (lv_at hl 3 rfl) ?_
            refine g_calli (va_runS (As := [.int (zI p2), .int (zI p3)]) (rest := [.ref (ad 32)]) ⟨hx, hb, hml, hown, hts⟩ (kX12_tideAt l D cy ad jf A u28 p2 p3 (by omega) (by omega)) (va_cwS 2 hts gX12_carries_X12_tideAt rfl rfl rfl (by decide +kernel) ⟨by decide, by decide⟩) (g_preS hG hC hS) rfl rfl hl.1 rfl (lv_room (Nat.le_of_ble_eq_true rfl)) dX12_carries_58 ⟨Nat.le_of_ble_eq_true rfl, Nat.le_of_ble_eq_true rfl⟩) hS (fun r36 u37 H locs p_38 hG hS => ?_)
            obtain ⟨rfl, he_⟩ := p_38
            rw [he_] at hG; clear he_
            refine g_iald (n := 36) hx hb hC.1 hG 32 (by decide) rfl (by omega) (by omega) (by decide) dX12_carries_61 ?_
            have e_39 : u28.2.1 32 = u.2.1 32 := by subst hu28; rfl
            rw [e_39]
            refine lv_i2l (v := (zI (u.2.1 32 (p2 / 40 * 12 + p3 / 4 % 12).toNat)).toInt64) hx hb dX12_carries_62 rfl ?_
            refine lv_goto (tgt := 77) hx hb dX12_carries_63 (by decide) ?_
            exact W.lret (v := (zI (u.2.1 32 (p2 / 40 * 12 + p3 / 4 % 12).toNat)).toInt64) hx hb hr (fun t9 ht9_ hW => ⟨⟨(zI (u.2.1 32 (p2 / 40 * 12 + p3 / 4 % 12).toNat)).toInt64, u28, rfl, (by subst hu28; unfold mCarV mCarT; (repeat (first | rw [if_pos (by omega)] | rw [if_neg (by omega)])); all_goals exact ⟨rfl, rfl⟩), gB.mk' hG hC hS ht9_ hW⟩, hS.F ht9_⟩) hS.2.2 dX12_carries_77
        · exfalso; omega
set_option maxHeartbeats 4000000 in
set_option maxRecDepth 100000 in
theorem kX12_element (l : Launch) (D : va_G) (cy : Nat → ClassId) (ad : Nat → Nat) (jf : Nat → Int64) (A : Nat → Prop) (u : gS) (p1 p2 : Int) (j_p1 : -2147483648 ≤ p1 ∧ p1 < 2147483648) (j_p2 : -2147483648 ≤ p2 ∧ p2 < 2147483648) (i58 : ∀ j, j < 8 → 0 ≤ u.2.1 58 j ∧ u.2.1 58 j ≤ 4) (i62 : ∀ j, j < 8 → 0 ≤ u.2.1 62 j ∧ u.2.1 62 j ≤ 202) : Met l yX12_element wsX12_element ({ frames := 2, cells := 0, slots := 0, locals := 42 }) (va_Pc [.ref (ad 8), .int (zI p1), .int (zI p2)] (gB D cy ad jf A u)) (va_Ql (fun (r : Int64) (v : gS) => r = (zI (mEleV u p1 p2)).toInt64 ∧ v = sI u 20 (mEleT u p1 p2)) (gB D cy ad jf A) A) 0 0 A := by
  refine Met.ofW (cc := cX12_element) (maxL := 3) (ret := (some .long)) (by decide) rfl ?_
  intro p e s m args below meth c s₁ B hml hv
  obtain ⟨rfl, hG, hC⟩ := hv
  have hx := B.exec
  have hb := B.bytes
  have hr := B.returns
  have hts := atoms_spec (ws := wsX12_element) B.pre
  have hown : s.vm.findClass RX12 = some m.cls := findClass_of_methodNamed B.named
  have hlocks := B.notSynchronized
  have hS : va_S A s.heap s.heap [] := va_S.rf
  have hl := lv_entry ([.ref (ad 8), .int (zI p1), .int (zI p2)]) (n := 3) (Nat.le_of_ble_eq_true rfl)
  rw [lg_entry_eq]
  generalize (lg_sl ([.ref (ad 8), .int (zI p1), .int (zI p2)]) ++ List.replicate (3 - (lg_sl ([.ref (ad 8), .int (zI p1), .int (zI p2)])).length) Slot.unset).toArray = ls at hl ⊢
  have hl : lv_has ls 3 [(0, .ref (ad 8)), (1, .int (zI p1)), (2, .int (zI p2))] := hl
  refine lv_aload_n hx hb dX12_element_0 rfl (lv_at hl 0 rfl) ?_
  refine lv_iload_n hx hb dX12_element_1 rfl (lv_at hl 1 rfl) ?_
  refine g_calli (va_runS (As := [.int (zI p1)]) (rest := [.ref (ad 8)]) ⟨hx, hb, hml, hown, hts⟩ (kX12_isShelf l D cy ad jf A u p1 (by omega)) (va_cwS 1 hts gX12_element_X12_isShelf rfl rfl rfl (by decide +kernel) ⟨by decide, by decide⟩) (g_preS hG hC hS) rfl rfl hl.1 rfl (lv_room (Nat.le_of_ble_eq_true rfl)) dX12_element_2 ⟨Nat.le_of_ble_eq_true rfl, Nat.le_of_ble_eq_true rfl⟩) hS (fun r1 u2 H locs p_3 hG hS => ?_)
  obtain ⟨⟨b4, rfl, q_5⟩, he_⟩ := p_3
  rw [he_] at hG; clear he_
  have hbb4 : 0 ≤ b4 ∧ b4 ≤ 1 := by rcases q_5 with ⟨h, _⟩ | ⟨h, _⟩ <;> omega
  refine z_if_ne (tgt := 12) hx hb dX12_element_5 (by decide) (by omega) (by omega) (fun c_6 => ?_) (fun c_6 => ?_)
  · refine lv_aload_n hx hb dX12_element_12 rfl (lv_at hl 0 rfl) ?_
    refine g_get (C := RX12) (T := TX12) (N := 42) (ci := 11) hx hb hts (fun _ h => (List.mem_cons_of_mem _ (List.mem_append_right _ h))) hown hC.1 hG 8 (by decide) rfl rfl 36 (by decide) (hts (.fieldLink RX12 102 "StraitSwimModel" "held" "[I") (List.mem_cons_of_mem _ (List.mem_append_left _ (List.mem_of_getElem? (i := 0) rfl)))) (fun _ h9 => h9) rfl dX12_element_13 ?_
    refine lv_iload_n hx hb dX12_element_16 rfl (lv_at hl 1 rfl) ?_
    refine g_iald (n := 8) hx hb hC.1 hG 58 (by decide) rfl (by omega) (by omega) (by decide) dX12_element_17 ?_
    have q_7 := i58 p1.toNat (by omega)
    refine z_iconst hx hb dX12_element_18 ?_
    refine z_icmp_lt (tgt := 38) hx hb dX12_element_19 (by decide) (by omega) (by omega) (by omega) (by omega) (fun c_8 => ?_) (fun c_8 => ?_)
    · refine z_iconst hx hb dX12_element_38 ?_
      refine lv_goto (tgt := 43) hx hb dX12_element_39 (by decide) ?_
      refine g_put (C := RX12) (T := TX12) (N := 42) (ci := 11) (ty := .int) hx hb hts (fun _ h => (List.mem_cons_of_mem _ (List.mem_append_right _ h))) tyX12 tyX12_ok nmX12 hown hC.1 hG hS 8 (by decide) rfl rfl 0 20 (by decide) (hts (.fieldLink RX12 120 "StraitSwimModel" "thrown" "I") (List.mem_cons_of_mem _ (List.mem_append_left _ (List.mem_of_getElem? (i := 2) rfl)))) (fun _ h9 => h9) rfl (by decide +kernel) rfl rfl (Nat.le_of_ble_eq_true rfl) rfl (gO_20 ad _ _) dX12_element_43 (fun u9 H locs hu9 hG hS => ?_)
      refine lv_aload_n hx hb dX12_element_46 rfl (lv_at hl 0 rfl) ?_
      refine g_get (C := RX12) (T := TX12) (N := 42) (ci := 11) hx hb hts (fun _ h => (List.mem_cons_of_mem _ (List.mem_append_right _ h))) hown hC.1 hG 8 (by decide) rfl rfl 0 (by decide) (hts (.fieldLink RX12 120 "StraitSwimModel" "thrown" "I") (List.mem_cons_of_mem _ (List.mem_append_left _ (List.mem_of_getElem? (i := 2) rfl)))) (fun _ h9 => h9) rfl dX12_element_47 ?_
      have e_10 : u9.1 20 = 2 := by subst hu9; rfl
      rw [e_10]
      refine z_if_le (tgt := 57) hx hb dX12_element_50 (by decide) (by omega) (by omega) (fun c_11 => ?_) (fun c_11 => ?_)
      · exfalso; omega
      · refine lv_lconst (v := 0) hx hb dX12_element_53 (by decide) ?_
        refine lv_goto (tgt := 70) hx hb dX12_element_54 (by decide) ?_
        exact W.lret (v := 0) hx hb hr (fun t9 ht9_ hW => ⟨⟨0, u9, rfl, (by subst hu9; unfold mEleV mEleT; (repeat (first | rw [if_pos (by omega)] | rw [if_neg (by omega)])); all_goals exact ⟨rfl, rfl⟩), gB.mk' hG hC hS ht9_ hW⟩, hS.F ht9_⟩) hS.2.2 dX12_element_70
    · refine lv_iload_n hx hb dX12_element_22 rfl (lv_at hl 2 rfl) ?_
      refine z_iconst hx hb dX12_element_23 ?_
      refine lv_aload_n hx hb dX12_element_24 rfl (lv_at hl 0 rfl) ?_
      refine g_get (C := RX12) (T := TX12) (N := 42) (ci := 11) hx hb hts (fun _ h => (List.mem_cons_of_mem _ (List.mem_append_right _ h))) hown hC.1 hG 8 (by decide) rfl rfl 40 (by decide) (hts (.fieldLink RX12 114 "StraitSwimModel" "rowSize" "[I") (List.mem_cons_of_mem _ (List.mem_append_left _ (List.mem_of_getElem? (i := 1) rfl)))) (fun _ h9 => h9) rfl dX12_element_25 ?_
      refine lv_iload_n hx hb dX12_element_28 rfl (lv_at hl 1 rfl) ?_
      refine g_iald (n := 8) hx hb hC.1 hG 62 (by decide) rfl (by omega) (by omega) (by decide) dX12_element_29 ?_
      have q_12 := i62 p1.toNat (by omega)
      refine z_iconst hx hb dX12_element_30 ?_
      refine z_isub hx hb dX12_element_31 ?_
      refine g_calli (va_runS (As := [.int (zI p2), .int (zI 0), .int (zI ((u.2.1 62 p1.toNat) - 1))]) (rest := [.ref (ad 8)]) ⟨hx, hb, hml, hown, hts⟩ (kX12_in l D cy ad jf A u p2 0 ((u.2.1 62 p1.toNat) - 1) (by omega) (by omega) (by omega)) (va_cwS 3 hts gX12_element_X12_in rfl rfl rfl (by decide +kernel) ⟨by decide, by decide⟩) (g_preS hG hC hS) rfl rfl hl.1 rfl (lv_room (Nat.le_of_ble_eq_true rfl)) dX12_element_32 ⟨Nat.le_of_ble_eq_true rfl, Nat.le_of_ble_eq_true rfl⟩) hS (fun r13 u14 H locs p_15 hG hS => ?_)
      obtain ⟨⟨b16, rfl, q_17⟩, he_⟩ := p_15
      rw [he_] at hG; clear he_
      have hbb16 : 0 ≤ b16 ∧ b16 ≤ 1 := by rcases q_17 with ⟨h, _⟩ | ⟨h, _⟩ <;> omega
      refine z_if_ne (tgt := 42) hx hb dX12_element_35 (by decide) (by omega) (by omega) (fun c_18 => ?_) (fun c_18 => ?_)
      · refine z_iconst hx hb dX12_element_42 ?_
        refine g_put (C := RX12) (T := TX12) (N := 42) (ci := 11) (ty := .int) hx hb hts (fun _ h => (List.mem_cons_of_mem _ (List.mem_append_right _ h))) tyX12 tyX12_ok nmX12 hown hC.1 hG hS 8 (by decide) rfl rfl 0 20 (by decide) (hts (.fieldLink RX12 120 "StraitSwimModel" "thrown" "I") (List.mem_cons_of_mem _ (List.mem_append_left _ (List.mem_of_getElem? (i := 2) rfl)))) (fun _ h9 => h9) rfl (by decide +kernel) rfl rfl (Nat.le_of_ble_eq_true rfl) rfl (gO_20 ad _ _) dX12_element_43 (fun u19 H locs hu19 hG hS => ?_)
        refine lv_aload_n hx hb dX12_element_46 rfl (lv_at hl 0 rfl) ?_
        refine g_get (C := RX12) (T := TX12) (N := 42) (ci := 11) hx hb hts (fun _ h => (List.mem_cons_of_mem _ (List.mem_append_right _ h))) hown hC.1 hG 8 (by decide) rfl rfl 0 (by decide) (hts (.fieldLink RX12 120 "StraitSwimModel" "thrown" "I") (List.mem_cons_of_mem _ (List.mem_append_left _ (List.mem_of_getElem? (i := 2) rfl)))) (fun _ h9 => h9) rfl dX12_element_47 ?_
        have e_20 : u19.1 20 = 0 := by subst hu19; rfl
        rw [e_20]
        refine z_if_le (tgt := 57) hx hb dX12_element_50 (by decide) (by omega) (by omega) (fun c_21 => ?_) (fun c_21 => ?_)
        · refine lv_aload_n hx hb dX12_element_57 rfl (lv_at hl 0 rfl) ?_
          refine g_get (C := RX12) (T := TX12) (N := 42) (ci := 11) hx hb hts (fun _ h => (List.mem_cons_of_mem _ (List.mem_append_right _ h))) hown hC.1 hG 8 (by decide) rfl rfl 41 (by decide) (hts (.fieldLink RX12 117 "StraitSwimModel" "rows" "[I") (List.mem_cons_of_mem _ (List.mem_append_left _ (List.mem_of_getElem? (i := 3) rfl)))) (fun _ h9 => h9) rfl dX12_element_58 ?_
          refine z_sipush hx hb dX12_element_61 (by decide) ?_
          refine lv_iload_n hx hb dX12_element_64 rfl (lv_at hl 1 rfl) ?_
          refine z_imul hx hb dX12_element_65 ?_
          refine lv_iload_n hx hb dX12_element_66 rfl (lv_at hl 2 rfl) ?_
          refine z_iadd hx hb dX12_element_67 ?_
          refine g_iald (n := 1616) hx hb hC.1 hG 63 (by decide) rfl (by omega) (by omega) (by decide) dX12_element_68 ?_
          have e_22 : u19.2.1 63 = u.2.1 63 := by subst hu19; rfl
          rw [e_22]
          refine lv_i2l (v := (zI (u.2.1 63 ((202 * p1) + p2).toNat)).toInt64) hx hb dX12_element_69 rfl ?_
          exact W.lret (v := (zI (u.2.1 63 ((202 * p1) + p2).toNat)).toInt64) hx hb hr (fun t9 ht9_ hW => ⟨⟨(zI (u.2.1 63 ((202 * p1) + p2).toNat)).toInt64, u19, rfl, (by subst hu19; unfold mEleV mEleT; (repeat (first | rw [if_pos (by omega)] | rw [if_neg (by omega)])); all_goals exact ⟨rfl, rfl⟩), gB.mk' hG hC hS ht9_ hW⟩, hS.F ht9_⟩) hS.2.2 dX12_element_70
        · exfalso; omega
      · refine z_iconst hx hb dX12_element_38 ?_
        refine lv_goto (tgt := 43) hx hb dX12_element_39 (by decide) ?_
        refine g_put (C := RX12) (T := TX12) (N := 42) (ci := 11) (ty := .int) hx hb hts (fun _ h => (List.mem_cons_of_mem _ (List.mem_append_right _ h))) tyX12 tyX12_ok nmX12 hown hC.1 hG hS 8 (by decide) rfl rfl 0 20 (by decide) (hts (.fieldLink RX12 120 "StraitSwimModel" "thrown" "I") (List.mem_cons_of_mem _ (List.mem_append_left _ (List.mem_of_getElem? (i := 2) rfl)))) (fun _ h9 => h9) rfl (by decide +kernel) rfl rfl (Nat.le_of_ble_eq_true rfl) rfl (gO_20 ad _ _) dX12_element_43 (fun u23 H locs hu23 hG hS => ?_)
        refine lv_aload_n hx hb dX12_element_46 rfl (lv_at hl 0 rfl) ?_
        refine g_get (C := RX12) (T := TX12) (N := 42) (ci := 11) hx hb hts (fun _ h => (List.mem_cons_of_mem _ (List.mem_append_right _ h))) hown hC.1 hG 8 (by decide) rfl rfl 0 (by decide) (hts (.fieldLink RX12 120 "StraitSwimModel" "thrown" "I") (List.mem_cons_of_mem _ (List.mem_append_left _ (List.mem_of_getElem? (i := 2) rfl)))) (fun _ h9 => h9) rfl dX12_element_47 ?_
        have e_24 : u23.1 20 = 2 := by subst hu23; rfl
        rw [e_24]
        refine z_if_le (tgt := 57) hx hb dX12_element_50 (by decide) (by omega) (by omega) (fun c_25 => ?_) (fun c_25 => ?_)
        · exfalso; omega
        · refine lv_lconst (v := 0) hx hb dX12_element_53 (by decide) ?_
          refine lv_goto (tgt := 70) hx hb dX12_element_54 (by decide) ?_
          exact W.lret (v := 0) hx hb hr (fun t9 ht9_ hW => ⟨⟨0, u23, rfl, (by subst hu23; unfold mEleV mEleT; (repeat (first | rw [if_pos (by omega)] | rw [if_neg (by omega)])); all_goals exact ⟨rfl, rfl⟩), gB.mk' hG hC hS ht9_ hW⟩, hS.F ht9_⟩) hS.2.2 dX12_element_70
  · refine z_iconst hx hb dX12_element_8 ?_
    refine lv_goto (tgt := 43) hx hb dX12_element_9 (by decide) ?_
    refine g_put (C := RX12) (T := TX12) (N := 42) (ci := 11) (ty := .int) hx hb hts (fun _ h => (List.mem_cons_of_mem _ (List.mem_append_right _ h))) tyX12 tyX12_ok nmX12 hown hC.1 hG hS 8 (by decide) rfl rfl 0 20 (by decide) (hts (.fieldLink RX12 120 "StraitSwimModel" "thrown" "I") (List.mem_cons_of_mem _ (List.mem_append_left _ (List.mem_of_getElem? (i := 2) rfl)))) (fun _ h9 => h9) rfl (by decide +kernel) rfl rfl (Nat.le_of_ble_eq_true rfl) rfl (gO_20 ad _ _) dX12_element_43 (fun u26 H locs hu26 hG hS => ?_)
    refine lv_aload_n hx hb dX12_element_46 rfl (lv_at hl 0 rfl) ?_
    refine g_get (C := RX12) (T := TX12) (N := 42) (ci := 11) hx hb hts (fun _ h => (List.mem_cons_of_mem _ (List.mem_append_right _ h))) hown hC.1 hG 8 (by decide) rfl rfl 0 (by decide) (hts (.fieldLink RX12 120 "StraitSwimModel" "thrown" "I") (List.mem_cons_of_mem _ (List.mem_append_left _ (List.mem_of_getElem? (i := 2) rfl)))) (fun _ h9 => h9) rfl dX12_element_47 ?_
    have e_27 : u26.1 20 = 1 := by subst hu26; rfl
    rw [e_27]
    refine z_if_le (tgt := 57) hx hb dX12_element_50 (by decide) (by omega) (by omega) (fun c_28 => ?_) (fun c_28 => ?_)
    · exfalso; omega
    · refine lv_lconst (v := 0) hx hb dX12_element_53 (by decide) ?_
      refine lv_goto (tgt := 70) hx hb dX12_element_54 (by decide) ?_
      exact W.lret (v := 0) hx hb hr (fun t9 ht9_ hW => ⟨⟨0, u26, rfl, (by subst hu26; unfold mEleV mEleT; (repeat (first | rw [if_pos (by omega)] | rw [if_neg (by omega)])); all_goals exact ⟨rfl, rfl⟩), gB.mk' hG hC hS ht9_ hW⟩, hS.F ht9_⟩) hS.2.2 dX12_element_70
set_option maxHeartbeats 4000000 in
set_option maxRecDepth 100000 in
theorem kX12_make (l : Launch) (D : va_G) (cy : Nat → ClassId) (ad : Nat → Nat) (jf : Nat → Int64) (A : Nat → Prop) (u : gS) (p1 p2 p3 : Int) (j_p1 : -2147483648 ≤ p1 ∧ p1 < 2147483648) (j_p2 : -2147483648 ≤ p2 ∧ p2 < 2147483648) (j_p3 : -2147483648 ≤ p3 ∧ p3 < 2147483648) : Met l yX12_make wsX12_make ({ frames := 2, cells := 0, slots := 0, locals := 42 }) (va_Pc [.ref (ad 8), .int (zI p1), .int (zI p2), .int (zI p3)] (gB D cy ad jf A u)) (va_Qi (fun (r : Int32) (v : gS) => r = zI (mMake u p1 p2 p3).1 ∧ v = (mMake u p1 p2 p3).2) (gB D cy ad jf A) A) 0 0 A := by
  refine Met.ofW (cc := cX12_make) (maxL := 5) (ret := (some .int)) (by decide) rfl ?_
  intro p e s m args below meth c s₁ B hml hv
  obtain ⟨rfl, hG, hC⟩ := hv
  have hx := B.exec
  have hb := B.bytes
  have hr := B.returns
  have hts := atoms_spec (ws := wsX12_make) B.pre
  have hown : s.vm.findClass RX12 = some m.cls := findClass_of_methodNamed B.named
  have hlocks := B.notSynchronized
  have hS : va_S A s.heap s.heap [] := va_S.rf
  have hl := lv_entry ([.ref (ad 8), .int (zI p1), .int (zI p2), .int (zI p3)]) (n := 5) (Nat.le_of_ble_eq_true rfl)
  rw [lg_entry_eq]
  generalize (lg_sl ([.ref (ad 8), .int (zI p1), .int (zI p2), .int (zI p3)]) ++ List.replicate (5 - (lg_sl ([.ref (ad 8), .int (zI p1), .int (zI p2), .int (zI p3)])).length) Slot.unset).toArray = ls at hl ⊢
  have hl : lv_has ls 5 [(0, .ref (ad 8)), (1, .int (zI p1)), (2, .int (zI p2)), (3, .int (zI p3))] := hl
  refine lv_iload_n hx hb dX12_make_0 rfl (lv_at hl 1 rfl) ?_
  refine g_calli (va_runS (As := [.int (zI p1)]) (rest := []) ⟨hx, hb, hml, hown, hts⟩ (kX12_isShelf l D cy ad jf A u p1 (by omega)) (va_cwS 1 hts gX12_make_X12_isShelf rfl rfl rfl (by decide +kernel) ⟨by decide, by decide⟩) (g_preS hG hC hS) rfl rfl hl.1 rfl (lv_room (Nat.le_of_ble_eq_true rfl)) dX12_make_1 ⟨Nat.le_of_ble_eq_true rfl, Nat.le_of_ble_eq_true rfl⟩) hS (fun r1 u2 H locs p_3 hG hS => ?_)
  obtain ⟨⟨b4, rfl, q_5⟩, he_⟩ := p_3
  rw [he_] at hG; clear he_
  have hbb4 : 0 ≤ b4 ∧ b4 ≤ 1 := by rcases q_5 with ⟨h, _⟩ | ⟨h, _⟩ <;> omega
  refine z_if_eq (tgt := 22) hx hb dX12_make_4 (by decide) (by omega) (by omega) (fun c_6 => ?_) (fun c_6 => ?_)
  · refine z_iconst hx hb dX12_make_22 ?_
    exact W.iret (v := zI ((-1))) hx hb hr (fun t9 ht9_ hW => ⟨⟨zI ((-1)), u, rfl, (by unfold mMake; (repeat (first | rw [if_pos (by omega)] | rw [if_neg (by omega)])); all_goals exact ⟨rfl, rfl⟩), gB.mk' hG hC hS ht9_ hW⟩, hS.F ht9_⟩) hS.2.2 dX12_make_23
  · refine lv_iload_n hx hb dX12_make_7 rfl (lv_at hl 2 rfl) ?_
    refine z_iconst hx hb dX12_make_8 ?_
    refine z_iconst hx hb dX12_make_9 ?_
    refine g_calli (va_runS (As := [.int (zI p2), .int (zI 3), .int (zI 4)]) (rest := []) ⟨hx, hb, hml, hown, hts⟩ (kX12_in l D cy ad jf A u p2 3 4 (by omega) (by omega) (by omega)) (va_cwS 3 hts gX12_make_X12_in rfl rfl rfl (by decide +kernel) ⟨by decide, by decide⟩) (g_preS hG hC hS) rfl rfl hl.1 rfl (lv_room (Nat.le_of_ble_eq_true rfl)) dX12_make_10 ⟨Nat.le_of_ble_eq_true rfl, Nat.le_of_ble_eq_true rfl⟩) hS (fun r7 u8 H locs p_9 hG hS => ?_)
    obtain ⟨⟨b10, rfl, q_11⟩, he_⟩ := p_9
    rw [he_] at hG; clear he_
    have hbb10 : 0 ≤ b10 ∧ b10 ≤ 1 := by rcases q_11 with ⟨h, _⟩ | ⟨h, _⟩ <;> omega
    refine z_if_eq (tgt := 22) hx hb dX12_make_13 (by decide) (by omega) (by omega) (fun c_12 => ?_) (fun c_12 => ?_)
    · refine z_iconst hx hb dX12_make_22 ?_
      exact W.iret (v := zI ((-1))) hx hb hr (fun t9 ht9_ hW => ⟨⟨zI ((-1)), u, rfl, (by unfold mMake; (repeat (first | rw [if_pos (by omega)] | rw [if_neg (by omega)])); all_goals exact ⟨rfl, rfl⟩), gB.mk' hG hC hS ht9_ hW⟩, hS.F ht9_⟩) hS.2.2 dX12_make_23
    · refine lv_iload_n hx hb dX12_make_16 rfl (lv_at hl 3 rfl) ?_
      refine z_bipush hx hb dX12_make_17 (by decide) ?_
      refine z_icmp_le (tgt := 24) hx hb dX12_make_19 (by decide) (by omega) (by omega) (by omega) (by omega) (fun c_13 => ?_) (fun c_13 => ?_)
      · refine lv_iload_n hx hb dX12_make_24 rfl (lv_at hl 3 rfl) ?_
        refine z_if_ge (tgt := 31) hx hb dX12_make_25 (by decide) (by omega) (by omega) (fun c_14 => ?_) (fun c_14 => ?_)
        · refine lv_aload_n hx hb dX12_make_31 rfl (lv_at hl 0 rfl) ?_
          refine g_get (C := RX12) (T := TX12) (N := 42) (ci := 11) hx hb hts (fun _ h => (List.mem_cons_of_mem _ (List.mem_append_right _ h))) hown hC.1 hG 8 (by decide) rfl rfl 36 (by decide) (hts (.fieldLink RX12 102 "StraitSwimModel" "held" "[I") (List.mem_cons_of_mem _ (List.mem_append_left _ (List.mem_of_getElem? (i := 0) rfl)))) (fun _ h9 => h9) rfl dX12_make_32 ?_
          refine lv_iload_n hx hb dX12_make_35 rfl (lv_at hl 1 rfl) ?_
          refine lv_iload_n hx hb dX12_make_36 rfl (lv_at hl 2 rfl) ?_
          refine g_iast (n := 8) hx hb hC.1 hG hS 58 (by decide) rfl rfl (by omega) (by omega) (by decide) dX12_make_37 (fun u15 H locs hu15 hG hS => ?_)
          refine lv_aload_n hx hb dX12_make_38 rfl (lv_at hl 0 rfl) ?_
          refine g_get (C := RX12) (T := TX12) (N := 42) (ci := 11) hx hb hts (fun _ h => (List.mem_cons_of_mem _ (List.mem_append_right _ h))) hown hC.1 hG 8 (by decide) rfl rfl 40 (by decide) (hts (.fieldLink RX12 114 "StraitSwimModel" "rowSize" "[I") (List.mem_cons_of_mem _ (List.mem_append_left _ (List.mem_of_getElem? (i := 1) rfl)))) (fun _ h9 => h9) rfl dX12_make_39 ?_
          refine lv_iload_n hx hb dX12_make_42 rfl (lv_at hl 1 rfl) ?_
          refine lv_iload_n hx hb dX12_make_43 rfl (lv_at hl 3 rfl) ?_
          refine g_iast (n := 8) hx hb hC.1 hG hS 62 (by decide) rfl rfl (by omega) (by omega) (by decide) dX12_make_44 (fun u16 H locs hu16 hG hS => ?_)
          refine z_iconst hx hb dX12_make_45 ?_
          refine lv_istore (lv' := [(4, .int (zI 0)), (0, .ref (ad 8)), (1, .int (zI p1)), (2, .int (zI p2)), (3, .int (zI p3))]) hx hb dX12_make_46 hl (by decide) rfl (fun ls hl => ?_)
          have loop48 : ∀ (n : Nat) (i : Int) (w : gS) (H : Heap) (locs : List Loc) (ls : Array Slot), (p3 - i).toNat < n → (0 ≤ i ∧ i ≤ 60) → (mMakL p1 p3 61 0 (sF (sF u 58 (va_up (u.2.1 58) p1.toNat p2)) 62 (va_up (u.2.1 62) p1.toNat p3)) = mMakL p1 p3 n i w) → gH D cy ad jf A w H → va_S A s.heap H locs → lv_has ls 5 [(4, .int (zI i)), (0, .ref (ad 8)), (1, .int (zI p1)), (2, .int (zI p2)), (3, .int (zI p3))] → W p l e (headSpec wsX12_make ({ frames := 2, cells := 0, slots := 0, locals := 42 })).room s m ([.ref (ad 8), .int (zI p1), .int (zI p2), .int (zI p3)]).toArray below meth c H locs 0 0 (MQ below (va_Qi (fun (r : Int32) (v : gS) => r = zI (mMake u p1 p2 p3).1 ∧ v = (mMake u p1 p2 p3).2) (gB D cy ad jf A) A) ([.ref (ad 8), .int (zI p1), .int (zI p2), .int (zI p3)]).toArray s 0 0 A) (F0 m 48 ls []) := by
            intro n
            induction n with
            | zero => intro i w H locs ls hm; exact absurd hm (Nat.not_lt_zero _)
            | succ n ih48 =>
              intro i w H locs ls hm hi hT hG hS hl
              refine lv_iload hx hb dX12_make_48 (lv_at hl 0 rfl) ?_
              refine lv_iload_n hx hb dX12_make_50 rfl (lv_at hl 4 rfl) ?_
              refine z_icmp_ge (tgt := 74) hx hb dX12_make_51 (by decide) (by omega) (by omega) (by omega) (by omega) (fun c_17 => ?_) (fun c_17 => ?_)
              · refine z_iconst hx hb dX12_make_74 ?_
                exact W.iret (v := zI 0) hx hb hr (fun t9 ht9_ hW => ⟨⟨zI 0, w, rfl, (by unfold mMake; (repeat (first | rw [if_pos (by omega)] | rw [if_neg (by omega)])); rw [hT, mMakL]; (repeat (first | rw [if_pos (by omega)] | rw [if_neg (by omega)])); all_goals exact ⟨rfl, rfl⟩), gB.mk' hG hC hS ht9_ hW⟩, hS.F ht9_⟩) hS.2.2 dX12_make_75
              · refine lv_aload_n hx hb dX12_make_54 rfl (lv_at hl 1 rfl) ?_
                refine g_get (C := RX12) (T := TX12) (N := 42) (ci := 11) hx hb hts (fun _ h => (List.mem_cons_of_mem _ (List.mem_append_right _ h))) hown hC.1 hG 8 (by decide) rfl rfl 41 (by decide) (hts (.fieldLink RX12 117 "StraitSwimModel" "rows" "[I") (List.mem_cons_of_mem _ (List.mem_append_left _ (List.mem_of_getElem? (i := 2) rfl)))) (fun _ h9 => h9) rfl dX12_make_55 ?_
                refine z_sipush hx hb dX12_make_58 (by decide) ?_
                refine lv_iload_n hx hb dX12_make_61 rfl (lv_at hl 2 rfl) ?_
                refine z_imul hx hb dX12_make_62 ?_
                refine lv_iload hx hb dX12_make_63 (lv_at hl 0 rfl) ?_
                refine z_iadd hx hb dX12_make_65 ?_
                refine z_iconst hx hb dX12_make_66 ?_
                refine g_iast (n := 1616) hx hb hC.1 hG hS 63 (by decide) rfl rfl (by omega) (by omega) (by decide) dX12_make_67 (fun u18 H locs hu18 hG hS => ?_)
                refine z_iinc (lv' := [(4, .int (zI (i + 1))), (0, .ref (ad 8)), (1, .int (zI p1)), (2, .int (zI p2)), (3, .int (zI p3))]) hx hb dX12_make_68 hl (k := 0) rfl (by decide) rfl (fun ls hl => ?_)
                refine lv_goto (tgt := 48) hx hb dX12_make_71 (by decide) ?_
                exact ih48 (i + 1) u18 _ _ _ (by omega) (by omega) (by rw [hT, mMakL, if_pos (by omega)]; subst hu18; rfl) hG hS (lv_sub hl [0, 1, 2, 3, 4] rfl)
          exact loop48 61 0 u16 _ _ _ (by omega) (by omega) (by subst hu16; subst hu15; rfl) hG hS (lv_sub hl [0, 1, 2, 3, 4] rfl)
        · refine z_bipush hx hb dX12_make_28 (by decide) ?_
          exact W.iret (v := zI ((-14))) hx hb hr (fun t9 ht9_ hW => ⟨⟨zI ((-14)), u, rfl, (by unfold mMake; (repeat (first | rw [if_pos (by omega)] | rw [if_neg (by omega)])); all_goals exact ⟨rfl, rfl⟩), gB.mk' hG hC hS ht9_ hW⟩, hS.F ht9_⟩) hS.2.2 dX12_make_30
      · refine z_iconst hx hb dX12_make_22 ?_
        exact W.iret (v := zI ((-1))) hx hb hr (fun t9 ht9_ hW => ⟨⟨zI ((-1)), u, rfl, (by unfold mMake; (repeat (first | rw [if_pos (by omega)] | rw [if_neg (by omega)])); all_goals exact ⟨rfl, rfl⟩), gB.mk' hG hC hS ht9_ hW⟩, hS.F ht9_⟩) hS.2.2 dX12_make_23
