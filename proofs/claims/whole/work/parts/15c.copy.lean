set_option maxHeartbeats 4000000 in
set_option maxRecDepth 100000 in
theorem kX12_copy (l : Launch) (D : va_G) (cy : Nat → ClassId) (ad : Nat → Nat) (jf : Nat → Int64) (A : Nat → Prop) (u : gS) (p1 p2 p3 p4 p5 : Int) (j_p1 : -2147483648 ≤ p1 ∧ p1 < 2147483648) (j_p2 : -2147483648 ≤ p2 ∧ p2 < 2147483648) (j_p3 : -2147483648 ≤ p3 ∧ p3 < 2147483648) (j_p4 : -2147483648 ≤ p4 ∧ p4 < 2147483648) (j_p5 : -2147483648 ≤ p5 ∧ p5 < 2147483648) (i58 : ∀ j, j < 8 → 0 ≤ u.2.1 58 j ∧ u.2.1 58 j ≤ 4) (i62 : ∀ j, j < 8 → 0 ≤ u.2.1 62 j ∧ u.2.1 62 j ≤ 202) : Met l yX12_copy wsX12_copy ({ frames := 2, cells := 0, slots := 0, locals := 42 }) (va_Pc [.ref (ad 8), .int (zI p1), .int (zI p2), .int (zI p3), .int (zI p4), .int (zI p5)] (gB D cy ad jf A u)) (va_Qi (fun (r : Int32) (v : gS) => r = zI (mCopy u p1 p2 p3 p4 p5).1 ∧ v = (mCopy u p1 p2 p3 p4 p5).2) (gB D cy ad jf A) A) 0 0 A := by
  refine Met.ofW (cc := cX12_copy) (maxL := 7) (ret := (some .int)) (by decide) rfl ?_
  intro p e s m args below meth c s₁ B hml hv
  obtain ⟨rfl, hG, hC⟩ := hv
  have hx := B.exec
  have hb := B.bytes
  have hr := B.returns
  have hts := atoms_spec (ws := wsX12_copy) B.pre
  have hown : s.vm.findClass RX12 = some m.cls := findClass_of_methodNamed B.named
  have hlocks := B.notSynchronized
  have hS : va_S A s.heap s.heap [] := va_S.rf
  have hl := lv_entry ([.ref (ad 8), .int (zI p1), .int (zI p2), .int (zI p3), .int (zI p4), .int (zI p5)]) (n := 7) (Nat.le_of_ble_eq_true rfl)
  rw [lg_entry_eq]
  generalize (lg_sl ([.ref (ad 8), .int (zI p1), .int (zI p2), .int (zI p3), .int (zI p4), .int (zI p5)]) ++ List.replicate (7 - (lg_sl ([.ref (ad 8), .int (zI p1), .int (zI p2), .int (zI p3), .int (zI p4), .int (zI p5)])).length) Slot.unset).toArray = ls at hl ⊢
  have hl : lv_has ls 7 [(0, .ref (ad 8)), (1, .int (zI p1)), (2, .int (zI p2)), (3, .int (zI p3)), (4, .int (zI p4)), (5, .int (zI p5))] := hl
  refine lv_iload_n hx hb dX12_copy_0 rfl (lv_at hl 1 rfl) ?_
  refine g_calli (va_runS (As := [.int (zI p1)]) (rest := []) ⟨hx, hb, hml, hown, hts⟩ (kX12_isShelf l D cy ad jf A u p1 (by omega)) (va_cwS 1 hts gX12_copy_X12_isShelf rfl rfl rfl (by decide +kernel) ⟨by decide, by decide⟩) (g_preS hG hC hS) rfl rfl hl.1 rfl (lv_room (Nat.le_of_ble_eq_true rfl)) dX12_copy_1 ⟨Nat.le_of_ble_eq_true rfl, Nat.le_of_ble_eq_true rfl⟩) hS (fun r1 u2 H locs p_3 hG hS => ?_)
  obtain ⟨⟨b4, rfl, q_5⟩, he_⟩ := p_3
  rw [he_] at hG; clear he_
  have hbb4 : 0 ≤ b4 ∧ b4 ≤ 1 := by rcases q_5 with ⟨h, _⟩ | ⟨h, _⟩ <;> omega
  refine z_if_eq (tgt := 14) hx hb dX12_copy_4 (by decide) (by omega) (by omega) (fun c_6 => ?_) (fun c_6 => ?_)
  · refine z_iconst hx hb dX12_copy_14 ?_
    exact W.iret (v := zI ((-1))) hx hb hr (fun t9 ht9_ hW => ⟨⟨zI ((-1)), u, rfl, (by unfold mCopy; (repeat (first | rw [if_pos (by omega)] | rw [if_neg (by omega)])); all_goals exact ⟨rfl, rfl⟩), gB.mk' hG hC hS ht9_ hW⟩, hS.F ht9_⟩) hS.2.2 dX12_copy_15
  · refine lv_iload_n hx hb dX12_copy_7 rfl (lv_at hl 3 rfl) ?_
    refine g_calli (va_runS (As := [.int (zI p3)]) (rest := []) ⟨hx, hb, hml, hown, hts⟩ (kX12_isShelf l D cy ad jf A u p3 (by omega)) (va_cwS 1 hts gX12_copy_X12_isShelf rfl rfl rfl (by decide +kernel) ⟨by decide, by decide⟩) (g_preS hG hC hS) rfl rfl hl.1 rfl (lv_room (Nat.le_of_ble_eq_true rfl)) dX12_copy_8 ⟨Nat.le_of_ble_eq_true rfl, Nat.le_of_ble_eq_true rfl⟩) hS (fun r7 u8 H locs p_9 hG hS => ?_)
    obtain ⟨⟨b10, rfl, q_11⟩, he_⟩ := p_9
    rw [he_] at hG; clear he_
    have hbb10 : 0 ≤ b10 ∧ b10 ≤ 1 := by rcases q_11 with ⟨h, _⟩ | ⟨h, _⟩ <;> omega
    refine z_if_ne (tgt := 16) hx hb dX12_copy_11 (by decide) (by omega) (by omega) (fun c_12 => ?_) (fun c_12 => ?_)
    · refine lv_aload_n hx hb dX12_copy_16 rfl (lv_at hl 0 rfl) ?_
      refine g_get (C := RX12) (T := TX12) (N := 42) (ci := 11) hx hb hts (fun _ h => (List.mem_cons_of_mem _ (List.mem_append_right _ h))) hown hC.1 hG 8 (by decide) rfl rfl 36 (by decide) (hts (.fieldLink RX12 102 "StraitSwimModel" "held" "[I") (List.mem_cons_of_mem _ (List.mem_append_left _ (List.mem_of_getElem? (i := 0) rfl)))) (fun _ h9 => h9) rfl dX12_copy_17 ?_
      refine lv_iload_n hx hb dX12_copy_20 rfl (lv_at hl 1 rfl) ?_
      refine g_iald (n := 8) hx hb hC.1 hG 58 (by decide) rfl (by omega) (by omega) (by decide) dX12_copy_21 ?_
      have q_13 := i58 p1.toNat (by omega)
      refine z_if_eq (tgt := 34) hx hb dX12_copy_22 (by decide) (by omega) (by omega) (fun c_14 => ?_) (fun c_14 => ?_)
      · refine z_bipush hx hb dX12_copy_34 (by decide) ?_
        exact W.iret (v := zI ((-11))) hx hb hr (fun t9 ht9_ hW => ⟨⟨zI ((-11)), u, rfl, (by unfold mCopy; (repeat (first | rw [if_pos (by omega)] | rw [if_neg (by omega)])); all_goals exact ⟨rfl, rfl⟩), gB.mk' hG hC hS ht9_ hW⟩, hS.F ht9_⟩) hS.2.2 dX12_copy_36
      · refine lv_aload_n hx hb dX12_copy_25 rfl (lv_at hl 0 rfl) ?_
        refine g_get (C := RX12) (T := TX12) (N := 42) (ci := 11) hx hb hts (fun _ h => (List.mem_cons_of_mem _ (List.mem_append_right _ h))) hown hC.1 hG 8 (by decide) rfl rfl 36 (by decide) (hts (.fieldLink RX12 102 "StraitSwimModel" "held" "[I") (List.mem_cons_of_mem _ (List.mem_append_left _ (List.mem_of_getElem? (i := 0) rfl)))) (fun _ h9 => h9) rfl dX12_copy_26 ?_
        refine lv_iload_n hx hb dX12_copy_29 rfl (lv_at hl 3 rfl) ?_
        refine g_iald (n := 8) hx hb hC.1 hG 58 (by decide) rfl (by omega) (by omega) (by decide) dX12_copy_30 ?_
        have q_15 := i58 p3.toNat (by omega)
        refine z_if_ne (tgt := 37) hx hb dX12_copy_31 (by decide) (by omega) (by omega) (fun c_16 => ?_) (fun c_16 => ?_)
        · refine lv_aload_n hx hb dX12_copy_37 rfl (lv_at hl 0 rfl) ?_
          refine g_get (C := RX12) (T := TX12) (N := 42) (ci := 11) hx hb hts (fun _ h => (List.mem_cons_of_mem _ (List.mem_append_right _ h))) hown hC.1 hG 8 (by decide) rfl rfl 36 (by decide) (hts (.fieldLink RX12 102 "StraitSwimModel" "held" "[I") (List.mem_cons_of_mem _ (List.mem_append_left _ (List.mem_of_getElem? (i := 0) rfl)))) (fun _ h9 => h9) rfl dX12_copy_38 ?_
          refine lv_iload_n hx hb dX12_copy_41 rfl (lv_at hl 1 rfl) ?_
          refine g_iald (n := 8) hx hb hC.1 hG 58 (by decide) rfl (by omega) (by omega) (by decide) dX12_copy_42 ?_
          have q_17 := i58 p1.toNat (by omega)
          refine z_iconst hx hb dX12_copy_43 ?_
          refine z_icmp_lt (tgt := 62) hx hb dX12_copy_44 (by decide) (by omega) (by omega) (by omega) (by omega) (fun c_18 => ?_) (fun c_18 => ?_)
          · refine z_bipush hx hb dX12_copy_62 (by decide) ?_
            exact W.iret (v := zI ((-12))) hx hb hr (fun t9 ht9_ hW => ⟨⟨zI ((-12)), u, rfl, (by unfold mCopy; (repeat (first | rw [if_pos (by omega)] | rw [if_neg (by omega)])); all_goals exact ⟨rfl, rfl⟩), gB.mk' hG hC hS ht9_ hW⟩, hS.F ht9_⟩) hS.2.2 dX12_copy_64
          · refine lv_aload_n hx hb dX12_copy_47 rfl (lv_at hl 0 rfl) ?_
            refine g_get (C := RX12) (T := TX12) (N := 42) (ci := 11) hx hb hts (fun _ h => (List.mem_cons_of_mem _ (List.mem_append_right _ h))) hown hC.1 hG 8 (by decide) rfl rfl 36 (by decide) (hts (.fieldLink RX12 102 "StraitSwimModel" "held" "[I") (List.mem_cons_of_mem _ (List.mem_append_left _ (List.mem_of_getElem? (i := 0) rfl)))) (fun _ h9 => h9) rfl dX12_copy_48 ?_
            refine lv_iload_n hx hb dX12_copy_51 rfl (lv_at hl 1 rfl) ?_
            refine g_iald (n := 8) hx hb hC.1 hG 58 (by decide) rfl (by omega) (by omega) (by decide) dX12_copy_52 ?_
            have q_19 := i58 p1.toNat (by omega)
            refine lv_aload_n hx hb dX12_copy_53 rfl (lv_at hl 0 rfl) ?_
            refine g_get (C := RX12) (T := TX12) (N := 42) (ci := 11) hx hb hts (fun _ h => (List.mem_cons_of_mem _ (List.mem_append_right _ h))) hown hC.1 hG 8 (by decide) rfl rfl 36 (by decide) (hts (.fieldLink RX12 102 "StraitSwimModel" "held" "[I") (List.mem_cons_of_mem _ (List.mem_append_left _ (List.mem_of_getElem? (i := 0) rfl)))) (fun _ h9 => h9) rfl dX12_copy_54 ?_
            refine lv_iload_n hx hb dX12_copy_57 rfl (lv_at hl 3 rfl) ?_
            refine g_iald (n := 8) hx hb hC.1 hG 58 (by decide) rfl (by omega) (by omega) (by decide) dX12_copy_58 ?_
            have q_20 := i58 p3.toNat (by omega)
            refine z_icmp_eq (tgt := 65) hx hb dX12_copy_59 (by decide) (by omega) (by omega) (by omega) (by omega) (fun c_21 => ?_) (fun c_21 => ?_)
            · refine lv_iload hx hb dX12_copy_65 (lv_at hl 5 rfl) ?_
              refine z_if_lt (tgt := 106) hx hb dX12_copy_67 (by decide) (by omega) (by omega) (fun c_22 => ?_) (fun c_22 => ?_)
              · refine z_bipush hx hb dX12_copy_106 (by decide) ?_
                exact W.iret (v := zI ((-13))) hx hb hr (fun t9 ht9_ hW => ⟨⟨zI ((-13)), u, rfl, (by unfold mCopy; (repeat (first | rw [if_pos (by omega)] | rw [if_neg (by omega)])); all_goals exact ⟨rfl, rfl⟩), gB.mk' hG hC hS ht9_ hW⟩, hS.F ht9_⟩) hS.2.2 dX12_copy_108
              · refine lv_iload_n hx hb dX12_copy_70 rfl (lv_at hl 2 rfl) ?_
                refine z_if_lt (tgt := 106) hx hb dX12_copy_71 (by decide) (by omega) (by omega) (fun c_23 => ?_) (fun c_23 => ?_)
                · refine z_bipush hx hb dX12_copy_106 (by decide) ?_
                  exact W.iret (v := zI ((-13))) hx hb hr (fun t9 ht9_ hW => ⟨⟨zI ((-13)), u, rfl, (by unfold mCopy; (repeat (first | rw [if_pos (by omega)] | rw [if_neg (by omega)])); all_goals exact ⟨rfl, rfl⟩), gB.mk' hG hC hS ht9_ hW⟩, hS.F ht9_⟩) hS.2.2 dX12_copy_108
                · refine lv_iload hx hb dX12_copy_74 (lv_at hl 4 rfl) ?_
                  refine z_if_lt (tgt := 106) hx hb dX12_copy_76 (by decide) (by omega) (by omega) (fun c_24 => ?_) (fun c_24 => ?_)
                  · refine z_bipush hx hb dX12_copy_106 (by decide) ?_
                    exact W.iret (v := zI ((-13))) hx hb hr (fun t9 ht9_ hW => ⟨⟨zI ((-13)), u, rfl, (by unfold mCopy; (repeat (first | rw [if_pos (by omega)] | rw [if_neg (by omega)])); all_goals exact ⟨rfl, rfl⟩), gB.mk' hG hC hS ht9_ hW⟩, hS.F ht9_⟩) hS.2.2 dX12_copy_108
                  · refine lv_iload_n hx hb dX12_copy_79 rfl (lv_at hl 2 rfl) ?_
                    refine lv_aload_n hx hb dX12_copy_80 rfl (lv_at hl 0 rfl) ?_
                    refine g_get (C := RX12) (T := TX12) (N := 42) (ci := 11) hx hb hts (fun _ h => (List.mem_cons_of_mem _ (List.mem_append_right _ h))) hown hC.1 hG 8 (by decide) rfl rfl 40 (by decide) (hts (.fieldLink RX12 114 "StraitSwimModel" "rowSize" "[I") (List.mem_cons_of_mem _ (List.mem_append_left _ (List.mem_of_getElem? (i := 1) rfl)))) (fun _ h9 => h9) rfl dX12_copy_81 ?_
                    refine lv_iload_n hx hb dX12_copy_84 rfl (lv_at hl 1 rfl) ?_
                    refine g_iald (n := 8) hx hb hC.1 hG 62 (by decide) rfl (by omega) (by omega) (by decide) dX12_copy_85 ?_
                    have q_25 := i62 p1.toNat (by omega)
                    refine lv_iload hx hb dX12_copy_86 (lv_at hl 5 rfl) ?_
                    refine z_isub hx hb dX12_copy_88 ?_
                    refine z_icmp_gt (tgt := 106) hx hb dX12_copy_89 (by decide) (by omega) (by omega) (by omega) (by omega) (fun c_26 => ?_) (fun c_26 => ?_)
                    · refine z_bipush hx hb dX12_copy_106 (by decide) ?_
                      exact W.iret (v := zI ((-13))) hx hb hr (fun t9 ht9_ hW => ⟨⟨zI ((-13)), u, rfl, (by unfold mCopy; (repeat (first | rw [if_pos (by omega)] | rw [if_neg (by omega)])); all_goals exact ⟨rfl, rfl⟩), gB.mk' hG hC hS ht9_ hW⟩, hS.F ht9_⟩) hS.2.2 dX12_copy_108
                    · refine lv_iload hx hb dX12_copy_92 (lv_at hl 4 rfl) ?_
                      refine lv_aload_n hx hb dX12_copy_94 rfl (lv_at hl 0 rfl) ?_
                      refine g_get (C := RX12) (T := TX12) (N := 42) (ci := 11) hx hb hts (fun _ h => (List.mem_cons_of_mem _ (List.mem_append_right _ h))) hown hC.1 hG 8 (by decide) rfl rfl 40 (by decide) (hts (.fieldLink RX12 114 "StraitSwimModel" "rowSize" "[I") (List.mem_cons_of_mem _ (List.mem_append_left _ (List.mem_of_getElem? (i := 1) rfl)))) (fun _ h9 => h9) rfl dX12_copy_95 ?_
                      refine lv_iload_n hx hb dX12_copy_98 rfl (lv_at hl 3 rfl) ?_
                      refine g_iald (n := 8) hx hb hC.1 hG 62 (by decide) rfl (by omega) (by omega) (by decide) dX12_copy_99 ?_
                      have q_27 := i62 p3.toNat (by omega)
                      refine lv_iload hx hb dX12_copy_100 (lv_at hl 5 rfl) ?_
                      refine z_isub hx hb dX12_copy_102 ?_
                      refine z_icmp_le (tgt := 109) hx hb dX12_copy_103 (by decide) (by omega) (by omega) (by omega) (by omega) (fun c_28 => ?_) (fun c_28 => ?_)
                      · refine z_iconst hx hb dX12_copy_109 ?_
                        refine lv_istore (lv' := [(6, .int (zI 0)), (0, .ref (ad 8)), (1, .int (zI p1)), (2, .int (zI p2)), (3, .int (zI p3)), (4, .int (zI p4)), (5, .int (zI p5))]) hx hb dX12_copy_110 hl (by decide) rfl (fun ls hl => ?_)
                        have loop112 : ∀ (n : Nat) (k : Int) (w : gS) (H : Heap) (locs : List Loc) (ls : Array Slot), (p5 - k).toNat < n → (0 ≤ k ∧ k ≤ p5) → (mCpF p1 p2 p3 p4 p5 203 0 u = mCpF p1 p2 p3 p4 p5 n k w) → gH D cy ad jf A w H → va_S A s.heap H locs → lv_has ls 7 [(6, .int (zI k)), (0, .ref (ad 8)), (1, .int (zI p1)), (2, .int (zI p2)), (3, .int (zI p3)), (4, .int (zI p4)), (5, .int (zI p5))] → W p l e (headSpec wsX12_copy ({ frames := 2, cells := 0, slots := 0, locals := 42 })).room s m ([.ref (ad 8), .int (zI p1), .int (zI p2), .int (zI p3), .int (zI p4), .int (zI p5)]).toArray below meth c H locs 0 0 (MQ below (va_Qi (fun (r : Int32) (v : gS) => r = zI (mCopy u p1 p2 p3 p4 p5).1 ∧ v = (mCopy u p1 p2 p3 p4 p5).2) (gB D cy ad jf A) A) ([.ref (ad 8), .int (zI p1), .int (zI p2), .int (zI p3), .int (zI p4), .int (zI p5)]).toArray s 0 0 A) (F0 m 112 ls []) := by
                          intro n
                          induction n with
                          | zero => intro k w H locs ls hm; exact absurd hm (Nat.not_lt_zero _)
                          | succ n ih112 =>
                            intro k w H locs ls hm hk9 hT hG hS hl
                            refine lv_iload hx hb dX12_copy_112 (lv_at hl 0 rfl) ?_
                            refine lv_iload hx hb dX12_copy_114 (lv_at hl 6 rfl) ?_
                            refine z_icmp_ge (tgt := 167) hx hb dX12_copy_116 (by decide) (by omega) (by omega) (by omega) (by omega) (fun c_29 => ?_) (fun c_29 => ?_)
                            · have hF9 : mCpF p1 p2 p3 p4 p5 203 0 u = w := by rw [hT, mCpF]; (repeat (first | rw [if_pos (by omega)] | rw [if_neg (by omega)])); all_goals rfl
                              refine lv_iload hx hb dX12_copy_167 (lv_at hl 6 rfl) ?_
                              refine z_iconst hx hb dX12_copy_169 ?_
                              refine z_isub hx hb dX12_copy_170 ?_
                              refine lv_istore (lv' := [(6, .int (zI (p5 - 1))), (0, .ref (ad 8)), (1, .int (zI p1)), (2, .int (zI p2)), (3, .int (zI p3)), (4, .int (zI p4)), (5, .int (zI p5))]) hx hb dX12_copy_171 hl (by decide) rfl (fun ls hl => ?_)
                              have loop173 : ∀ (n : Nat) (k2 : Int) (w2 : gS) (H : Heap) (locs : List Loc) (ls : Array Slot), (k2 + 1).toNat < n → (-1 ≤ k2 ∧ k2 < p5) → (mCpB p1 p2 p3 p4 203 (p5 - 1) w = mCpB p1 p2 p3 p4 n k2 w2) → gH D cy ad jf A w2 H → va_S A s.heap H locs → lv_has ls 7 [(6, .int (zI k2)), (0, .ref (ad 8)), (1, .int (zI p1)), (2, .int (zI p2)), (3, .int (zI p3)), (4, .int (zI p4)), (5, .int (zI p5))] → W p l e (headSpec wsX12_copy ({ frames := 2, cells := 0, slots := 0, locals := 42 })).room s m ([.ref (ad 8), .int (zI p1), .int (zI p2), .int (zI p3), .int (zI p4), .int (zI p5)]).toArray below meth c H locs 0 0 (MQ below (va_Qi (fun (r : Int32) (v : gS) => r = zI (mCopy u p1 p2 p3 p4 p5).1 ∧ v = (mCopy u p1 p2 p3 p4 p5).2) (gB D cy ad jf A) A) ([.ref (ad 8), .int (zI p1), .int (zI p2), .int (zI p3), .int (zI p4), .int (zI p5)]).toArray s 0 0 A) (F0 m 173 ls []) := by
                                intro n
                                induction n with
                                | zero => intro k2 w2 H locs ls hm; exact absurd hm (Nat.not_lt_zero _)
                                | succ n ih173 =>
                                  intro k2 w2 H locs ls hm hk2 hB9 hG hS hl
                                  refine lv_iload hx hb dX12_copy_173 (lv_at hl 0 rfl) ?_
                                  refine z_if_lt (tgt := 226) hx hb dX12_copy_175 (by decide) (by omega) (by omega) (fun c_30 => ?_) (fun c_30 => ?_)
                                  · refine lv_iload hx hb dX12_copy_226 (lv_at hl 6 rfl) ?_
                                    exact W.iret (v := zI p5) hx hb hr (fun t9 ht9_ hW => ⟨⟨zI p5, w2, rfl, (by first | (exfalso; omega) | (unfold mCopy; (repeat (first | rw [if_pos (by omega)] | rw [if_neg (by omega)])); rw [hF9, hB9, mCpB]; (repeat (first | rw [if_pos (by omega)] | rw [if_neg (by omega)])); all_goals exact ⟨rfl, rfl⟩)), gB.mk' hG hC hS ht9_ hW⟩, hS.F ht9_⟩) hS.2.2 dX12_copy_228
                                  · refine lv_iload_n hx hb dX12_copy_178 rfl (lv_at hl 2 rfl) ?_
                                    refine lv_iload_n hx hb dX12_copy_179 rfl (lv_at hl 4 rfl) ?_
                                    refine z_icmp_ne (tgt := 226) hx hb dX12_copy_180 (by decide) (by omega) (by omega) (by omega) (by omega) (fun c_31 => ?_) (fun c_31 => ?_)
                                    · refine lv_iload hx hb dX12_copy_226 (lv_at hl 6 rfl) ?_
                                      exact W.iret (v := zI p5) hx hb hr (fun t9 ht9_ hW => ⟨⟨zI p5, w2, rfl, (by first | (exfalso; omega) | (unfold mCopy; (repeat (first | rw [if_pos (by omega)] | rw [if_neg (by omega)])); rw [hF9, hB9, mCpB]; (repeat (first | rw [if_pos (by omega)] | rw [if_neg (by omega)])); all_goals exact ⟨rfl, rfl⟩)), gB.mk' hG hC hS ht9_ hW⟩, hS.F ht9_⟩) hS.2.2 dX12_copy_228
                                    · refine lv_iload_n hx hb dX12_copy_183 rfl (lv_at hl 3 rfl) ?_
                                      refine lv_iload hx hb dX12_copy_184 (lv_at hl 5 rfl) ?_
                                      refine z_icmp_ge (tgt := 226) hx hb dX12_copy_186 (by decide) (by omega) (by omega) (by omega) (by omega) (fun c_32 => ?_) (fun c_32 => ?_)
                                      · refine lv_iload hx hb dX12_copy_226 (lv_at hl 6 rfl) ?_
                                        exact W.iret (v := zI p5) hx hb hr (fun t9 ht9_ hW => ⟨⟨zI p5, w2, rfl, (by first | (exfalso; omega) | (unfold mCopy; (repeat (first | rw [if_pos (by omega)] | rw [if_neg (by omega)])); rw [hF9, hB9, mCpB]; (repeat (first | rw [if_pos (by omega)] | rw [if_neg (by omega)])); all_goals exact ⟨rfl, rfl⟩)), gB.mk' hG hC hS ht9_ hW⟩, hS.F ht9_⟩) hS.2.2 dX12_copy_228
                                      · refine lv_aload_n hx hb dX12_copy_189 rfl (lv_at hl 1 rfl) ?_
                                        refine g_get (C := RX12) (T := TX12) (N := 42) (ci := 11) hx hb hts (fun _ h => (List.mem_cons_of_mem _ (List.mem_append_right _ h))) hown hC.1 hG 8 (by decide) rfl rfl 41 (by decide) (hts (.fieldLink RX12 117 "StraitSwimModel" "rows" "[I") (List.mem_cons_of_mem _ (List.mem_append_left _ (List.mem_of_getElem? (i := 2) rfl)))) (fun _ h9 => h9) rfl dX12_copy_190 ?_
                                        refine z_sipush hx hb dX12_copy_193 (by decide) ?_
                                        refine lv_iload_n hx hb dX12_copy_196 rfl (lv_at hl 4 rfl) ?_
                                        refine z_imul hx hb dX12_copy_197 ?_
                                        refine lv_iload hx hb dX12_copy_198 (lv_at hl 5 rfl) ?_
                                        refine z_iadd hx hb dX12_copy_200 ?_
                                        refine lv_iload hx hb dX12_copy_201 (lv_at hl 0 rfl) ?_
                                        refine z_iadd hx hb dX12_copy_203 ?_
                                        refine lv_aload_n hx hb dX12_copy_204 rfl (lv_at hl 1 rfl) ?_
                                        refine g_get (C := RX12) (T := TX12) (N := 42) (ci := 11) hx hb hts (fun _ h => (List.mem_cons_of_mem _ (List.mem_append_right _ h))) hown hC.1 hG 8 (by decide) rfl rfl 41 (by decide) (hts (.fieldLink RX12 117 "StraitSwimModel" "rows" "[I") (List.mem_cons_of_mem _ (List.mem_append_left _ (List.mem_of_getElem? (i := 2) rfl)))) (fun _ h9 => h9) rfl dX12_copy_205 ?_
                                        refine z_sipush hx hb dX12_copy_208 (by decide) ?_
                                        refine lv_iload_n hx hb dX12_copy_211 rfl (lv_at hl 2 rfl) ?_
                                        refine z_imul hx hb dX12_copy_212 ?_
                                        refine lv_iload_n hx hb dX12_copy_213 rfl (lv_at hl 3 rfl) ?_
                                        refine z_iadd hx hb dX12_copy_214 ?_
                                        refine lv_iload hx hb dX12_copy_215 (lv_at hl 0 rfl) ?_
                                        refine z_iadd hx hb dX12_copy_217 ?_
                                        refine g_iald (n := 1616) hx hb hC.1 hG 63 (by decide) rfl (by omega) (by omega) (by decide) dX12_copy_218 ?_
                                        refine g_iast (n := 1616) hx hb hC.1 hG hS 63 (by decide) rfl rfl (by omega) (by omega) (by decide) dX12_copy_219 (fun u33 H locs hu33 hG hS => ?_)
                                        refine z_iinc (lv' := [(6, .int (zI (k2 + (-1)))), (0, .ref (ad 8)), (1, .int (zI p1)), (2, .int (zI p2)), (3, .int (zI p3)), (4, .int (zI p4)), (5, .int (zI p5))]) hx hb dX12_copy_220 hl (k := 0) rfl (by decide) rfl (fun ls hl => ?_)
                                        refine lv_goto (tgt := 173) hx hb dX12_copy_223 (by decide) ?_
                                        exact ih173 (k2 + (-1)) u33 _ _ _ (by omega) (by omega) (by rw [hB9, mCpB]; (repeat (first | rw [if_pos (by omega)] | rw [if_neg (by omega)])); subst hu33; rfl) hG hS (lv_sub hl [0, 1, 2, 3, 4, 5, 6] rfl)
                              exact loop173 203 (p5 - 1) w _ _ _ (by omega) (by omega) (by rfl) hG hS (lv_sub hl [0, 1, 2, 3, 4, 5, 6] rfl)
                            · refine lv_iload_n hx hb dX12_copy_119 rfl (lv_at hl 2 rfl) ?_
                              refine lv_iload_n hx hb dX12_copy_120 rfl (lv_at hl 4 rfl) ?_
                              refine z_icmp_ne (tgt := 130) hx hb dX12_copy_121 (by decide) (by omega) (by omega) (by omega) (by omega) (fun c_34 => ?_) (fun c_34 => ?_)
                              · refine lv_aload_n hx hb dX12_copy_130 rfl (lv_at hl 1 rfl) ?_
                                refine g_get (C := RX12) (T := TX12) (N := 42) (ci := 11) hx hb hts (fun _ h => (List.mem_cons_of_mem _ (List.mem_append_right _ h))) hown hC.1 hG 8 (by decide) rfl rfl 41 (by decide) (hts (.fieldLink RX12 117 "StraitSwimModel" "rows" "[I") (List.mem_cons_of_mem _ (List.mem_append_left _ (List.mem_of_getElem? (i := 2) rfl)))) (fun _ h9 => h9) rfl dX12_copy_131 ?_
                                refine z_sipush hx hb dX12_copy_134 (by decide) ?_
                                refine lv_iload_n hx hb dX12_copy_137 rfl (lv_at hl 4 rfl) ?_
                                refine z_imul hx hb dX12_copy_138 ?_
                                refine lv_iload hx hb dX12_copy_139 (lv_at hl 5 rfl) ?_
                                refine z_iadd hx hb dX12_copy_141 ?_
                                refine lv_iload hx hb dX12_copy_142 (lv_at hl 0 rfl) ?_
                                refine z_iadd hx hb dX12_copy_144 ?_
                                refine lv_aload_n hx hb dX12_copy_145 rfl (lv_at hl 1 rfl) ?_
                                refine g_get (C := RX12) (T := TX12) (N := 42) (ci := 11) hx hb hts (fun _ h => (List.mem_cons_of_mem _ (List.mem_append_right _ h))) hown hC.1 hG 8 (by decide) rfl rfl 41 (by decide) (hts (.fieldLink RX12 117 "StraitSwimModel" "rows" "[I") (List.mem_cons_of_mem _ (List.mem_append_left _ (List.mem_of_getElem? (i := 2) rfl)))) (fun _ h9 => h9) rfl dX12_copy_146 ?_
                                refine z_sipush hx hb dX12_copy_149 (by decide) ?_
                                refine lv_iload_n hx hb dX12_copy_152 rfl (lv_at hl 2 rfl) ?_
                                refine z_imul hx hb dX12_copy_153 ?_
                                refine lv_iload_n hx hb dX12_copy_154 rfl (lv_at hl 3 rfl) ?_
                                refine z_iadd hx hb dX12_copy_155 ?_
                                refine lv_iload hx hb dX12_copy_156 (lv_at hl 0 rfl) ?_
                                refine z_iadd hx hb dX12_copy_158 ?_
                                refine g_iald (n := 1616) hx hb hC.1 hG 63 (by decide) rfl (by omega) (by omega) (by decide) dX12_copy_159 ?_
                                refine g_iast (n := 1616) hx hb hC.1 hG hS 63 (by decide) rfl rfl (by omega) (by omega) (by decide) dX12_copy_160 (fun u35 H locs hu35 hG hS => ?_)
                                refine z_iinc (lv' := [(6, .int (zI (k + 1))), (0, .ref (ad 8)), (1, .int (zI p1)), (2, .int (zI p2)), (3, .int (zI p3)), (4, .int (zI p4)), (5, .int (zI p5))]) hx hb dX12_copy_161 hl (k := 0) rfl (by decide) rfl (fun ls hl => ?_)
                                refine lv_goto (tgt := 112) hx hb dX12_copy_164 (by decide) ?_
                                exact ih112 (k + 1) u35 _ _ _ (by omega) (by omega) (by rw [hT, mCpF]; (repeat (first | rw [if_pos (by omega)] | rw [if_neg (by omega)])); subst hu35; rfl) hG hS (lv_sub hl [0, 1, 2, 3, 4, 5, 6] rfl)
                              · refine lv_iload_n hx hb dX12_copy_124 rfl (lv_at hl 3 rfl) ?_
                                refine lv_iload hx hb dX12_copy_125 (lv_at hl 5 rfl) ?_
                                refine z_icmp_lt (tgt := 167) hx hb dX12_copy_127 (by decide) (by omega) (by omega) (by omega) (by omega) (fun c_36 => ?_) (fun c_36 => ?_)
                                · have hF9 : mCpF p1 p2 p3 p4 p5 203 0 u = w := by rw [hT, mCpF]; (repeat (first | rw [if_pos (by omega)] | rw [if_neg (by omega)])); all_goals rfl
                                  refine lv_iload hx hb dX12_copy_167 (lv_at hl 6 rfl) ?_
                                  refine z_iconst hx hb dX12_copy_169 ?_
                                  refine z_isub hx hb dX12_copy_170 ?_
                                  refine lv_istore (lv' := [(6, .int (zI (p5 - 1))), (0, .ref (ad 8)), (1, .int (zI p1)), (2, .int (zI p2)), (3, .int (zI p3)), (4, .int (zI p4)), (5, .int (zI p5))]) hx hb dX12_copy_171 hl (by decide) rfl (fun ls hl => ?_)
                                  have loop173 : ∀ (n : Nat) (k2 : Int) (w2 : gS) (H : Heap) (locs : List Loc) (ls : Array Slot), (k2 + 1).toNat < n → (-1 ≤ k2 ∧ k2 < p5) → (mCpB p1 p2 p3 p4 203 (p5 - 1) w = mCpB p1 p2 p3 p4 n k2 w2) → gH D cy ad jf A w2 H → va_S A s.heap H locs → lv_has ls 7 [(6, .int (zI k2)), (0, .ref (ad 8)), (1, .int (zI p1)), (2, .int (zI p2)), (3, .int (zI p3)), (4, .int (zI p4)), (5, .int (zI p5))] → W p l e (headSpec wsX12_copy ({ frames := 2, cells := 0, slots := 0, locals := 42 })).room s m ([.ref (ad 8), .int (zI p1), .int (zI p2), .int (zI p3), .int (zI p4), .int (zI p5)]).toArray below meth c H locs 0 0 (MQ below (va_Qi (fun (r : Int32) (v : gS) => r = zI (mCopy u p1 p2 p3 p4 p5).1 ∧ v = (mCopy u p1 p2 p3 p4 p5).2) (gB D cy ad jf A) A) ([.ref (ad 8), .int (zI p1), .int (zI p2), .int (zI p3), .int (zI p4), .int (zI p5)]).toArray s 0 0 A) (F0 m 173 ls []) := by
                                    intro n
                                    induction n with
                                    | zero => intro k2 w2 H locs ls hm; exact absurd hm (Nat.not_lt_zero _)
                                    | succ n ih173 =>
                                      intro k2 w2 H locs ls hm hk2 hB9 hG hS hl
                                      refine lv_iload hx hb dX12_copy_173 (lv_at hl 0 rfl) ?_
                                      refine z_if_lt (tgt := 226) hx hb dX12_copy_175 (by decide) (by omega) (by omega) (fun c_37 => ?_) (fun c_37 => ?_)
                                      · refine lv_iload hx hb dX12_copy_226 (lv_at hl 6 rfl) ?_
                                        exact W.iret (v := zI p5) hx hb hr (fun t9 ht9_ hW => ⟨⟨zI p5, w2, rfl, (by first | (exfalso; omega) | (unfold mCopy; (repeat (first | rw [if_pos (by omega)] | rw [if_neg (by omega)])); rw [hF9, hB9, mCpB]; (repeat (first | rw [if_pos (by omega)] | rw [if_neg (by omega)])); all_goals exact ⟨rfl, rfl⟩)), gB.mk' hG hC hS ht9_ hW⟩, hS.F ht9_⟩) hS.2.2 dX12_copy_228
                                      · refine lv_iload_n hx hb dX12_copy_178 rfl (lv_at hl 2 rfl) ?_
                                        refine lv_iload_n hx hb dX12_copy_179 rfl (lv_at hl 4 rfl) ?_
                                        refine z_icmp_ne (tgt := 226) hx hb dX12_copy_180 (by decide) (by omega) (by omega) (by omega) (by omega) (fun c_38 => ?_) (fun c_38 => ?_)
                                        · refine lv_iload hx hb dX12_copy_226 (lv_at hl 6 rfl) ?_
                                          exact W.iret (v := zI p5) hx hb hr (fun t9 ht9_ hW => ⟨⟨zI p5, w2, rfl, (by first | (exfalso; omega) | (unfold mCopy; (repeat (first | rw [if_pos (by omega)] | rw [if_neg (by omega)])); rw [hF9, hB9, mCpB]; (repeat (first | rw [if_pos (by omega)] | rw [if_neg (by omega)])); all_goals exact ⟨rfl, rfl⟩)), gB.mk' hG hC hS ht9_ hW⟩, hS.F ht9_⟩) hS.2.2 dX12_copy_228
                                        · refine lv_iload_n hx hb dX12_copy_183 rfl (lv_at hl 3 rfl) ?_
                                          refine lv_iload hx hb dX12_copy_184 (lv_at hl 5 rfl) ?_
                                          refine z_icmp_ge (tgt := 226) hx hb dX12_copy_186 (by decide) (by omega) (by omega) (by omega) (by omega) (fun c_39 => ?_) (fun c_39 => ?_)
                                          · refine lv_iload hx hb dX12_copy_226 (lv_at hl 6 rfl) ?_
                                            exact W.iret (v := zI p5) hx hb hr (fun t9 ht9_ hW => ⟨⟨zI p5, w2, rfl, (by first | (exfalso; omega) | (unfold mCopy; (repeat (first | rw [if_pos (by omega)] | rw [if_neg (by omega)])); rw [hF9, hB9, mCpB]; (repeat (first | rw [if_pos (by omega)] | rw [if_neg (by omega)])); all_goals exact ⟨rfl, rfl⟩)), gB.mk' hG hC hS ht9_ hW⟩, hS.F ht9_⟩) hS.2.2 dX12_copy_228
                                          · refine lv_aload_n hx hb dX12_copy_189 rfl (lv_at hl 1 rfl) ?_
                                            refine g_get (C := RX12) (T := TX12) (N := 42) (ci := 11) hx hb hts (fun _ h => (List.mem_cons_of_mem _ (List.mem_append_right _ h))) hown hC.1 hG 8 (by decide) rfl rfl 41 (by decide) (hts (.fieldLink RX12 117 "StraitSwimModel" "rows" "[I") (List.mem_cons_of_mem _ (List.mem_append_left _ (List.mem_of_getElem? (i := 2) rfl)))) (fun _ h9 => h9) rfl dX12_copy_190 ?_
                                            refine z_sipush hx hb dX12_copy_193 (by decide) ?_
                                            refine lv_iload_n hx hb dX12_copy_196 rfl (lv_at hl 4 rfl) ?_
                                            refine z_imul hx hb dX12_copy_197 ?_
                                            refine lv_iload hx hb dX12_copy_198 (lv_at hl 5 rfl) ?_
                                            refine z_iadd hx hb dX12_copy_200 ?_
                                            refine lv_iload hx hb dX12_copy_201 (lv_at hl 0 rfl) ?_
                                            refine z_iadd hx hb dX12_copy_203 ?_
                                            refine lv_aload_n hx hb dX12_copy_204 rfl (lv_at hl 1 rfl) ?_
                                            refine g_get (C := RX12) (T := TX12) (N := 42) (ci := 11) hx hb hts (fun _ h => (List.mem_cons_of_mem _ (List.mem_append_right _ h))) hown hC.1 hG 8 (by decide) rfl rfl 41 (by decide) (hts (.fieldLink RX12 117 "StraitSwimModel" "rows" "[I") (List.mem_cons_of_mem _ (List.mem_append_left _ (List.mem_of_getElem? (i := 2) rfl)))) (fun _ h9 => h9) rfl dX12_copy_205 ?_
                                            refine z_sipush hx hb dX12_copy_208 (by decide) ?_
                                            refine lv_iload_n hx hb dX12_copy_211 rfl (lv_at hl 2 rfl) ?_
                                            refine z_imul hx hb dX12_copy_212 ?_
                                            refine lv_iload_n hx hb dX12_copy_213 rfl (lv_at hl 3 rfl) ?_
                                            refine z_iadd hx hb dX12_copy_214 ?_
                                            refine lv_iload hx hb dX12_copy_215 (lv_at hl 0 rfl) ?_
                                            refine z_iadd hx hb dX12_copy_217 ?_
                                            refine g_iald (n := 1616) hx hb hC.1 hG 63 (by decide) rfl (by omega) (by omega) (by decide) dX12_copy_218 ?_
                                            refine g_iast (n := 1616) hx hb hC.1 hG hS 63 (by decide) rfl rfl (by omega) (by omega) (by decide) dX12_copy_219 (fun u40 H locs hu40 hG hS => ?_)
                                            refine z_iinc (lv' := [(6, .int (zI (k2 + (-1)))), (0, .ref (ad 8)), (1, .int (zI p1)), (2, .int (zI p2)), (3, .int (zI p3)), (4, .int (zI p4)), (5, .int (zI p5))]) hx hb dX12_copy_220 hl (k := 0) rfl (by decide) rfl (fun ls hl => ?_)
                                            refine lv_goto (tgt := 173) hx hb dX12_copy_223 (by decide) ?_
                                            exact ih173 (k2 + (-1)) u40 _ _ _ (by omega) (by omega) (by rw [hB9, mCpB]; (repeat (first | rw [if_pos (by omega)] | rw [if_neg (by omega)])); subst hu40; rfl) hG hS (lv_sub hl [0, 1, 2, 3, 4, 5, 6] rfl)
                                  exact loop173 203 (p5 - 1) w _ _ _ (by omega) (by omega) (by rfl) hG hS (lv_sub hl [0, 1, 2, 3, 4, 5, 6] rfl)
                                · refine lv_aload_n hx hb dX12_copy_130 rfl (lv_at hl 1 rfl) ?_
                                  refine g_get (C := RX12) (T := TX12) (N := 42) (ci := 11) hx hb hts (fun _ h => (List.mem_cons_of_mem _ (List.mem_append_right _ h))) hown hC.1 hG 8 (by decide) rfl rfl 41 (by decide) (hts (.fieldLink RX12 117 "StraitSwimModel" "rows" "[I") (List.mem_cons_of_mem _ (List.mem_append_left _ (List.mem_of_getElem? (i := 2) rfl)))) (fun _ h9 => h9) rfl dX12_copy_131 ?_
                                  refine z_sipush hx hb dX12_copy_134 (by decide) ?_
                                  refine lv_iload_n hx hb dX12_copy_137 rfl (lv_at hl 4 rfl) ?_
                                  refine z_imul hx hb dX12_copy_138 ?_
                                  refine lv_iload hx hb dX12_copy_139 (lv_at hl 5 rfl) ?_
                                  refine z_iadd hx hb dX12_copy_141 ?_
                                  refine lv_iload hx hb dX12_copy_142 (lv_at hl 0 rfl) ?_
                                  refine z_iadd hx hb dX12_copy_144 ?_
                                  refine lv_aload_n hx hb dX12_copy_145 rfl (lv_at hl 1 rfl) ?_
                                  refine g_get (C := RX12) (T := TX12) (N := 42) (ci := 11) hx hb hts (fun _ h => (List.mem_cons_of_mem _ (List.mem_append_right _ h))) hown hC.1 hG 8 (by decide) rfl rfl 41 (by decide) (hts (.fieldLink RX12 117 "StraitSwimModel" "rows" "[I") (List.mem_cons_of_mem _ (List.mem_append_left _ (List.mem_of_getElem? (i := 2) rfl)))) (fun _ h9 => h9) rfl dX12_copy_146 ?_
                                  refine z_sipush hx hb dX12_copy_149 (by decide) ?_
                                  refine lv_iload_n hx hb dX12_copy_152 rfl (lv_at hl 2 rfl) ?_
                                  refine z_imul hx hb dX12_copy_153 ?_
                                  refine lv_iload_n hx hb dX12_copy_154 rfl (lv_at hl 3 rfl) ?_
                                  refine z_iadd hx hb dX12_copy_155 ?_
                                  refine lv_iload hx hb dX12_copy_156 (lv_at hl 0 rfl) ?_
                                  refine z_iadd hx hb dX12_copy_158 ?_
                                  refine g_iald (n := 1616) hx hb hC.1 hG 63 (by decide) rfl (by omega) (by omega) (by decide) dX12_copy_159 ?_
                                  refine g_iast (n := 1616) hx hb hC.1 hG hS 63 (by decide) rfl rfl (by omega) (by omega) (by decide) dX12_copy_160 (fun u41 H locs hu41 hG hS => ?_)
                                  refine z_iinc (lv' := [(6, .int (zI (k + 1))), (0, .ref (ad 8)), (1, .int (zI p1)), (2, .int (zI p2)), (3, .int (zI p3)), (4, .int (zI p4)), (5, .int (zI p5))]) hx hb dX12_copy_161 hl (k := 0) rfl (by decide) rfl (fun ls hl => ?_)
                                  refine lv_goto (tgt := 112) hx hb dX12_copy_164 (by decide) ?_
                                  exact ih112 (k + 1) u41 _ _ _ (by omega) (by omega) (by rw [hT, mCpF]; (repeat (first | rw [if_pos (by omega)] | rw [if_neg (by omega)])); subst hu41; rfl) hG hS (lv_sub hl [0, 1, 2, 3, 4, 5, 6] rfl)
                        exact loop112 203 0 u _ _ _ (by omega) (by omega) (by rfl) hG hS (lv_sub hl [0, 1, 2, 3, 4, 5, 6] rfl)
                      · refine z_bipush hx hb dX12_copy_106 (by decide) ?_
                        exact W.iret (v := zI ((-13))) hx hb hr (fun t9 ht9_ hW => ⟨⟨zI ((-13)), u, rfl, (by unfold mCopy; (repeat (first | rw [if_pos (by omega)] | rw [if_neg (by omega)])); all_goals exact ⟨rfl, rfl⟩), gB.mk' hG hC hS ht9_ hW⟩, hS.F ht9_⟩) hS.2.2 dX12_copy_108
            · refine z_bipush hx hb dX12_copy_62 (by decide) ?_
              exact W.iret (v := zI ((-12))) hx hb hr (fun t9 ht9_ hW => ⟨⟨zI ((-12)), u, rfl, (by unfold mCopy; (repeat (first | rw [if_pos (by omega)] | rw [if_neg (by omega)])); all_goals exact ⟨rfl, rfl⟩), gB.mk' hG hC hS ht9_ hW⟩, hS.F ht9_⟩) hS.2.2 dX12_copy_64
        · refine z_bipush hx hb dX12_copy_34 (by decide) ?_
          exact W.iret (v := zI ((-11))) hx hb hr (fun t9 ht9_ hW => ⟨⟨zI ((-11)), u, rfl, (by unfold mCopy; (repeat (first | rw [if_pos (by omega)] | rw [if_neg (by omega)])); all_goals exact ⟨rfl, rfl⟩), gB.mk' hG hC hS ht9_ hW⟩, hS.F ht9_⟩) hS.2.2 dX12_copy_36
    · refine z_iconst hx hb dX12_copy_14 ?_
      exact W.iret (v := zI ((-1))) hx hb hr (fun t9 ht9_ hW => ⟨⟨zI ((-1)), u, rfl, (by unfold mCopy; (repeat (first | rw [if_pos (by omega)] | rw [if_neg (by omega)])); all_goals exact ⟨rfl, rfl⟩), gB.mk' hG hC hS ht9_ hW⟩, hS.F ht9_⟩) hS.2.2 dX12_copy_15
