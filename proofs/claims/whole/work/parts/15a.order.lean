set_option maxHeartbeats 4000000 in
set_option maxRecDepth 100000 in
theorem kX12_order (l : Launch) (D : va_G) (cy : Nat → ClassId) (ad : Nat → Nat) (jf : Nat → Int64) (A : Nat → Prop) (u : gS) (p1 : Int) (j_p1 : -2147483648 ≤ p1 ∧ p1 < 2147483648) (i23 : 0 ≤ u.1 23 ∧ u.1 23 ≤ 10) : Met l yX12_order wsX12_order ({ frames := 2, cells := 0, slots := 0, locals := 43 }) (va_Pc [.ref (ad 8), .int (zI p1)] (gB D cy ad jf A u)) (va_Qi (fun (r : Int32) (v : gS) => r = zI (mOrder u p1).1 ∧ v = (mOrder u p1).2) (gB D cy ad jf A) A) 0 0 A := by
  refine Met.ofW (cc := cX12_order) (maxL := 6) (ret := (some .int)) (by decide) rfl ?_
  intro p e s m args below meth c s₁ B hml hv
  obtain ⟨rfl, hG, hC⟩ := hv
  have hx := B.exec
  have hb := B.bytes
  have hr := B.returns
  have hts := atoms_spec (ws := wsX12_order) B.pre
  have hown : s.vm.findClass RX12 = some m.cls := findClass_of_methodNamed B.named
  have hlocks := B.notSynchronized
  have hS : va_S A s.heap s.heap [] := va_S.rf
  have hl := lv_entry ([.ref (ad 8), .int (zI p1)]) (n := 6) (Nat.le_of_ble_eq_true rfl)
  rw [lg_entry_eq]
  generalize (lg_sl ([.ref (ad 8), .int (zI p1)]) ++ List.replicate (6 - (lg_sl ([.ref (ad 8), .int (zI p1)])).length) Slot.unset).toArray = ls at hl ⊢
  have hl : lv_has ls 6 [(0, .ref (ad 8)), (1, .int (zI p1))] := hl
  refine lv_iload_n hx hb dX12_order_0 rfl (lv_at hl 1 rfl) ?_
  refine z_if_ge (tgt := 6) hx hb dX12_order_1 (by decide) (by omega) (by omega) (fun c_1 => ?_) (fun c_1 => ?_)
  · refine z_iconst hx hb dX12_order_6 ?_
    refine lv_istore_n (lv' := [(2, .int (zI 0)), (0, .ref (ad 8)), (1, .int (zI p1))]) hx hb dX12_order_7 rfl hl (by decide) rfl (fun ls hl => ?_)
    refine z_iconst hx hb dX12_order_8 ?_
    refine lv_istore_n (lv' := [(3, .int (zI 0)), (2, .int (zI 0)), (0, .ref (ad 8)), (1, .int (zI p1))]) hx hb dX12_order_9 rfl hl (by decide) rfl (fun ls hl => ?_)
    refine lv_iload_n hx hb dX12_order_10 rfl (lv_at hl 3 rfl) ?_
    refine lv_istore (lv' := [(4, .int (zI p1)), (3, .int (zI 0)), (2, .int (zI 0)), (0, .ref (ad 8)), (1, .int (zI p1))]) hx hb dX12_order_11 hl (by decide) rfl (fun ls hl => ?_)
    have loop13 : ∀ (n : Nat) (lf cn sn : Int) (H : Heap) (locs : List Loc) (ls : Array Slot), (7 - cn).toNat < n → (-2147483648 ≤ lf ∧ lf < 2147483648) → (0 ≤ cn ∧ cn ≤ 6) → (mOrdL (u.1 23) 8 p1 0 0 = mOrdL (u.1 23) n lf cn sn) → gH D cy ad jf A u H → va_S A s.heap H locs → lv_has ls 6 [(4, .int (zI lf)), (3, .int (zI sn)), (2, .int (zI cn)), (0, .ref (ad 8)), (1, .int (zI p1))] → W p l e (headSpec wsX12_order ({ frames := 2, cells := 0, slots := 0, locals := 43 })).room s m ([.ref (ad 8), .int (zI p1)]).toArray below meth c H locs 0 0 (MQ below (va_Qi (fun (r : Int32) (v : gS) => r = zI (mOrder u p1).1 ∧ v = (mOrder u p1).2) (gB D cy ad jf A) A) ([.ref (ad 8), .int (zI p1)]).toArray s 0 0 A) (F0 m 13 ls []) := by
      intro n
      induction n with
      | zero => intro lf cn sn  H locs ls hm; exact absurd hm (Nat.not_lt_zero _)
      | succ n ih13 =>
        intro lf cn sn  H locs ls hm hl9 hc9 hT hG hS hl
        refine lv_iload hx hb dX12_order_13 (lv_at hl 0 rfl) ?_
        refine z_if_le (tgt := 73) hx hb dX12_order_15 (by decide) (by omega) (by omega) (fun c_2 => ?_) (fun c_2 => ?_)
        · have hN : mOrdL (u.1 23) 8 p1 0 0 = cn := by rw [hT, mOrdL, if_neg (by omega)]
          refine lv_iload_n hx hb dX12_order_73 rfl (lv_at hl 2 rfl) ?_
          refine z_iconst hx hb dX12_order_74 ?_
          refine z_icmp_ge (tgt := 80) hx hb dX12_order_75 (by decide) (by omega) (by omega) (by omega) (by omega) (fun c_3 => ?_) (fun c_3 => ?_)
          · refine z_iconst hx hb dX12_order_80 ?_
            refine lv_istore (lv' := [(4, .int (zI 0)), (3, .int (zI sn)), (2, .int (zI cn)), (0, .ref (ad 8)), (1, .int (zI p1))]) hx hb dX12_order_81 hl (by decide) rfl (fun ls hl => ?_)
            have loop83 : ∀ (n : Nat) (i : Int) (w : gS) (H : Heap) (locs : List Loc) (ls : Array Slot), (cn - i).toNat < n → (0 ≤ i ∧ i ≤ 6) → (mOrdW p1 cn 7 0 u = mOrdW p1 cn n i w) → gH D cy ad jf A w H → va_S A s.heap H locs → lv_has ls 6 [(4, .int (zI i)), (3, .int (zI sn)), (2, .int (zI cn)), (0, .ref (ad 8)), (1, .int (zI p1))] → W p l e (headSpec wsX12_order ({ frames := 2, cells := 0, slots := 0, locals := 43 })).room s m ([.ref (ad 8), .int (zI p1)]).toArray below meth c H locs 0 0 (MQ below (va_Qi (fun (r : Int32) (v : gS) => r = zI (mOrder u p1).1 ∧ v = (mOrder u p1).2) (gB D cy ad jf A) A) ([.ref (ad 8), .int (zI p1)]).toArray s 0 0 A) (F0 m 83 ls []) := by
              intro n
              induction n with
              | zero => intro i w H locs ls hm; exact absurd hm (Nat.not_lt_zero _)
              | succ n ih83 =>
                intro i w H locs ls hm hi hW9 hG hS hl
                refine lv_iload hx hb dX12_order_83 (lv_at hl 0 rfl) ?_
                refine lv_iload_n hx hb dX12_order_85 rfl (lv_at hl 2 rfl) ?_
                refine z_icmp_ge (tgt := 113) hx hb dX12_order_86 (by decide) (by omega) (by omega) (by omega) (by omega) (fun c_4 => ?_) (fun c_4 => ?_)
                · refine lv_aload_n hx hb dX12_order_113 rfl (lv_at hl 3 rfl) ?_
                  refine lv_iload_n hx hb dX12_order_114 rfl (lv_at hl 2 rfl) ?_
                  refine g_put (C := RX12) (T := TX12) (N := 42) (ci := 11) (ty := .int) hx hb hts (fun _ h => (List.mem_cons_of_mem _ (List.mem_append_right _ h))) tyX12 tyX12_ok nmX12 hown hC.1 hG hS 8 (by decide) rfl rfl 23 27 (by decide) (hts (.fieldLink RX12 183 "StraitSwimModel" "ordered" "I") (List.mem_cons_of_mem _ (List.mem_append_left _ (List.mem_of_getElem? (i := 1) rfl)))) (fun _ h9 => h9) rfl (by decide +kernel) rfl rfl (Nat.le_of_ble_eq_true rfl) rfl (gO_27 ad _ _) dX12_order_115 (fun u5 H locs hu5 hG hS => ?_)
                  refine lv_aload_n hx hb dX12_order_118 rfl (lv_at hl 3 rfl) ?_
                  refine z_iconst hx hb dX12_order_119 ?_
                  refine g_put (C := RX12) (T := TX12) (N := 42) (ci := 11) (ty := .int) hx hb hts (fun _ h => (List.mem_cons_of_mem _ (List.mem_append_right _ h))) tyX12 tyX12_ok nmX12 hown hC.1 hG hS 8 (by decide) rfl rfl 25 28 (by decide) (hts (.fieldLink RX12 186 "StraitSwimModel" "turned" "I") (List.mem_cons_of_mem _ (List.mem_append_left _ (List.mem_of_getElem? (i := 2) rfl)))) (fun _ h9 => h9) rfl (by decide +kernel) rfl rfl (Nat.le_of_ble_eq_true rfl) rfl (gO_28 ad _ _) dX12_order_120 (fun u6 H locs hu6 hG hS => ?_)
                  refine lv_iload_n hx hb dX12_order_123 rfl (lv_at hl 2 rfl) ?_
                  exact W.iret (v := zI cn) hx hb hr (fun t9 ht9_ hW => ⟨⟨zI cn, u6, rfl, (by unfold mOrder; rw [if_neg (by omega), hN, if_neg (by omega)]; subst hu6; subst hu5; rw [hW9, mOrdW, if_neg (by omega)]; exact ⟨rfl, rfl⟩), gB.mk' hG hC hS ht9_ hW⟩, hS.F ht9_⟩) hS.2.2 dX12_order_124
                · refine lv_aload_n hx hb dX12_order_89 rfl (lv_at hl 3 rfl) ?_
                  refine g_get (C := RX12) (T := TX12) (N := 42) (ci := 11) hx hb hts (fun _ h => (List.mem_cons_of_mem _ (List.mem_append_right _ h))) hown hC.1 hG 8 (by decide) rfl rfl 24 (by decide) (hts (.fieldLink RX12 69 "StraitSwimModel" "orders" "[I") (List.mem_cons_of_mem _ (List.mem_append_left _ (List.mem_of_getElem? (i := 0) rfl)))) (fun _ h9 => h9) rfl dX12_order_90 ?_
                  refine lv_iload hx hb dX12_order_93 (lv_at hl 0 rfl) ?_
                  refine lv_iload_n hx hb dX12_order_95 rfl (lv_at hl 4 rfl) ?_
                  refine z_iconst hx hb dX12_order_96 ?_
                  refine lv_iload hx hb dX12_order_97 (lv_at hl 0 rfl) ?_
                  refine z_imul hx hb dX12_order_99 ?_
                  have q_7 := bShr_bnd p1 (4 * i)
                  refine z_ishr hx hb dX12_order_100 ?_
                  refine z_bipush hx hb dX12_order_101 (by decide) ?_
                  have q_8 := bAnd_bnd (bShr p1 (4 * i)) 15
                  have q_9 := bAnd_15 (bShr p1 (4 * i))
                  refine z_iand hx hb dX12_order_103 ?_
                  refine z_iconst hx hb dX12_order_104 ?_
                  refine z_isub hx hb dX12_order_105 ?_
                  refine g_iast (n := 6) hx hb hC.1 hG hS 47 (by decide) rfl rfl (by omega) (by omega) (by decide) dX12_order_106 (fun u10 H locs hu10 hG hS => ?_)
                  refine z_iinc (lv' := [(4, .int (zI (i + 1))), (3, .int (zI sn)), (2, .int (zI cn)), (0, .ref (ad 8)), (1, .int (zI p1))]) hx hb dX12_order_107 hl (k := 0) rfl (by decide) rfl (fun ls hl => ?_)
                  refine lv_goto (tgt := 83) hx hb dX12_order_110 (by decide) ?_
                  exact ih83 (i + 1) u10 _ _ _ (by omega) (by omega) (by rw [hW9, mOrdW, if_pos (by omega)]; subst hu10; rfl) hG hS (lv_sub hl [0, 1, 2, 3, 4] rfl)
            exact loop83 7 0 u _ _ _ (by omega) (by omega) (by rfl) hG hS (lv_sub hl [0, 1, 2, 3, 4] rfl)
          · refine z_iconst hx hb dX12_order_78 ?_
            exact W.iret (v := zI ((-1))) hx hb hr (fun t9 ht9_ hW => ⟨⟨zI ((-1)), u, rfl, (by unfold mOrder; rw [if_neg (by omega), hN, if_pos (by omega)]; exact ⟨rfl, rfl⟩), gB.mk' hG hC hS ht9_ hW⟩, hS.F ht9_⟩) hS.2.2 dX12_order_79
        · refine lv_iload hx hb dX12_order_18 (lv_at hl 0 rfl) ?_
          refine z_bipush hx hb dX12_order_20 (by decide) ?_
          have q_11 := bAnd_bnd lf 15
          have q_12 := bAnd_15 lf
          refine z_iand hx hb dX12_order_22 ?_
          refine z_iconst hx hb dX12_order_23 ?_
          refine z_isub hx hb dX12_order_24 ?_
          refine lv_istore (lv' := [(5, .int (zI ((bAnd lf 15) - 1))), (4, .int (zI lf)), (3, .int (zI sn)), (2, .int (zI cn)), (0, .ref (ad 8)), (1, .int (zI p1))]) hx hb dX12_order_25 hl (by decide) rfl (fun ls hl => ?_)
          refine lv_iload_n hx hb dX12_order_27 rfl (lv_at hl 3 rfl) ?_
          refine z_bipush hx hb dX12_order_28 (by decide) ?_
          refine z_icmp_eq (tgt := 52) hx hb dX12_order_30 (by decide) (by omega) (by omega) (by omega) (by omega) (fun c_13 => ?_) (fun c_13 => ?_)
          · refine z_iconst hx hb dX12_order_52 ?_
            exact W.iret (v := zI ((-1))) hx hb hr (fun t9 ht9_ hW => ⟨⟨zI ((-1)), u, rfl, (by have hN : mOrdL (u.1 23) 8 p1 0 0 = -1 := (by rw [hT, mOrdL]; (repeat (first | rw [if_pos (by omega)] | rw [if_neg (by omega)]))); unfold mOrder; rw [if_neg (by omega), hN, if_pos (by omega)]; exact ⟨rfl, rfl⟩), gB.mk' hG hC hS ht9_ hW⟩, hS.F ht9_⟩) hS.2.2 dX12_order_53
          · refine lv_aload_n hx hb dX12_order_33 rfl (lv_at hl 4 rfl) ?_
            refine lv_iload hx hb dX12_order_34 (lv_at hl 0 rfl) ?_
            refine g_calli (va_runV (As := [.int (zI ((bAnd lf 15) - 1))]) (rest := []) ⟨hx, hb, hml, hown, hts⟩ (kX12_isSwimmer l D cy ad jf A u ((bAnd lf 15) - 1) (by omega) i23) (cwV 1 hts gX12_order_X12_isSwimmer rfl rfl rfl (by decide +kernel) ⟨by decide, by decide⟩) (g_preV (C := RX12) hG hC hS 8 (by decide) rfl rfl) rfl rfl hl.1 rfl (lv_room (Nat.le_of_ble_eq_true rfl)) dX12_order_36 ⟨Nat.le_of_ble_eq_true rfl, Nat.le_of_ble_eq_true rfl⟩) hS (fun r14 u15 H locs p_16 hG hS => ?_)
            obtain ⟨⟨b17, rfl, q_18⟩, he_⟩ := p_16
            rw [he_] at hG; clear he_
            have hbb17 : 0 ≤ b17 ∧ b17 ≤ 1 := by rcases q_18 with ⟨h, _⟩ | ⟨h, _⟩ <;> omega
            refine z_if_eq (tgt := 52) hx hb dX12_order_39 (by decide) (by omega) (by omega) (fun c_19 => ?_) (fun c_19 => ?_)
            · refine z_iconst hx hb dX12_order_52 ?_
              exact W.iret (v := zI ((-1))) hx hb hr (fun t9 ht9_ hW => ⟨⟨zI ((-1)), u, rfl, (by have hN : mOrdL (u.1 23) 8 p1 0 0 = -1 := (by rw [hT, mOrdL]; (repeat (first | rw [if_pos (by omega)] | rw [if_neg (by omega)]))); unfold mOrder; rw [if_neg (by omega), hN, if_pos (by omega)]; exact ⟨rfl, rfl⟩), gB.mk' hG hC hS ht9_ hW⟩, hS.F ht9_⟩) hS.2.2 dX12_order_53
            · refine lv_iload_n hx hb dX12_order_42 rfl (lv_at hl 2 rfl) ?_
              refine lv_iload hx hb dX12_order_43 (lv_at hl 0 rfl) ?_
              have q_20 := bShr_bnd sn ((bAnd lf 15) - 1)
              refine z_ishr hx hb dX12_order_45 ?_
              refine z_iconst hx hb dX12_order_46 ?_
              have q_21 := bAnd_bnd (bShr sn ((bAnd lf 15) - 1)) 1
              have q_22 := bAnd_1 (bShr sn ((bAnd lf 15) - 1))
              refine z_iand hx hb dX12_order_47 ?_
              refine z_iconst hx hb dX12_order_48 ?_
              refine z_icmp_ne (tgt := 54) hx hb dX12_order_49 (by decide) (by omega) (by omega) (by omega) (by omega) (fun c_23 => ?_) (fun c_23 => ?_)
              · refine lv_iload_n hx hb dX12_order_54 rfl (lv_at hl 2 rfl) ?_
                refine z_iconst hx hb dX12_order_55 ?_
                refine lv_iload hx hb dX12_order_56 (lv_at hl 0 rfl) ?_
                have q_24 := bShl_bnd 1 ((bAnd lf 15) - 1)
                refine z_ishl hx hb dX12_order_58 ?_
                have q_25 := bOr_bnd sn (bShl 1 ((bAnd lf 15) - 1))
                refine z_ior hx hb dX12_order_59 ?_
                refine lv_istore_n (lv' := [(3, .int (zI (bOr sn (bShl 1 ((bAnd lf 15) - 1))))), (5, .int (zI ((bAnd lf 15) - 1))), (4, .int (zI lf)), (2, .int (zI cn)), (0, .ref (ad 8)), (1, .int (zI p1))]) hx hb dX12_order_60 rfl hl (by decide) rfl (fun ls hl => ?_)
                refine z_iinc (lv' := [(2, .int (zI (cn + 1))), (3, .int (zI (bOr sn (bShl 1 ((bAnd lf 15) - 1))))), (5, .int (zI ((bAnd lf 15) - 1))), (4, .int (zI lf)), (0, .ref (ad 8)), (1, .int (zI p1))]) hx hb dX12_order_61 hl (k := 3) rfl (by decide) rfl (fun ls hl => ?_)
                refine lv_iload hx hb dX12_order_64 (lv_at hl 3 rfl) ?_
                refine z_iconst hx hb dX12_order_66 ?_
                have q_26 := bShr_bnd lf 4
                refine z_ishr hx hb dX12_order_67 ?_
                refine lv_istore (lv' := [(4, .int (zI (bShr lf 4))), (2, .int (zI (cn + 1))), (3, .int (zI (bOr sn (bShl 1 ((bAnd lf 15) - 1))))), (5, .int (zI ((bAnd lf 15) - 1))), (0, .ref (ad 8)), (1, .int (zI p1))]) hx hb dX12_order_68 hl (by decide) rfl (fun ls hl => ?_)
                refine lv_goto (tgt := 13) hx hb dX12_order_70 (by decide) ?_
                exact ih13 (bShr lf 4) (cn + 1) (bOr sn (bShl 1 ((bAnd lf 15) - 1))) _ _ _ (by omega) (by omega) (by omega) (by rw [hT, mOrdL]; (repeat (first | rw [if_pos (by omega)] | rw [if_neg (by omega)]))) hG hS (lv_sub hl [0, 2, 1, 4, 5] rfl)
              · refine z_iconst hx hb dX12_order_52 ?_
                exact W.iret (v := zI ((-1))) hx hb hr (fun t9 ht9_ hW => ⟨⟨zI ((-1)), u, rfl, (by have hN : mOrdL (u.1 23) 8 p1 0 0 = -1 := (by rw [hT, mOrdL]; (repeat (first | rw [if_pos (by omega)] | rw [if_neg (by omega)]))); unfold mOrder; rw [if_neg (by omega), hN, if_pos (by omega)]; exact ⟨rfl, rfl⟩), gB.mk' hG hC hS ht9_ hW⟩, hS.F ht9_⟩) hS.2.2 dX12_order_53
    exact loop13 8 p1 0 0 _ _ _ (by omega) (by omega) (by omega) (by rfl) hG hS (lv_sub hl [0, 1, 2, 3, 4] rfl)
  · refine z_iconst hx hb dX12_order_4 ?_
    exact W.iret (v := zI ((-1))) hx hb hr (fun t9 ht9_ hW => ⟨⟨zI ((-1)), u, rfl, (by unfold mOrder; rw [if_pos (by omega)]; exact ⟨rfl, rfl⟩), gB.mk' hG hC hS ht9_ hW⟩, hS.F ht9_⟩) hS.2.2 dX12_order_5
