set_option maxHeartbeats 4000000 in
set_option maxRecDepth 100000 in
theorem kX12_keep (l : Launch) (D : va_G) (cy : Nat → ClassId) (ad : Nat → Nat) (jf : Nat → Int64) (A : Nat → Prop) (u : gS) (p1 p2 p3 : Int) (j_p1 : -2147483648 ≤ p1 ∧ p1 < 2147483648) (j_p2 : -2147483648 ≤ p2 ∧ p2 < 2147483648) (j_p3 : -2147483648 ≤ p3 ∧ p3 < 2147483648) (i23 : 0 ≤ u.1 23 ∧ u.1 23 ≤ 10) (i24 : -1 ≤ u.1 24 ∧ u.1 24 ≤ 9) (i26 : 0 ≤ u.1 26 ∧ u.1 26 ≤ 60) (i34 : ∀ j, j < 10 → 0 ≤ u.2.1 34 j ∧ u.2.1 34 j ≤ 3) (i35 : ∀ j, j < 10 → 0 ≤ u.2.1 35 j ∧ u.2.1 35 j ≤ 20) (i36 : ∀ j, j < 10 → 0 ≤ u.2.1 36 j ∧ u.2.1 36 j ≤ 400) (i37 : ∀ j, j < 10 → 0 ≤ u.2.1 37 j ∧ u.2.1 37 j ≤ 40) (i38 : ∀ j, j < 202 → -1000 ≤ u.2.1 38 j ∧ u.2.1 38 j ≤ 1000) (i39 : ∀ j, j < 202 → -1000 ≤ u.2.1 39 j ∧ u.2.1 39 j ≤ 1000) (i40 : ∀ j, j < 2 → 0 ≤ u.2.1 40 j ∧ u.2.1 40 j ≤ 100) (i46 : ∀ j, j < 60 → 0 ≤ u.2.1 46 j ∧ u.2.1 46 j ≤ 99) : Met l yX12_keep wsX12_keep ({ frames := 2, cells := 0, slots := 0, locals := 43 }) (va_Pc [.ref (ad 8), .int (zI p1), .int (zI p2), .int (zI p3)] (gB D cy ad jf A u)) (va_Qi (fun (r : Int32) (v : gS) => r = zI (mKeep u p1 p2 p3).1 ∧ v = (mKeep u p1 p2 p3).2) (gB D cy ad jf A) A) 0 0 A := by
  refine Met.ofW (cc := cX12_keep) (maxL := 5) (ret := (some .int)) (by decide) rfl ?_
  intro p e s m args below meth c s₁ B hml hv
  obtain ⟨rfl, hG, hC⟩ := hv
  have hx := B.exec
  have hb := B.bytes
  have hr := B.returns
  have hts := atoms_spec (ws := wsX12_keep) B.pre
  have hown : s.vm.findClass RX12 = some m.cls := findClass_of_methodNamed B.named
  have hlocks := B.notSynchronized
  have hS : va_S A s.heap s.heap [] := va_S.rf
  have hl := lv_entry ([.ref (ad 8), .int (zI p1), .int (zI p2), .int (zI p3)]) (n := 5) (Nat.le_of_ble_eq_true rfl)
  rw [lg_entry_eq]
  generalize (lg_sl ([.ref (ad 8), .int (zI p1), .int (zI p2), .int (zI p3)]) ++ List.replicate (5 - (lg_sl ([.ref (ad 8), .int (zI p1), .int (zI p2), .int (zI p3)])).length) Slot.unset).toArray = ls at hl ⊢
  have hl : lv_has ls 5 [(0, .ref (ad 8)), (1, .int (zI p1)), (2, .int (zI p2)), (3, .int (zI p3))] := hl
  have q40 := i40 0 (by omega)
  refine lv_iload_n hx hb dX12_keep_0 rfl (lv_at hl 1 rfl) ?_
  refine g_calli (va_runS (As := [.int (zI p1)]) (rest := []) ⟨hx, hb, hml, hown, hts⟩ (kX12_isShelf l D cy ad jf A u p1 (by omega)) (va_cwS 1 hts gX12_keep_X12_isShelf rfl rfl rfl (by decide +kernel) ⟨by decide, by decide⟩) (g_preS hG hC hS) rfl rfl hl.1 rfl (lv_room (Nat.le_of_ble_eq_true rfl)) dX12_keep_1 ⟨Nat.le_of_ble_eq_true rfl, Nat.le_of_ble_eq_true rfl⟩) hS (fun r1 u2 H locs p_3 hG hS => ?_)
  obtain ⟨⟨b4, rfl, q_5⟩, he_⟩ := p_3
  rw [he_] at hG; clear he_
  have hbb4 : 0 ≤ b4 ∧ b4 ≤ 1 := by rcases q_5 with ⟨h, _⟩ | ⟨h, _⟩ <;> omega
  refine z_if_eq (tgt := 34) hx hb dX12_keep_4 (by decide) (by omega) (by omega) (fun c_6 => ?_) (fun c_6 => ?_)
  · refine z_iconst hx hb dX12_keep_34 ?_
    exact W.iret (v := zI ((-1))) hx hb hr (fun t9 ht9_ hW => ⟨⟨zI ((-1)), u, rfl, (by unfold mKeep; (repeat (first | rw [if_pos (by omega)] | rw [if_neg (by omega)])); skip; subst_vars; all_goals exact ⟨rfl, rfl⟩), gB.mk' hG hC hS ht9_ hW⟩, hS.F ht9_⟩) hS.2.2 dX12_keep_35
  · refine lv_iload_n hx hb dX12_keep_7 rfl (lv_at hl 2 rfl) ?_
    refine z_iconst hx hb dX12_keep_8 ?_
    refine z_iconst hx hb dX12_keep_9 ?_
    refine g_calli (va_runS (As := [.int (zI p2), .int (zI 0), .int (zI 4)]) (rest := []) ⟨hx, hb, hml, hown, hts⟩ (kX12_in l D cy ad jf A u p2 0 4 (by omega) (by omega) (by omega)) (va_cwS 3 hts gX12_keep_X12_in rfl rfl rfl (by decide +kernel) ⟨by decide, by decide⟩) (g_preS hG hC hS) rfl rfl hl.1 rfl (lv_room (Nat.le_of_ble_eq_true rfl)) dX12_keep_10 ⟨Nat.le_of_ble_eq_true rfl, Nat.le_of_ble_eq_true rfl⟩) hS (fun r7 u8 H locs p_9 hG hS => ?_)
    obtain ⟨⟨b10, rfl, q_11⟩, he_⟩ := p_9
    rw [he_] at hG; clear he_
    have hbb10 : 0 ≤ b10 ∧ b10 ≤ 1 := by rcases q_11 with ⟨h, _⟩ | ⟨h, _⟩ <;> omega
    refine z_if_eq (tgt := 34) hx hb dX12_keep_13 (by decide) (by omega) (by omega) (fun c_12 => ?_) (fun c_12 => ?_)
    · refine z_iconst hx hb dX12_keep_34 ?_
      exact W.iret (v := zI ((-1))) hx hb hr (fun t9 ht9_ hW => ⟨⟨zI ((-1)), u, rfl, (by unfold mKeep; (repeat (first | rw [if_pos (by omega)] | rw [if_neg (by omega)])); skip; subst_vars; all_goals exact ⟨rfl, rfl⟩), gB.mk' hG hC hS ht9_ hW⟩, hS.F ht9_⟩) hS.2.2 dX12_keep_35
    · refine lv_iload_n hx hb dX12_keep_16 rfl (lv_at hl 2 rfl) ?_
      refine z_iconst hx hb dX12_keep_17 ?_
      refine z_icmp_eq (tgt := 34) hx hb dX12_keep_18 (by decide) (by omega) (by omega) (by omega) (by omega) (fun c_13 => ?_) (fun c_13 => ?_)
      · refine z_iconst hx hb dX12_keep_34 ?_
        exact W.iret (v := zI ((-1))) hx hb hr (fun t9 ht9_ hW => ⟨⟨zI ((-1)), u, rfl, (by unfold mKeep; (repeat (first | rw [if_pos (by omega)] | rw [if_neg (by omega)])); skip; subst_vars; all_goals exact ⟨rfl, rfl⟩), gB.mk' hG hC hS ht9_ hW⟩, hS.F ht9_⟩) hS.2.2 dX12_keep_35
      · refine lv_iload_n hx hb dX12_keep_21 rfl (lv_at hl 2 rfl) ?_
        refine z_iconst hx hb dX12_keep_22 ?_
        refine z_icmp_ne (tgt := 36) hx hb dX12_keep_23 (by decide) (by omega) (by omega) (by omega) (by omega) (fun c_14 => ?_) (fun c_14 => ?_)
        · refine lv_aload_n hx hb dX12_keep_36 rfl (lv_at hl 0 rfl) ?_
          refine g_get (C := RX12) (T := TX12) (N := 42) (ci := 11) hx hb hts (fun _ h => (List.mem_cons_of_mem _ (List.mem_append_right _ h))) hown hC.1 hG 8 (by decide) rfl rfl 36 (by decide) (hts (.fieldLink RX12 102 "StraitSwimModel" "held" "[I") (List.mem_cons_of_mem _ (List.mem_append_left _ (List.mem_append_left _ (List.mem_of_getElem? (i := 0) rfl))))) (fun _ h9 => h9) rfl dX12_keep_37 ?_
          refine lv_iload_n hx hb dX12_keep_40 rfl (lv_at hl 1 rfl) ?_
          refine lv_iload_n hx hb dX12_keep_41 rfl (lv_at hl 2 rfl) ?_
          refine g_iast (n := 8) hx hb hC.1 hG hS 58 (by decide) rfl rfl (by omega) (by omega) (by decide) dX12_keep_42 (fun u15 H locs hu15 hG hS => ?_)
          refine lv_iload_n hx hb dX12_keep_43 rfl (lv_at hl 2 rfl) ?_
          refine z_iconst hx hb dX12_keep_44 ?_
          refine z_icmp_ne (tgt := 78) hx hb dX12_keep_45 (by decide) (by omega) (by omega) (by omega) (by omega) (fun c_16 => ?_) (fun c_16 => ?_)
          · refine lv_iload_n hx hb dX12_keep_78 rfl (lv_at hl 2 rfl) ?_
            refine z_iconst hx hb dX12_keep_79 ?_
            refine z_icmp_ne (tgt := 172) hx hb dX12_keep_80 (by decide) (by omega) (by omega) (by omega) (by omega) (fun c_17 => ?_) (fun c_17 => ?_)
            · refine lv_iload_n hx hb dX12_keep_172 rfl (lv_at hl 2 rfl) ?_
              refine z_iconst hx hb dX12_keep_173 ?_
              refine z_icmp_ne (tgt := 225) hx hb dX12_keep_174 (by decide) (by omega) (by omega) (by omega) (by omega) (fun c_18 => ?_) (fun c_18 => ?_)
              · refine z_iconst hx hb dX12_keep_225 ?_
                exact W.iret (v := zI 0) hx hb hr (fun t9 ht9_ hW => ⟨⟨zI 0, u15, rfl, (by unfold mKeep; (repeat (first | rw [if_pos (by omega)] | rw [if_neg (by omega)])); subst hu15; subst_vars; all_goals exact ⟨rfl, rfl⟩), gB.mk' hG hC hS ht9_ hW⟩, hS.F ht9_⟩) hS.2.2 dX12_keep_226
              · refine lv_aload_n hx hb dX12_keep_177 rfl (lv_at hl 0 rfl) ?_
                refine g_get (C := RX12) (T := TX12) (N := 42) (ci := 11) hx hb hts (fun _ h => (List.mem_cons_of_mem _ (List.mem_append_right _ h))) hown hC.1 hG 8 (by decide) rfl rfl 40 (by decide) (hts (.fieldLink RX12 114 "StraitSwimModel" "rowSize" "[I") (List.mem_cons_of_mem _ (List.mem_append_left _ (List.mem_append_left _ (List.mem_of_getElem? (i := 5) rfl))))) (fun _ h9 => h9) rfl dX12_keep_178 ?_
                refine lv_iload_n hx hb dX12_keep_181 rfl (lv_at hl 1 rfl) ?_
                refine lv_aload_n hx hb dX12_keep_182 rfl (lv_at hl 0 rfl) ?_
                refine g_get (C := RX12) (T := TX12) (N := 42) (ci := 11) hx hb hts (fun _ h => (List.mem_cons_of_mem _ (List.mem_append_right _ h))) hown hC.1 hG 8 (by decide) rfl rfl 21 (by decide) (hts (.fieldLink RX12 177 "StraitSwimModel" "counted" "I") (List.mem_cons_of_mem _ (List.mem_append_left _ (List.mem_append_left _ (List.mem_of_getElem? (i := 11) rfl))))) (fun _ h9 => h9) rfl dX12_keep_183 ?_
                have e_19 : u15.1 26 = u.1 26 := by subst hu15; rfl
                rw [e_19]
                refine g_iast (n := 8) hx hb hC.1 hG hS 62 (by decide) rfl rfl (by omega) (by omega) (by decide) dX12_keep_186 (fun u20 H locs hu20 hG hS => ?_)
                refine z_iconst hx hb dX12_keep_187 ?_
                refine lv_istore (lv' := [(4, .int (zI 0)), (0, .ref (ad 8)), (1, .int (zI p1)), (2, .int (zI p2)), (3, .int (zI p3))]) hx hb dX12_keep_188 hl (by decide) rfl (fun ls hl => ?_)
                have loop190 : ∀ (n : Nat) (i : Int) (w : gS) (H : Heap) (locs : List Loc) (ls : Array Slot), (u.1 26 - i).toNat < n → (0 ≤ i ∧ i ≤ 60) → (w.1 26 = u.1 26) → (∀ j, j < 60 → 0 ≤ w.2.1 46 j ∧ w.2.1 46 j ≤ 99) → (mKeepB p1 61 0 (mKeep4 u p1 p2) = mKeepB p1 n i w) → gH D cy ad jf A w H → va_S A s.heap H locs → lv_has ls 5 [(4, .int (zI i)), (0, .ref (ad 8)), (1, .int (zI p1)), (2, .int (zI p2)), (3, .int (zI p3))] → W p l e (headSpec wsX12_keep ({ frames := 2, cells := 0, slots := 0, locals := 43 })).room s m ([.ref (ad 8), .int (zI p1), .int (zI p2), .int (zI p3)]).toArray below meth c H locs 0 0 (MQ below (va_Qi (fun (r : Int32) (v : gS) => r = zI (mKeep u p1 p2 p3).1 ∧ v = (mKeep u p1 p2 p3).2) (gB D cy ad jf A) A) ([.ref (ad 8), .int (zI p1), .int (zI p2), .int (zI p3)]).toArray s 0 0 A) (F0 m 190 ls []) := by
                  intro n
                  induction n with
                  | zero => intro i w H locs ls hm; exact absurd hm (Nat.not_lt_zero _)
                  | succ n ih190 =>
                    intro i w H locs ls hm hi h26 i46w hT hG hS hl
                    refine lv_iload hx hb dX12_keep_190 (lv_at hl 0 rfl) ?_
                    refine lv_aload_n hx hb dX12_keep_192 rfl (lv_at hl 1 rfl) ?_
                    refine g_get (C := RX12) (T := TX12) (N := 42) (ci := 11) hx hb hts (fun _ h => (List.mem_cons_of_mem _ (List.mem_append_right _ h))) hown hC.1 hG 8 (by decide) rfl rfl 21 (by decide) (hts (.fieldLink RX12 177 "StraitSwimModel" "counted" "I") (List.mem_cons_of_mem _ (List.mem_append_left _ (List.mem_append_left _ (List.mem_of_getElem? (i := 11) rfl))))) (fun _ h9 => h9) rfl dX12_keep_193 ?_
                    refine z_icmp_ge (tgt := 225) hx hb dX12_keep_196 (by decide) (by omega) (by omega) (by omega) (by omega) (fun c_21 => ?_) (fun c_21 => ?_)
                    · refine z_iconst hx hb dX12_keep_225 ?_
                      exact W.iret (v := zI 0) hx hb hr (fun t9 ht9_ hW => ⟨⟨zI 0, w, rfl, (by unfold mKeep; (repeat (first | rw [if_pos (by omega)] | rw [if_neg (by omega)])); rw [hT, mKeepB, if_neg (by omega)]; exact ⟨rfl, rfl⟩), gB.mk' hG hC hS ht9_ hW⟩, hS.F ht9_⟩) hS.2.2 dX12_keep_226
                    · refine lv_aload_n hx hb dX12_keep_199 rfl (lv_at hl 1 rfl) ?_
                      refine g_get (C := RX12) (T := TX12) (N := 42) (ci := 11) hx hb hts (fun _ h => (List.mem_cons_of_mem _ (List.mem_append_right _ h))) hown hC.1 hG 8 (by decide) rfl rfl 41 (by decide) (hts (.fieldLink RX12 117 "StraitSwimModel" "rows" "[I") (List.mem_cons_of_mem _ (List.mem_append_left _ (List.mem_append_left _ (List.mem_of_getElem? (i := 8) rfl))))) (fun _ h9 => h9) rfl dX12_keep_200 ?_
                      refine z_sipush hx hb dX12_keep_203 (by decide) ?_
                      refine lv_iload_n hx hb dX12_keep_206 rfl (lv_at hl 2 rfl) ?_
                      refine z_imul hx hb dX12_keep_207 ?_
                      refine lv_iload hx hb dX12_keep_208 (lv_at hl 0 rfl) ?_
                      refine z_iadd hx hb dX12_keep_210 ?_
                      refine lv_aload_n hx hb dX12_keep_211 rfl (lv_at hl 1 rfl) ?_
                      refine g_get (C := RX12) (T := TX12) (N := 42) (ci := 11) hx hb hts (fun _ h => (List.mem_cons_of_mem _ (List.mem_append_right _ h))) hown hC.1 hG 8 (by decide) rfl rfl 22 (by decide) (hts (.fieldLink RX12 66 "StraitSwimModel" "counts" "[I") (List.mem_cons_of_mem _ (List.mem_append_left _ (List.mem_append_left _ (List.mem_of_getElem? (i := 12) rfl))))) (fun _ h9 => h9) rfl dX12_keep_212 ?_
                      refine lv_iload hx hb dX12_keep_215 (lv_at hl 0 rfl) ?_
                      refine g_iald (n := 60) hx hb hC.1 hG 46 (by decide) rfl (by omega) (by omega) (by decide) dX12_keep_217 ?_
                      have q_22 := i46w i.toNat (by omega)
                      refine g_iast (n := 1616) hx hb hC.1 hG hS 63 (by decide) rfl rfl (by omega) (by omega) (by decide) dX12_keep_218 (fun u23 H locs hu23 hG hS => ?_)
                      refine z_iinc (lv' := [(4, .int (zI (i + 1))), (0, .ref (ad 8)), (1, .int (zI p1)), (2, .int (zI p2)), (3, .int (zI p3))]) hx hb dX12_keep_219 hl (k := 0) rfl (by decide) rfl (fun ls hl => ?_)
                      refine lv_goto (tgt := 190) hx hb dX12_keep_222 (by decide) ?_
                      exact ih190 (i + 1) u23 _ _ _ (by omega) (by omega) (by subst hu23; exact h26) (by subst hu23; exact i46w) (by rw [hT, mKeepB, if_pos (by omega)]; subst hu23; rfl) hG hS (lv_sub hl [0, 1, 2, 3, 4] rfl)
                exact loop190 61 0 u20 _ _ _ (by omega) (by omega) (by subst hu20; subst hu15; rfl) (by subst hu20; subst hu15; exact i46) (by unfold mKeep4; subst hu20; subst hu15; rfl) hG hS (lv_sub hl [0, 1, 2, 3, 4] rfl)
            · refine lv_aload_n hx hb dX12_keep_83 rfl (lv_at hl 0 rfl) ?_
              refine g_get (C := RX12) (T := TX12) (N := 42) (ci := 11) hx hb hts (fun _ h => (List.mem_cons_of_mem _ (List.mem_append_right _ h))) hown hC.1 hG 8 (by decide) rfl rfl 40 (by decide) (hts (.fieldLink RX12 114 "StraitSwimModel" "rowSize" "[I") (List.mem_cons_of_mem _ (List.mem_append_left _ (List.mem_append_left _ (List.mem_of_getElem? (i := 5) rfl))))) (fun _ h9 => h9) rfl dX12_keep_84 ?_
              refine lv_iload_n hx hb dX12_keep_87 rfl (lv_at hl 1 rfl) ?_
              refine lv_aload_n hx hb dX12_keep_88 rfl (lv_at hl 0 rfl) ?_
              refine g_get (C := RX12) (T := TX12) (N := 42) (ci := 11) hx hb hts (fun _ h => (List.mem_cons_of_mem _ (List.mem_append_right _ h))) hown hC.1 hG 8 (by decide) rfl rfl 15 (by decide) (hts (.fieldLink RX12 51 "StraitSwimModel" "lastSwimmer" "I") (List.mem_cons_of_mem _ (List.mem_append_left _ (List.mem_append_left _ (List.mem_of_getElem? (i := 6) rfl))))) (fun _ h9 => h9) rfl dX12_keep_89 ?_
              have e_24 : u15.1 24 = u.1 24 := by subst hu15; rfl
              rw [e_24]
              refine z_iconst hx hb dX12_keep_92 ?_
              refine z_icmp_ne (tgt := 100) hx hb dX12_keep_93 (by decide) (by omega) (by omega) (by omega) (by omega) (fun c_25 => ?_) (fun c_25 => ?_)
              · refine z_iconst hx hb dX12_keep_100 ?_
                refine lv_aload_n hx hb dX12_keep_101 rfl (lv_at hl 0 rfl) ?_
                refine g_get (C := RX12) (T := TX12) (N := 42) (ci := 11) hx hb hts (fun _ h => (List.mem_cons_of_mem _ (List.mem_append_right _ h))) hown hC.1 hG 8 (by decide) rfl rfl 13 (by decide) (hts (.fieldLink RX12 45 "StraitSwimModel" "quarters" "[I") (List.mem_cons_of_mem _ (List.mem_append_left _ (List.mem_append_left _ (List.mem_of_getElem? (i := 7) rfl))))) (fun _ h9 => h9) rfl dX12_keep_102 ?_
                refine z_iconst hx hb dX12_keep_105 ?_
                refine g_iald (n := 2) hx hb hC.1 hG 40 (by decide) rfl (by omega) (by omega) (by decide) dX12_keep_106 ?_
                have e_26 : u15.2.1 40 = u.2.1 40 := by subst hu15; rfl
                rw [e_26]
                rw [show Int.toNat 0 = 0 from rfl]
                have q_27 := i40 0 (by omega)
                refine z_imul hx hb dX12_keep_107 ?_
                refine z_iconst hx hb dX12_keep_108 ?_
                refine z_iadd hx hb dX12_keep_109 ?_
                refine g_iast (n := 8) hx hb hC.1 hG hS 62 (by decide) rfl rfl (by omega) (by omega) (by decide) dX12_keep_110 (fun u28 H locs hu28 hG hS => ?_)
                refine z_iconst hx hb dX12_keep_111 ?_
                refine lv_istore (lv' := [(4, .int (zI 0)), (0, .ref (ad 8)), (1, .int (zI p1)), (2, .int (zI p2)), (3, .int (zI p3))]) hx hb dX12_keep_112 hl (by decide) rfl (fun ls hl => ?_)
                have loop114 : ∀ (n : Nat) (i : Int) (w : gS) (H : Heap) (locs : List Loc) (ls : Array Slot), (2 * u.2.1 40 0 + 2 - i).toNat < n → (0 ≤ i ∧ i ≤ 202) → (w.2.1 62 p1.toNat = 2 * u.2.1 40 0 + 2) → (∀ j, j < 202 → -1000 ≤ w.2.1 38 j ∧ w.2.1 38 j ≤ 1000) → (∀ j, j < 202 → -1000 ≤ w.2.1 39 j ∧ w.2.1 39 j ≤ 1000) → (mKeepS p1 203 0 (mKeep3 u p1 p2 (2 * u.2.1 40 0 + 2)) = mKeepS p1 n i w) → gH D cy ad jf A w H → va_S A s.heap H locs → lv_has ls 5 [(4, .int (zI i)), (0, .ref (ad 8)), (1, .int (zI p1)), (2, .int (zI p2)), (3, .int (zI p3))] → W p l e (headSpec wsX12_keep ({ frames := 2, cells := 0, slots := 0, locals := 43 })).room s m ([.ref (ad 8), .int (zI p1), .int (zI p2), .int (zI p3)]).toArray below meth c H locs 0 0 (MQ below (va_Qi (fun (r : Int32) (v : gS) => r = zI (mKeep u p1 p2 p3).1 ∧ v = (mKeep u p1 p2 p3).2) (gB D cy ad jf A) A) ([.ref (ad 8), .int (zI p1), .int (zI p2), .int (zI p3)]).toArray s 0 0 A) (F0 m 114 ls []) := by
                  intro n
                  induction n with
                  | zero => intro i w H locs ls hm; exact absurd hm (Nat.not_lt_zero _)
                  | succ n ih114 =>
                    intro i w H locs ls hm hi h62 i38w i39w hT hG hS hl
                    refine lv_iload hx hb dX12_keep_114 (lv_at hl 0 rfl) ?_
                    refine lv_aload_n hx hb dX12_keep_116 rfl (lv_at hl 1 rfl) ?_
                    refine g_get (C := RX12) (T := TX12) (N := 42) (ci := 11) hx hb hts (fun _ h => (List.mem_cons_of_mem _ (List.mem_append_right _ h))) hown hC.1 hG 8 (by decide) rfl rfl 40 (by decide) (hts (.fieldLink RX12 114 "StraitSwimModel" "rowSize" "[I") (List.mem_cons_of_mem _ (List.mem_append_left _ (List.mem_append_left _ (List.mem_of_getElem? (i := 5) rfl))))) (fun _ h9 => h9) rfl dX12_keep_117 ?_
                    refine lv_iload_n hx hb dX12_keep_120 rfl (lv_at hl 2 rfl) ?_
                    refine g_iald (n := 8) hx hb hC.1 hG 62 (by decide) rfl (by omega) (by omega) (by decide) dX12_keep_121 ?_
                    refine z_icmp_ge (tgt := 172) hx hb dX12_keep_122 (by decide) (by omega) (by omega) (by omega) (by omega) (fun c_29 => ?_) (fun c_29 => ?_)
                    · refine lv_iload_n hx hb dX12_keep_172 rfl (lv_at hl 3 rfl) ?_
                      refine z_iconst hx hb dX12_keep_173 ?_
                      refine z_icmp_ne (tgt := 225) hx hb dX12_keep_174 (by decide) (by omega) (by omega) (by omega) (by omega) (fun c_30 => ?_) (fun c_30 => ?_)
                      · refine z_iconst hx hb dX12_keep_225 ?_
                        exact W.iret (v := zI 0) hx hb hr (fun t9 ht9_ hW => ⟨⟨zI 0, w, rfl, (by unfold mKeep; (repeat (first | rw [if_pos (by omega)] | rw [if_neg (by omega)])); rw [hT, mKeepS, if_neg (by omega)]; exact ⟨rfl, rfl⟩), gB.mk' hG hC hS ht9_ hW⟩, hS.F ht9_⟩) hS.2.2 dX12_keep_226
                      · exfalso; omega
                    · refine lv_aload_n hx hb dX12_keep_125 rfl (lv_at hl 1 rfl) ?_
                      refine g_get (C := RX12) (T := TX12) (N := 42) (ci := 11) hx hb hts (fun _ h => (List.mem_cons_of_mem _ (List.mem_append_right _ h))) hown hC.1 hG 8 (by decide) rfl rfl 41 (by decide) (hts (.fieldLink RX12 117 "StraitSwimModel" "rows" "[I") (List.mem_cons_of_mem _ (List.mem_append_left _ (List.mem_append_left _ (List.mem_of_getElem? (i := 8) rfl))))) (fun _ h9 => h9) rfl dX12_keep_126 ?_
                      refine z_sipush hx hb dX12_keep_129 (by decide) ?_
                      refine lv_iload_n hx hb dX12_keep_132 rfl (lv_at hl 2 rfl) ?_
                      refine z_imul hx hb dX12_keep_133 ?_
                      refine lv_iload hx hb dX12_keep_134 (lv_at hl 0 rfl) ?_
                      refine z_iadd hx hb dX12_keep_136 ?_
                      refine lv_iload hx hb dX12_keep_137 (lv_at hl 0 rfl) ?_
                      refine z_iconst hx hb dX12_keep_139 ?_
                      refine z_irem hx hb dX12_keep_140 (by omega) (by omega) (by omega) (by omega) ?_
                      refine z_if_ne (tgt := 156) hx hb dX12_keep_141 (by decide) (by omega) (by omega) (fun c_31 => ?_) (fun c_31 => ?_)
                      · refine lv_aload_n hx hb dX12_keep_156 rfl (lv_at hl 1 rfl) ?_
                        refine g_get (C := RX12) (T := TX12) (N := 42) (ci := 11) hx hb hts (fun _ h => (List.mem_cons_of_mem _ (List.mem_append_right _ h))) hown hC.1 hG 8 (by decide) rfl rfl 12 (by decide) (hts (.fieldLink RX12 42 "StraitSwimModel" "pathY" "[I") (List.mem_cons_of_mem _ (List.mem_append_left _ (List.mem_append_left _ (List.mem_of_getElem? (i := 10) rfl))))) (fun _ h9 => h9) rfl dX12_keep_157 ?_
                        refine lv_iload hx hb dX12_keep_160 (lv_at hl 0 rfl) ?_
                        refine z_iconst hx hb dX12_keep_162 ?_
                        refine z_idiv hx hb dX12_keep_163 (by omega) (by omega) (by omega) (by omega) ?_
                        refine g_iald (n := 202) hx hb hC.1 hG 39 (by decide) rfl (by omega) (by omega) (by decide) dX12_keep_164 ?_
                        have q_32 := i39w (i / 2).toNat (by omega)
                        refine g_iast (n := 1616) hx hb hC.1 hG hS 63 (by decide) rfl rfl (by omega) (by omega) (by decide) dX12_keep_165 (fun u33 H locs hu33 hG hS => ?_)
                        refine z_iinc (lv' := [(4, .int (zI (i + 1))), (0, .ref (ad 8)), (1, .int (zI p1)), (2, .int (zI p2)), (3, .int (zI p3))]) hx hb dX12_keep_166 hl (k := 0) rfl (by decide) rfl (fun ls hl => ?_)
                        refine lv_goto (tgt := 114) hx hb dX12_keep_169 (by decide) ?_
                        exact ih114 (i + 1) u33 _ _ _ (by omega) (by omega) (by subst hu33; exact h62) (by subst hu33; exact i38w) (by subst hu33; exact i39w) (by first | (exfalso; omega) | (rw [hT, mKeepS]; (repeat (first | rw [if_pos (by omega)] | rw [if_neg (by omega)])); subst hu33; rfl)) hG hS (lv_sub hl [0, 1, 2, 3, 4] rfl)
                      · refine lv_aload_n hx hb dX12_keep_144 rfl (lv_at hl 1 rfl) ?_
                        refine g_get (C := RX12) (T := TX12) (N := 42) (ci := 11) hx hb hts (fun _ h => (List.mem_cons_of_mem _ (List.mem_append_right _ h))) hown hC.1 hG 8 (by decide) rfl rfl 11 (by decide) (hts (.fieldLink RX12 39 "StraitSwimModel" "pathX" "[I") (List.mem_cons_of_mem _ (List.mem_append_left _ (List.mem_append_left _ (List.mem_of_getElem? (i := 9) rfl))))) (fun _ h9 => h9) rfl dX12_keep_145 ?_
                        refine lv_iload hx hb dX12_keep_148 (lv_at hl 0 rfl) ?_
                        refine z_iconst hx hb dX12_keep_150 ?_
                        refine z_idiv hx hb dX12_keep_151 (by omega) (by omega) (by omega) (by omega) ?_
                        refine g_iald (n := 202) hx hb hC.1 hG 38 (by decide) rfl (by omega) (by omega) (by decide) dX12_keep_152 ?_
                        have q_34 := i38w (i / 2).toNat (by omega)
                        refine lv_goto (tgt := 165) hx hb dX12_keep_153 (by decide) ?_
                        refine g_iast (n := 1616) hx hb hC.1 hG hS 63 (by decide) rfl rfl (by omega) (by omega) (by decide) dX12_keep_165 (fun u35 H locs hu35 hG hS => ?_)
                        refine z_iinc (lv' := [(4, .int (zI (i + 1))), (0, .ref (ad 8)), (1, .int (zI p1)), (2, .int (zI p2)), (3, .int (zI p3))]) hx hb dX12_keep_166 hl (k := 0) rfl (by decide) rfl (fun ls hl => ?_)
                        refine lv_goto (tgt := 114) hx hb dX12_keep_169 (by decide) ?_
                        exact ih114 (i + 1) u35 _ _ _ (by omega) (by omega) (by subst hu35; exact h62) (by subst hu35; exact i38w) (by subst hu35; exact i39w) (by first | (exfalso; omega) | (rw [hT, mKeepS]; (repeat (first | rw [if_pos (by omega)] | rw [if_neg (by omega)])); subst hu35; rfl)) hG hS (lv_sub hl [0, 1, 2, 3, 4] rfl)
                exact loop114 203 0 u28 _ _ _ (by omega) (by omega) (by subst hu28; subst hu15; exact up_s _ _ _) (by subst hu28; subst hu15; exact i38) (by subst hu28; subst hu15; exact i39) (by unfold mKeep3; subst hu28; subst hu15; rfl) hG hS (lv_sub hl [0, 1, 2, 3, 4] rfl)
              · refine z_iconst hx hb dX12_keep_96 ?_
                refine lv_goto (tgt := 110) hx hb dX12_keep_97 (by decide) ?_
                refine g_iast (n := 8) hx hb hC.1 hG hS 62 (by decide) rfl rfl (by omega) (by omega) (by decide) dX12_keep_110 (fun u36 H locs hu36 hG hS => ?_)
                refine z_iconst hx hb dX12_keep_111 ?_
                refine lv_istore (lv' := [(4, .int (zI 0)), (0, .ref (ad 8)), (1, .int (zI p1)), (2, .int (zI p2)), (3, .int (zI p3))]) hx hb dX12_keep_112 hl (by decide) rfl (fun ls hl => ?_)
                have loop114 : ∀ (n : Nat) (i : Int) (w : gS) (H : Heap) (locs : List Loc) (ls : Array Slot), (0 - i).toNat < n → (0 ≤ i ∧ i ≤ 202) → (w.2.1 62 p1.toNat = 0) → (∀ j, j < 202 → -1000 ≤ w.2.1 38 j ∧ w.2.1 38 j ≤ 1000) → (∀ j, j < 202 → -1000 ≤ w.2.1 39 j ∧ w.2.1 39 j ≤ 1000) → (mKeepS p1 203 0 (mKeep3 u p1 p2 (0)) = mKeepS p1 n i w) → gH D cy ad jf A w H → va_S A s.heap H locs → lv_has ls 5 [(4, .int (zI i)), (0, .ref (ad 8)), (1, .int (zI p1)), (2, .int (zI p2)), (3, .int (zI p3))] → W p l e (headSpec wsX12_keep ({ frames := 2, cells := 0, slots := 0, locals := 43 })).room s m ([.ref (ad 8), .int (zI p1), .int (zI p2), .int (zI p3)]).toArray below meth c H locs 0 0 (MQ below (va_Qi (fun (r : Int32) (v : gS) => r = zI (mKeep u p1 p2 p3).1 ∧ v = (mKeep u p1 p2 p3).2) (gB D cy ad jf A) A) ([.ref (ad 8), .int (zI p1), .int (zI p2), .int (zI p3)]).toArray s 0 0 A) (F0 m 114 ls []) := by
                  intro n
                  induction n with
                  | zero => intro i w H locs ls hm; exact absurd hm (Nat.not_lt_zero _)
                  | succ n ih114 =>
                    intro i w H locs ls hm hi h62 i38w i39w hT hG hS hl
                    refine lv_iload hx hb dX12_keep_114 (lv_at hl 0 rfl) ?_
                    refine lv_aload_n hx hb dX12_keep_116 rfl (lv_at hl 1 rfl) ?_
                    refine g_get (C := RX12) (T := TX12) (N := 42) (ci := 11) hx hb hts (fun _ h => (List.mem_cons_of_mem _ (List.mem_append_right _ h))) hown hC.1 hG 8 (by decide) rfl rfl 40 (by decide) (hts (.fieldLink RX12 114 "StraitSwimModel" "rowSize" "[I") (List.mem_cons_of_mem _ (List.mem_append_left _ (List.mem_append_left _ (List.mem_of_getElem? (i := 5) rfl))))) (fun _ h9 => h9) rfl dX12_keep_117 ?_
                    refine lv_iload_n hx hb dX12_keep_120 rfl (lv_at hl 2 rfl) ?_
                    refine g_iald (n := 8) hx hb hC.1 hG 62 (by decide) rfl (by omega) (by omega) (by decide) dX12_keep_121 ?_
                    refine z_icmp_ge (tgt := 172) hx hb dX12_keep_122 (by decide) (by omega) (by omega) (by omega) (by omega) (fun c_37 => ?_) (fun c_37 => ?_)
                    · refine lv_iload_n hx hb dX12_keep_172 rfl (lv_at hl 3 rfl) ?_
                      refine z_iconst hx hb dX12_keep_173 ?_
                      refine z_icmp_ne (tgt := 225) hx hb dX12_keep_174 (by decide) (by omega) (by omega) (by omega) (by omega) (fun c_38 => ?_) (fun c_38 => ?_)
                      · refine z_iconst hx hb dX12_keep_225 ?_
                        exact W.iret (v := zI 0) hx hb hr (fun t9 ht9_ hW => ⟨⟨zI 0, w, rfl, (by unfold mKeep; (repeat (first | rw [if_pos (by omega)] | rw [if_neg (by omega)])); rw [hT, mKeepS, if_neg (by omega)]; exact ⟨rfl, rfl⟩), gB.mk' hG hC hS ht9_ hW⟩, hS.F ht9_⟩) hS.2.2 dX12_keep_226
                      · exfalso; omega
                    · refine lv_aload_n hx hb dX12_keep_125 rfl (lv_at hl 1 rfl) ?_
                      refine g_get (C := RX12) (T := TX12) (N := 42) (ci := 11) hx hb hts (fun _ h => (List.mem_cons_of_mem _ (List.mem_append_right _ h))) hown hC.1 hG 8 (by decide) rfl rfl 41 (by decide) (hts (.fieldLink RX12 117 "StraitSwimModel" "rows" "[I") (List.mem_cons_of_mem _ (List.mem_append_left _ (List.mem_append_left _ (List.mem_of_getElem? (i := 8) rfl))))) (fun _ h9 => h9) rfl dX12_keep_126 ?_
                      refine z_sipush hx hb dX12_keep_129 (by decide) ?_
                      refine lv_iload_n hx hb dX12_keep_132 rfl (lv_at hl 2 rfl) ?_
                      refine z_imul hx hb dX12_keep_133 ?_
                      refine lv_iload hx hb dX12_keep_134 (lv_at hl 0 rfl) ?_
                      refine z_iadd hx hb dX12_keep_136 ?_
                      refine lv_iload hx hb dX12_keep_137 (lv_at hl 0 rfl) ?_
                      refine z_iconst hx hb dX12_keep_139 ?_
                      refine z_irem hx hb dX12_keep_140 (by omega) (by omega) (by omega) (by omega) ?_
                      refine z_if_ne (tgt := 156) hx hb dX12_keep_141 (by decide) (by omega) (by omega) (fun c_39 => ?_) (fun c_39 => ?_)
                      · refine lv_aload_n hx hb dX12_keep_156 rfl (lv_at hl 1 rfl) ?_
                        refine g_get (C := RX12) (T := TX12) (N := 42) (ci := 11) hx hb hts (fun _ h => (List.mem_cons_of_mem _ (List.mem_append_right _ h))) hown hC.1 hG 8 (by decide) rfl rfl 12 (by decide) (hts (.fieldLink RX12 42 "StraitSwimModel" "pathY" "[I") (List.mem_cons_of_mem _ (List.mem_append_left _ (List.mem_append_left _ (List.mem_of_getElem? (i := 10) rfl))))) (fun _ h9 => h9) rfl dX12_keep_157 ?_
                        refine lv_iload hx hb dX12_keep_160 (lv_at hl 0 rfl) ?_
                        refine z_iconst hx hb dX12_keep_162 ?_
                        refine z_idiv hx hb dX12_keep_163 (by omega) (by omega) (by omega) (by omega) ?_
                        refine g_iald (n := 202) hx hb hC.1 hG 39 (by decide) rfl (by omega) (by omega) (by decide) dX12_keep_164 ?_
                        have q_40 := i39w (i / 2).toNat (by omega)
                        refine g_iast (n := 1616) hx hb hC.1 hG hS 63 (by decide) rfl rfl (by omega) (by omega) (by decide) dX12_keep_165 (fun u41 H locs hu41 hG hS => ?_)
                        refine z_iinc (lv' := [(4, .int (zI (i + 1))), (0, .ref (ad 8)), (1, .int (zI p1)), (2, .int (zI p2)), (3, .int (zI p3))]) hx hb dX12_keep_166 hl (k := 0) rfl (by decide) rfl (fun ls hl => ?_)
                        refine lv_goto (tgt := 114) hx hb dX12_keep_169 (by decide) ?_
                        exact ih114 (i + 1) u41 _ _ _ (by omega) (by omega) (by subst hu41; exact h62) (by subst hu41; exact i38w) (by subst hu41; exact i39w) (by first | (exfalso; omega) | (rw [hT, mKeepS]; (repeat (first | rw [if_pos (by omega)] | rw [if_neg (by omega)])); subst hu41; rfl)) hG hS (lv_sub hl [0, 1, 2, 3, 4] rfl)
                      · refine lv_aload_n hx hb dX12_keep_144 rfl (lv_at hl 1 rfl) ?_
                        refine g_get (C := RX12) (T := TX12) (N := 42) (ci := 11) hx hb hts (fun _ h => (List.mem_cons_of_mem _ (List.mem_append_right _ h))) hown hC.1 hG 8 (by decide) rfl rfl 11 (by decide) (hts (.fieldLink RX12 39 "StraitSwimModel" "pathX" "[I") (List.mem_cons_of_mem _ (List.mem_append_left _ (List.mem_append_left _ (List.mem_of_getElem? (i := 9) rfl))))) (fun _ h9 => h9) rfl dX12_keep_145 ?_
                        refine lv_iload hx hb dX12_keep_148 (lv_at hl 0 rfl) ?_
                        refine z_iconst hx hb dX12_keep_150 ?_
                        refine z_idiv hx hb dX12_keep_151 (by omega) (by omega) (by omega) (by omega) ?_
                        refine g_iald (n := 202) hx hb hC.1 hG 38 (by decide) rfl (by omega) (by omega) (by decide) dX12_keep_152 ?_
                        have q_42 := i38w (i / 2).toNat (by omega)
                        refine lv_goto (tgt := 165) hx hb dX12_keep_153 (by decide) ?_
                        refine g_iast (n := 1616) hx hb hC.1 hG hS 63 (by decide) rfl rfl (by omega) (by omega) (by decide) dX12_keep_165 (fun u43 H locs hu43 hG hS => ?_)
                        refine z_iinc (lv' := [(4, .int (zI (i + 1))), (0, .ref (ad 8)), (1, .int (zI p1)), (2, .int (zI p2)), (3, .int (zI p3))]) hx hb dX12_keep_166 hl (k := 0) rfl (by decide) rfl (fun ls hl => ?_)
                        refine lv_goto (tgt := 114) hx hb dX12_keep_169 (by decide) ?_
                        exact ih114 (i + 1) u43 _ _ _ (by omega) (by omega) (by subst hu43; exact h62) (by subst hu43; exact i38w) (by subst hu43; exact i39w) (by first | (exfalso; omega) | (rw [hT, mKeepS]; (repeat (first | rw [if_pos (by omega)] | rw [if_neg (by omega)])); subst hu43; rfl)) hG hS (lv_sub hl [0, 1, 2, 3, 4] rfl)
                exact loop114 203 0 u36 _ _ _ (by omega) (by omega) (by subst hu36; subst hu15; exact up_s _ _ _) (by subst hu36; subst hu15; exact i38) (by subst hu36; subst hu15; exact i39) (by unfold mKeep3; subst hu36; subst hu15; rfl) hG hS (lv_sub hl [0, 1, 2, 3, 4] rfl)
          · exfalso; omega
        · refine lv_aload_n hx hb dX12_keep_26 rfl (lv_at hl 0 rfl) ?_
          refine lv_iload_n hx hb dX12_keep_27 rfl (lv_at hl 3 rfl) ?_
          refine g_calli (va_runV (As := [.int (zI p3)]) (rest := []) ⟨hx, hb, hml, hown, hts⟩ (kX12_isSwimmer l D cy ad jf A u p3 (by omega) i23) (cwV 1 hts gX12_keep_X12_isSwimmer rfl rfl rfl (by decide +kernel) ⟨by decide, by decide⟩) (g_preV (C := RX12) hG hC hS 8 (by decide) rfl rfl) rfl rfl hl.1 rfl (lv_room (Nat.le_of_ble_eq_true rfl)) dX12_keep_28 ⟨Nat.le_of_ble_eq_true rfl, Nat.le_of_ble_eq_true rfl⟩) hS (fun r44 u45 H locs p_46 hG hS => ?_)
          obtain ⟨⟨b47, rfl, q_48⟩, he_⟩ := p_46
          rw [he_] at hG; clear he_
          have hbb47 : 0 ≤ b47 ∧ b47 ≤ 1 := by rcases q_48 with ⟨h, _⟩ | ⟨h, _⟩ <;> omega
          refine z_if_ne (tgt := 36) hx hb dX12_keep_31 (by decide) (by omega) (by omega) (fun c_49 => ?_) (fun c_49 => ?_)
          · refine lv_aload_n hx hb dX12_keep_36 rfl (lv_at hl 0 rfl) ?_
            refine g_get (C := RX12) (T := TX12) (N := 42) (ci := 11) hx hb hts (fun _ h => (List.mem_cons_of_mem _ (List.mem_append_right _ h))) hown hC.1 hG 8 (by decide) rfl rfl 36 (by decide) (hts (.fieldLink RX12 102 "StraitSwimModel" "held" "[I") (List.mem_cons_of_mem _ (List.mem_append_left _ (List.mem_append_left _ (List.mem_of_getElem? (i := 0) rfl))))) (fun _ h9 => h9) rfl dX12_keep_37 ?_
            refine lv_iload_n hx hb dX12_keep_40 rfl (lv_at hl 1 rfl) ?_
            refine lv_iload_n hx hb dX12_keep_41 rfl (lv_at hl 2 rfl) ?_
            refine g_iast (n := 8) hx hb hC.1 hG hS 58 (by decide) rfl rfl (by omega) (by omega) (by decide) dX12_keep_42 (fun u50 H locs hu50 hG hS => ?_)
            refine lv_iload_n hx hb dX12_keep_43 rfl (lv_at hl 2 rfl) ?_
            refine z_iconst hx hb dX12_keep_44 ?_
            refine z_icmp_ne (tgt := 78) hx hb dX12_keep_45 (by decide) (by omega) (by omega) (by omega) (by omega) (fun c_51 => ?_) (fun c_51 => ?_)
            · exfalso; omega
            · refine lv_aload_n hx hb dX12_keep_48 rfl (lv_at hl 0 rfl) ?_
              refine g_get (C := RX12) (T := TX12) (N := 42) (ci := 11) hx hb hts (fun _ h => (List.mem_cons_of_mem _ (List.mem_append_right _ h))) hown hC.1 hG 8 (by decide) rfl rfl 37 (by decide) (hts (.fieldLink RX12 105 "StraitSwimModel" "heldNumber" "[I") (List.mem_cons_of_mem _ (List.mem_append_left _ (List.mem_append_left _ (List.mem_of_getElem? (i := 1) rfl))))) (fun _ h9 => h9) rfl dX12_keep_49 ?_
              refine lv_iload_n hx hb dX12_keep_52 rfl (lv_at hl 1 rfl) ?_
              refine lv_iload_n hx hb dX12_keep_53 rfl (lv_at hl 3 rfl) ?_
              refine g_iast (n := 8) hx hb hC.1 hG hS 59 (by decide) rfl rfl (by omega) (by omega) (by decide) dX12_keep_54 (fun u52 H locs hu52 hG hS => ?_)
              refine lv_aload_n hx hb dX12_keep_55 rfl (lv_at hl 0 rfl) ?_
              refine g_get (C := RX12) (T := TX12) (N := 42) (ci := 11) hx hb hts (fun _ h => (List.mem_cons_of_mem _ (List.mem_append_right _ h))) hown hC.1 hG 8 (by decide) rfl rfl 38 (by decide) (hts (.fieldLink RX12 108 "StraitSwimModel" "heldKind" "[I") (List.mem_cons_of_mem _ (List.mem_append_left _ (List.mem_append_left _ (List.mem_of_getElem? (i := 2) rfl))))) (fun _ h9 => h9) rfl dX12_keep_56 ?_
              refine lv_iload_n hx hb dX12_keep_59 rfl (lv_at hl 1 rfl) ?_
              refine lv_aload_n hx hb dX12_keep_60 rfl (lv_at hl 0 rfl) ?_
              refine g_get (C := RX12) (T := TX12) (N := 42) (ci := 11) hx hb hts (fun _ h => (List.mem_cons_of_mem _ (List.mem_append_right _ h))) hown hC.1 hG 8 (by decide) rfl rfl 7 (by decide) (hts (.fieldLink RX12 27 "StraitSwimModel" "kind" "[I") (List.mem_cons_of_mem _ (List.mem_append_left _ (List.mem_append_left _ (List.mem_of_getElem? (i := 3) rfl))))) (fun _ h9 => h9) rfl dX12_keep_61 ?_
              refine lv_iload_n hx hb dX12_keep_64 rfl (lv_at hl 3 rfl) ?_
              refine g_iald (n := 10) hx hb hC.1 hG 34 (by decide) rfl (by omega) (by omega) (by decide) dX12_keep_65 ?_
              have e_53 : u52.2.1 34 = u.2.1 34 := by subst hu52; subst hu50; rfl
              rw [e_53]
              have q_54 := i34 p3.toNat (by omega)
              refine g_iast (n := 8) hx hb hC.1 hG hS 60 (by decide) rfl rfl (by omega) (by omega) (by decide) dX12_keep_66 (fun u55 H locs hu55 hG hS => ?_)
              refine lv_aload_n hx hb dX12_keep_67 rfl (lv_at hl 0 rfl) ?_
              refine g_get (C := RX12) (T := TX12) (N := 42) (ci := 11) hx hb hts (fun _ h => (List.mem_cons_of_mem _ (List.mem_append_right _ h))) hown hC.1 hG 8 (by decide) rfl rfl 39 (by decide) (hts (.fieldLink RX12 111 "StraitSwimModel" "heldWeight" "[I") (List.mem_cons_of_mem _ (List.mem_append_left _ (List.mem_append_left _ (List.mem_of_getElem? (i := 4) rfl))))) (fun _ h9 => h9) rfl dX12_keep_68 ?_
              refine lv_iload_n hx hb dX12_keep_71 rfl (lv_at hl 1 rfl) ?_
              refine lv_aload_n hx hb dX12_keep_72 rfl (lv_at hl 0 rfl) ?_
              refine lv_iload_n hx hb dX12_keep_73 rfl (lv_at hl 3 rfl) ?_
              refine g_calli (va_runV (As := [.int (zI p3)]) (rest := [.int (zI p1), .ref (ad 61)]) ⟨hx, hb, hml, hown, hts⟩ (kX12_weightOf l D cy ad jf A u55 p3 (by omega) (by subst hu55; subst hu52; subst hu50; exact i34) (by subst hu55; subst hu52; subst hu50; exact i35) (by subst hu55; subst hu52; subst hu50; exact i36) (by subst hu55; subst hu52; subst hu50; exact i37)) (cwV 1 hts gX12_keep_X12_weightOf rfl rfl rfl (by decide +kernel) ⟨by decide, by decide⟩) (g_preV (C := RX12) hG hC hS 8 (by decide) rfl rfl) rfl rfl hl.1 rfl (lv_room (Nat.le_of_ble_eq_true rfl)) dX12_keep_74 ⟨Nat.le_of_ble_eq_true rfl, Nat.le_of_ble_eq_true rfl⟩) hS (fun r56 u57 H locs p_58 hG hS => ?_)
              obtain ⟨rfl, he_⟩ := p_58
              rw [he_] at hG; clear he_
              have e_60 : spWeight (u55.2.1 34 p3.toNat) (u55.2.1 35 p3.toNat) (u55.2.1 36 p3.toNat) (u55.2.1 37 p3.toNat) = spWeight (u.2.1 34 p3.toNat) (u.2.1 35 p3.toNat) (u.2.1 36 p3.toNat) (u.2.1 37 p3.toNat) := by subst hu55; subst hu52; subst hu50; rfl
              rw [e_60]
              obtain ⟨z59, hz59⟩ : ∃ z : Int, z = spWeight (u.2.1 34 p3.toNat) (u.2.1 35 p3.toNat) (u.2.1 36 p3.toNat) (u.2.1 37 p3.toNat) := ⟨_, rfl⟩
              rw [← hz59]
              refine g_iast (n := 8) hx hb hC.1 hG hS 61 (by decide) rfl rfl (by omega) (by omega) (by decide) dX12_keep_77 (fun u61 H locs hu61 hG hS => ?_)
              refine lv_iload_n hx hb dX12_keep_78 rfl (lv_at hl 2 rfl) ?_
              refine z_iconst hx hb dX12_keep_79 ?_
              refine z_icmp_ne (tgt := 172) hx hb dX12_keep_80 (by decide) (by omega) (by omega) (by omega) (by omega) (fun c_62 => ?_) (fun c_62 => ?_)
              · refine lv_iload_n hx hb dX12_keep_172 rfl (lv_at hl 2 rfl) ?_
                refine z_iconst hx hb dX12_keep_173 ?_
                refine z_icmp_ne (tgt := 225) hx hb dX12_keep_174 (by decide) (by omega) (by omega) (by omega) (by omega) (fun c_63 => ?_) (fun c_63 => ?_)
                · refine z_iconst hx hb dX12_keep_225 ?_
                  exact W.iret (v := zI 0) hx hb hr (fun t9 ht9_ hW => ⟨⟨zI 0, u61, rfl, (by unfold mKeep; (repeat (first | rw [if_pos (by omega)] | rw [if_neg (by omega)])); subst hu61; subst hu55; subst hu52; subst hu50; subst_vars; all_goals exact ⟨rfl, rfl⟩), gB.mk' hG hC hS ht9_ hW⟩, hS.F ht9_⟩) hS.2.2 dX12_keep_226
                · exfalso; omega
              · exfalso; omega
          · refine z_iconst hx hb dX12_keep_34 ?_
            exact W.iret (v := zI ((-1))) hx hb hr (fun t9 ht9_ hW => ⟨⟨zI ((-1)), u, rfl, (by unfold mKeep; (repeat (first | rw [if_pos (by omega)] | rw [if_neg (by omega)])); skip; subst_vars; all_goals exact ⟨rfl, rfl⟩), gB.mk' hG hC hS ht9_ hW⟩, hS.F ht9_⟩) hS.2.2 dX12_keep_35
