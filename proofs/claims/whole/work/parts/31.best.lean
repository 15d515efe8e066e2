set_option maxHeartbeats 4000000 in
set_option maxRecDepth 100000 in
theorem kX11_best (l : Launch) (D : va_G) (cy : Nat → ClassId) (ad : Nat → Nat) (jf : Nat → Int64) (A : Nat → Prop) (u : gS) (p1 p2 p3 : Int) (j_p1 : -2147483648 ≤ p1 ∧ p1 < 2147483648) (j_p2 : -2147483648 ≤ p2 ∧ p2 < 2147483648) (j_p3 : -2147483648 ≤ p3 ∧ p3 < 2147483648) (i0 : 0 ≤ u.1 0 ∧ u.1 0 ≤ 10) (hrd : rdI u 19 20 13 14) (i1 : 0 ≤ u.1 1 ∧ u.1 1 ≤ 20) (hd : ∀ j, j < 288 → u.2.1 9 j = 0 ∨ u.2.1 9 j = 1) (i10 : ∀ j, j < 36 → -9 ≤ u.2.1 10 j ∧ u.2.1 10 j ≤ 9) (i11 : ∀ j, j < 36 → -9 ≤ u.2.1 11 j ∧ u.2.1 11 j ≤ 9) (K S9 L9 F9 : Nat → Int) (hsw : ∀ j : Nat, (j : Int) < u.1 0 → ∃ a, swAt u j a (K j) (S9 j) (L9 j) (F9 j)) : Met l yX11_best wsX11_best ({ frames := 5, cells := 0, slots := 0, locals := 120 }) (va_Pc [.ref (ad 0), .int (zI p1), .int (zI p2), .int (zI p3)] (gB D cy ad jf A u)) (va_Qi (fun (r : Int32) (v : gS) => r = zI (cBest u K S9 L9 F9 p1 p2 p3).1 ∧ v = (cBest u K S9 L9 F9 p1 p2 p3).2) (gB D cy ad jf A) A) 0 0 A := by
  refine Met.ofW (cc := cX11_best) (maxL := 10) (ret := (some .int)) (by decide) rfl ?_
  intro p e s m args below meth c s₁ B hml hv
  obtain ⟨rfl, hG, hC⟩ := hv
  have hx := B.exec
  have hb := B.bytes
  have hr := B.returns
  have hts := atoms_spec (ws := wsX11_best) B.pre
  have hown : s.vm.findClass RX11 = some m.cls := findClass_of_methodNamed B.named
  have hlocks := B.notSynchronized
  have hS : va_S A s.heap s.heap [] := va_S.rf
  have hl := lv_entry ([.ref (ad 0), .int (zI p1), .int (zI p2), .int (zI p3)]) (n := 10) (Nat.le_of_ble_eq_true rfl)
  rw [lg_entry_eq]
  generalize (lg_sl ([.ref (ad 0), .int (zI p1), .int (zI p2), .int (zI p3)]) ++ List.replicate (10 - (lg_sl ([.ref (ad 0), .int (zI p1), .int (zI p2), .int (zI p3)])).length) Slot.unset).toArray = ls at hl ⊢
  have hl : lv_has ls 10 [(0, .ref (ad 0)), (1, .int (zI p1)), (2, .int (zI p2)), (3, .int (zI p3))] := hl
  refine lv_aload_n hx hb dX11_best_0 rfl (lv_at hl 0 rfl) ?_
  refine lv_iload_n hx hb dX11_best_1 rfl (lv_at hl 1 rfl) ?_
  refine g_callq (va_runV (As := [.int (zI p1)]) (rest := []) ⟨hx, hb, hml, hown, hts⟩ (kX11_known l D cy ad jf A u p1 (by omega) i0) (cwV 1 hts gX11_best_X11_known rfl rfl rfl (by decide +kernel) ⟨by decide, by decide⟩) (g_preV (C := RX11) hG hC hS 0 (by decide) rfl rfl) rfl rfl hl.1 rfl (lv_room (Nat.le_of_ble_eq_true rfl)) dX11_best_2 ⟨Nat.le_of_ble_eq_true rfl, Nat.le_of_ble_eq_true rfl⟩) hS (fun r1 u2 H locs p_3 hG hS => ?_)
  obtain ⟨hr_, he_⟩ := p_3
  rw [he_] at hG; clear he_
  by_cases hk_ : 0 ≤ p1 ∧ p1 ≤ u.1 0 - 1
  · rw [if_pos hk_] at hr_
    obtain ⟨a, ha0, ha, hE0, hki, hsp, hli, hfd⟩ := hsw p1.toNat (by omega)
    rw [ha0] at hr_
    subst hr_
    rcases (show K p1.toNat = 0 ∨ K p1.toNat = 1 ∨ K p1.toNat = 2 ∨ K p1.toNat = 3 by omega) with hk0 | hk0 | hk0 | hk0
    · have hE : u.2.2.2.2 a = .inr (2, [.int (zI (p1.toNat : Int)), .int (zI (S9 p1.toNat)), .int (zI (L9 p1.toNat)), .int (zI (F9 p1.toNat))]) := by rw [hE0, hk0]; rfl
      simp only [va_rf]
      refine lv_astore (lv' := [(4, .ref a), (0, .ref (ad 0)), (1, .int (zI p1)), (2, .int (zI p2)), (3, .int (zI p3))]) hx hb dX11_best_5 hl (by decide) rfl (fun ls hl => ?_)
      refine lv_aload hx hb dX11_best_7 (lv_at hl 0 rfl) ?_
      refine lv_ifnull hx hb dX11_best_9 ?_
      refine lv_iload_n hx hb dX11_best_12 rfl (lv_at hl 3 rfl) ?_
      refine lv_iload_n hx hb dX11_best_13 rfl (lv_at hl 4 rfl) ?_
      refine g_calli (va_runS (As := [.int (zI p2), .int (zI p3)]) (rest := []) ⟨hx, hb, hml, hown, hts⟩ (kX11_isPlace l D cy ad jf A u p2 p3 (by omega) (by omega)) (va_cwS 2 hts gX11_best_X11_isPlace rfl rfl rfl (by decide +kernel) ⟨by decide, by decide⟩) (g_preS hG hC hS) rfl rfl hl.1 rfl (lv_room (Nat.le_of_ble_eq_true rfl)) dX11_best_14 ⟨Nat.le_of_ble_eq_true rfl, Nat.le_of_ble_eq_true rfl⟩) hS (fun r4 u5 H locs p_6 hG hS => ?_)
      obtain ⟨⟨b7, rfl, q_8⟩, he_⟩ := p_6
      rw [he_] at hG; clear he_
      have hbb7 : 0 ≤ b7 ∧ b7 ≤ 1 := by rcases q_8 with ⟨h, _⟩ | ⟨h, _⟩ <;> omega
      refine z_if_ne (tgt := 22) hx hb dX11_best_17 (by decide) (by omega) (by omega) (fun c_9 => ?_) (fun c_9 => ?_)
      · refine lv_aload_n hx hb dX11_best_22 rfl (lv_at hl 1 rfl) ?_
        refine g_get (C := RX11) (T := TX11) (N := 14) (ci := 10) hx hb hts (fun _ h => (List.mem_cons_of_mem _ (List.mem_append_left _ (List.mem_append_left _ (List.mem_append_left _ (List.mem_append_left _ (List.mem_append_left _ (List.mem_append_left _ (List.mem_append_right _ h))))))))) hown hC.1 hG 0 (by decide) rfl rfl 0 (by decide) (hts (.fieldLink RX11 10 "StraitSwim" "strait" "LStraitSwim$Strait;") (List.mem_cons_of_mem _ (List.mem_append_left _ (List.mem_append_left _ (List.mem_append_left _ (List.mem_append_left _ (List.mem_append_left _ (List.mem_append_left _ (List.mem_append_left _ (List.mem_append_left _ (List.mem_of_getElem? (i := 0) rfl))))))))))) (fun _ h9 => h9) rfl dX11_best_23 ?_
        refine lv_iload_n hx hb dX11_best_26 rfl (lv_at hl 3 rfl) ?_
        refine lv_iload_n hx hb dX11_best_27 rfl (lv_at hl 4 rfl) ?_
        refine g_calli (va_runV (As := [.int (zI p2), .int (zI p3)]) (rest := []) ⟨hx, hb, hml, hown, hts⟩ (kX8_isDry l D cy ad jf A u p2 p3 (by omega) (by omega) hd) (cwV 2 hts gX11_best_X8_isDry rfl rfl rfl (by decide +kernel) ⟨by decide, by decide⟩) (g_preV (C := RX8) hG hC hS 1 (by decide) rfl rfl) rfl rfl hl.1 rfl (lv_room (Nat.le_of_ble_eq_true rfl)) dX11_best_28 ⟨Nat.le_of_ble_eq_true rfl, Nat.le_of_ble_eq_true rfl⟩) hS (fun r10 u11 H locs p_12 hG hS => ?_)
        obtain ⟨rfl, he_⟩ := p_12
        rw [he_] at hG; clear he_
        obtain ⟨z14, hz14⟩ : ∃ z : Int, z = spDry (u.2.1 9) p2 p3 := ⟨_, rfl⟩
        rw [← hz14]
        have q_13 : z14 = 0 ∨ z14 = 1 := by rw [hz14]; exact hd _ (by omega)
        refine z_if_eq (tgt := 37) hx hb dX11_best_31 (by decide) (by omega) (by omega) (fun c_15 => ?_) (fun c_15 => ?_)
        · refine lv_aload_n hx hb dX11_best_37 rfl (lv_at hl 1 rfl) ?_
          refine g_get (C := RX11) (T := TX11) (N := 14) (ci := 10) hx hb hts (fun _ h => (List.mem_cons_of_mem _ (List.mem_append_left _ (List.mem_append_left _ (List.mem_append_left _ (List.mem_append_left _ (List.mem_append_left _ (List.mem_append_left _ (List.mem_append_right _ h))))))))) hown hC.1 hG 0 (by decide) rfl rfl 6 (by decide) (hts (.fieldLink RX11 39 "StraitSwim" "trial" "LStraitSwim$Swim;") (List.mem_cons_of_mem _ (List.mem_append_left _ (List.mem_append_left _ (List.mem_append_left _ (List.mem_append_left _ (List.mem_append_left _ (List.mem_append_left _ (List.mem_append_left _ (List.mem_append_left _ (List.mem_of_getElem? (i := 1) rfl))))))))))) (fun _ h9 => h9) rfl dX11_best_38 ?_
          refine lv_aload hx hb dX11_best_41 (lv_at hl 0 rfl) ?_
          refine lv_aload_n hx hb dX11_best_43 rfl (lv_at hl 1 rfl) ?_
          refine g_get (C := RX11) (T := TX11) (N := 14) (ci := 10) hx hb hts (fun _ h => (List.mem_cons_of_mem _ (List.mem_append_left _ (List.mem_append_left _ (List.mem_append_left _ (List.mem_append_left _ (List.mem_append_left _ (List.mem_append_left _ (List.mem_append_right _ h))))))))) hown hC.1 hG 0 (by decide) rfl rfl 3 (by decide) (hts (.fieldLink RX11 26 "StraitSwim" "chill" "I") (List.mem_cons_of_mem _ (List.mem_append_left _ (List.mem_append_left _ (List.mem_append_left _ (List.mem_append_left _ (List.mem_append_left _ (List.mem_append_left _ (List.mem_append_left _ (List.mem_append_left _ (List.mem_of_getElem? (i := 2) rfl))))))))))) (fun _ h9 => h9) rfl dX11_best_44 ?_
          refine g_callv (va_runV (As := [.ref a, .int (zI (u.1 1))]) (rest := []) ⟨hx, hb, hml, hown, hts⟩ (kX9_ready_3_X3 l D cy ad jf A u a ((p1.toNat : Int)) (S9 p1.toNat) (L9 p1.toNat) (F9 p1.toNat) (u.1 1) ha hE (by omega) (by omega) (by omega) (by omega) hrd.2.2.2.2) (cwV 2 hts gX11_best_X9_ready rfl rfl rfl (by decide +kernel) ⟨by decide, by decide⟩) (g_preV (C := RX9) hG hC hS 3 (by decide) rfl rfl) rfl rfl hl.1 rfl (lv_room (Nat.le_of_ble_eq_true rfl)) dX11_best_47 ⟨Nat.le_of_ble_eq_true rfl, Nat.le_of_ble_eq_true rfl⟩) hS (fun u17 H locs p_18 hG hS => ?_)
          obtain ⟨⟨r1_, r2_, r3_, r4_, r5_⟩, rk_, ri_, rr_⟩ := cReady_inv (u := u) (sd := 19) (cl := 20) (nu := 10) (rc := 13) (tc := 14) (by decide) (by decide) (K := 0) (nm := (p1.toNat : Int)) (sp := S9 p1.toNat) (li := L9 p1.toNat) (fd := F9 p1.toNat) (ch := u.1 1) (by omega) (by omega) (by omega) hrd
          rw [← p_18] at r1_ r2_ r3_ r4_ r5_ rk_ ri_ rr_
          have hd2 : ∀ j, j < 288 → u17.2.1 9 j = 0 ∨ u17.2.1 9 j = 1 := by rw [rk_ 9 (by decide)]; exact hd
          have i10b : ∀ j, j < 36 → -9 ≤ u17.2.1 10 j ∧ u17.2.1 10 j ≤ 9 := by rw [rk_ 10 (by decide)]; exact i10
          have i11b : ∀ j, j < 36 → -9 ≤ u17.2.1 11 j ∧ u17.2.1 11 j ≤ 9 := by rw [rk_ 11 (by decide)]; exact i11
          have hI : cI u17 := ⟨⟨r1_, r2_, r3_, r4_, r5_⟩, hd2, i10b, i11b⟩
          refine z_bipush hx hb dX11_best_50 (by decide) ?_
          refine lv_istore (lv' := [(5, .int (zI 101)), (4, .ref a), (0, .ref (ad 0)), (1, .int (zI p1)), (2, .int (zI p2)), (3, .int (zI p3))]) hx hb dX11_best_52 hl (by decide) rfl (fun ls hl => ?_)
          refine z_bipush hx hb dX11_best_54 (by decide) ?_
          refine lv_istore (lv' := [(6, .int (zI ((-4)))), (5, .int (zI 101)), (4, .ref a), (0, .ref (ad 0)), (1, .int (zI p1)), (2, .int (zI p2)), (3, .int (zI p3))]) hx hb dX11_best_56 hl (by decide) rfl (fun ls hl => ?_)
          refine z_iconst hx hb dX11_best_58 ?_
          refine lv_istore (lv' := [(7, .int (zI 0)), (6, .int (zI ((-4)))), (5, .int (zI 101)), (4, .ref a), (0, .ref (ad 0)), (1, .int (zI p1)), (2, .int (zI p2)), (3, .int (zI p3))]) hx hb dX11_best_59 hl (by decide) rfl (fun ls hl => ?_)
          have loop61 : ∀ (n : Nat) (q fw sa : Int) (w : gS) (H : Heap) (locs : List Loc) (ls : Array Slot), (48 - q).toNat < n → (0 ≤ q ∧ q ≤ 48) → (0 ≤ fw ∧ fw ≤ 101) → (cI w) → (cBestO p2 p3 49 0 101 (-4) u17 = cBestO p2 p3 n q fw sa w) → gH D cy ad jf A w H → va_S A s.heap H locs → lv_has ls 10 [(7, .int (zI q)), (6, .int (zI sa)), (5, .int (zI fw)), (4, .ref a), (0, .ref (ad 0)), (1, .int (zI p1)), (2, .int (zI p2)), (3, .int (zI p3))] → W p l e (headSpec wsX11_best ({ frames := 5, cells := 0, slots := 0, locals := 120 })).room s m ([.ref (ad 0), .int (zI p1), .int (zI p2), .int (zI p3)]).toArray below meth c H locs 0 0 (MQ below (va_Qi (fun (r : Int32) (v : gS) => r = zI (cBest u K S9 L9 F9 p1 p2 p3).1 ∧ v = (cBest u K S9 L9 F9 p1 p2 p3).2) (gB D cy ad jf A) A) ([.ref (ad 0), .int (zI p1), .int (zI p2), .int (zI p3)]).toArray s 0 0 A) (F0 m 61 ls []) := by
            intro n
            induction n with
            | zero => intro q fw sa w H locs ls hm; exact absurd hm (Nat.not_lt_zero _)
            | succ n ih61 =>
              intro q fw sa w H locs ls hm hq9 hf9 hI hT hG hS hl
              refine lv_iload hx hb dX11_best_61 (lv_at hl 0 rfl) ?_
              refine z_bipush hx hb dX11_best_63 (by decide) ?_
              refine z_icmp_ge (tgt := 145) hx hb dX11_best_65 (by decide) (by omega) (by omega) (by omega) (by omega) (fun c_19 => ?_) (fun c_19 => ?_)
              · refine lv_iload hx hb dX11_best_145 (lv_at hl 1 rfl) ?_
                exact W.iret (v := zI sa) hx hb hr (fun t9 ht9_ hW => ⟨⟨zI sa, w, rfl, (by unfold cBest; rw [if_pos (by omega), if_pos (by omega)]; unfold cRdT; rw [hk0, ← p_18, hT, cBestO, if_neg (by omega)]; exact ⟨rfl, rfl⟩), gB.mk' hG hC hS ht9_ hW⟩, hS.F ht9_⟩) hS.2.2 dX11_best_147
              · refine z_iconst hx hb dX11_best_68 ?_
                refine lv_istore (lv' := [(8, .int (zI 0)), (7, .int (zI q)), (6, .int (zI sa)), (5, .int (zI fw)), (4, .ref a), (0, .ref (ad 0)), (1, .int (zI p1)), (2, .int (zI p2)), (3, .int (zI p3))]) hx hb dX11_best_69 hl (by decide) rfl (fun ls hl => ?_)
                have loop71 : ∀ (n : Nat) (b fw2 sa2 : Int) (w2 : gS) (H : Heap) (locs : List Loc) (ls : Array Slot), (8 - b).toNat < n → (0 ≤ b ∧ b ≤ 8) → (0 ≤ fw2 ∧ fw2 ≤ 101) → (cI w2) → (cBestI p2 p3 q 9 0 fw sa w = cBestI p2 p3 q n b fw2 sa2 w2) → gH D cy ad jf A w2 H → va_S A s.heap H locs → lv_has ls 10 [(8, .int (zI b)), (7, .int (zI q)), (6, .int (zI sa2)), (5, .int (zI fw2)), (4, .ref a), (0, .ref (ad 0)), (1, .int (zI p1)), (2, .int (zI p2)), (3, .int (zI p3))] → W p l e (headSpec wsX11_best ({ frames := 5, cells := 0, slots := 0, locals := 120 })).room s m ([.ref (ad 0), .int (zI p1), .int (zI p2), .int (zI p3)]).toArray below meth c H locs 0 0 (MQ below (va_Qi (fun (r : Int32) (v : gS) => r = zI (cBest u K S9 L9 F9 p1 p2 p3).1 ∧ v = (cBest u K S9 L9 F9 p1 p2 p3).2) (gB D cy ad jf A) A) ([.ref (ad 0), .int (zI p1), .int (zI p2), .int (zI p3)]).toArray s 0 0 A) (F0 m 71 ls []) := by
                  intro n
                  induction n with
                  | zero => intro b fw2 sa2 w2 H locs ls hm; exact absurd hm (Nat.not_lt_zero _)
                  | succ n ih71 =>
                    intro b fw2 sa2 w2 H locs ls hm hb9 hf2 hI2 hT2 hG hS hl
                    obtain ⟨⟨r1_, r2_, r3_, r4_, r5_⟩, hd2, i10b, i11b⟩ := id hI2
                    refine lv_iload hx hb dX11_best_71 (lv_at hl 0 rfl) ?_
                    refine z_bipush hx hb dX11_best_73 (by decide) ?_
                    refine z_icmp_ge (tgt := 139) hx hb dX11_best_75 (by decide) (by omega) (by omega) (by omega) (by omega) (fun c_20 => ?_) (fun c_20 => ?_)
                    · refine z_iinc (lv' := [(7, .int (zI (q + 1))), (8, .int (zI b)), (6, .int (zI sa2)), (5, .int (zI fw2)), (4, .ref a), (0, .ref (ad 0)), (1, .int (zI p1)), (2, .int (zI p2)), (3, .int (zI p3))]) hx hb dX11_best_139 hl (k := 1) rfl (by decide) rfl (fun ls hl => ?_)
                      refine lv_goto (tgt := 61) hx hb dX11_best_142 (by decide) ?_
                      exact ih61 (q + 1) fw2 sa2 w2 _ _ _ (by omega) (by omega) (by omega) (by exact hI2) (by have hE8 : cBestI p2 p3 q 9 0 fw sa w = (fw2, sa2, w2) := (by rw [hT2, cBestI, if_neg (by omega)]); rw [hT, cBestO, if_pos (by omega), hE8]) hG hS (lv_sub hl [0, 2, 3, 4, 5, 6, 7, 8] rfl)
                    · refine lv_aload_n hx hb dX11_best_78 rfl (lv_at hl 5 rfl) ?_
                      refine g_get (C := RX11) (T := TX11) (N := 14) (ci := 10) hx hb hts (fun _ h => (List.mem_cons_of_mem _ (List.mem_append_left _ (List.mem_append_left _ (List.mem_append_left _ (List.mem_append_left _ (List.mem_append_left _ (List.mem_append_left _ (List.mem_append_right _ h))))))))) hown hC.1 hG 0 (by decide) rfl rfl 6 (by decide) (hts (.fieldLink RX11 39 "StraitSwim" "trial" "LStraitSwim$Swim;") (List.mem_cons_of_mem _ (List.mem_append_left _ (List.mem_append_left _ (List.mem_append_left _ (List.mem_append_left _ (List.mem_append_left _ (List.mem_append_left _ (List.mem_append_left _ (List.mem_append_left _ (List.mem_of_getElem? (i := 1) rfl))))))))))) (fun _ h9 => h9) rfl dX11_best_79 ?_
                      refine lv_aload_n hx hb dX11_best_82 rfl (lv_at hl 5 rfl) ?_
                      refine g_get (C := RX11) (T := TX11) (N := 14) (ci := 10) hx hb hts (fun _ h => (List.mem_cons_of_mem _ (List.mem_append_left _ (List.mem_append_left _ (List.mem_append_left _ (List.mem_append_left _ (List.mem_append_left _ (List.mem_append_left _ (List.mem_append_right _ h))))))))) hown hC.1 hG 0 (by decide) rfl rfl 0 (by decide) (hts (.fieldLink RX11 10 "StraitSwim" "strait" "LStraitSwim$Strait;") (List.mem_cons_of_mem _ (List.mem_append_left _ (List.mem_append_left _ (List.mem_append_left _ (List.mem_append_left _ (List.mem_append_left _ (List.mem_append_left _ (List.mem_append_left _ (List.mem_append_left _ (List.mem_of_getElem? (i := 0) rfl))))))))))) (fun _ h9 => h9) rfl dX11_best_83 ?_
                      refine lv_iload_n hx hb dX11_best_86 rfl (lv_at hl 7 rfl) ?_
                      refine lv_iload_n hx hb dX11_best_87 rfl (lv_at hl 8 rfl) ?_
                      refine lv_iload hx hb dX11_best_88 (lv_at hl 1 rfl) ?_
                      refine lv_iload hx hb dX11_best_90 (lv_at hl 0 rfl) ?_
                      refine g_calli (va_runV (As := [.ref (ad 1), .int (zI p2), .int (zI p3), .int (zI q), .int (zI b)]) (rest := []) ⟨hx, hb, hml, hown, hts⟩ (kX9_cross_3 l D cy ad jf A w2 p2 p3 q b (by omega) (by omega) (by omega) (by omega) i10b i11b r1_ r2_ hd2 r3_ r4_) (cwV 5 hts gX11_best_X9_cross rfl rfl rfl (by decide +kernel) ⟨by decide, by decide⟩) (g_preV (C := RX9) hG hC hS 3 (by decide) rfl rfl) rfl rfl hl.1 rfl (lv_room (Nat.le_of_ble_eq_true rfl)) dX11_best_92 ⟨Nat.le_of_ble_eq_true rfl, Nat.le_of_ble_eq_true rfl⟩) hS (fun r21 u22 H locs p_23 hG hS => ?_)
                      obtain ⟨rfl, hu22⟩ := p_23
                      obtain ⟨z24, hz24⟩ : ∃ z : Int, z = (cCross w2 17 18 19 20 11 12 13 14 p2 p3 q b).1 := ⟨_, rfl⟩
                      rw [← hz24]
                      have qc_ := cCross_res w2 p2 p3 q b hI2
                      rw [← hz24, ← hu22] at qc_
                      have hI3 : cI u22 := by rw [hu22]; exact cI_cross p2 p3 q b hI2
                      refine lv_istore (lv' := [(9, .int (zI z24)), (8, .int (zI b)), (7, .int (zI q)), (6, .int (zI sa2)), (5, .int (zI fw2)), (4, .ref a), (0, .ref (ad 0)), (1, .int (zI p1)), (2, .int (zI p2)), (3, .int (zI p3))]) hx hb dX11_best_95 hl (by decide) rfl (fun ls hl => ?_)
                      refine lv_iload hx hb dX11_best_97 (lv_at hl 0 rfl) ?_
                      refine z_if_ne (tgt := 133) hx hb dX11_best_99 (by decide) (by omega) (by omega) (fun c_25 => ?_) (fun c_25 => ?_)
                      · refine z_iinc (lv' := [(8, .int (zI (b + 1))), (9, .int (zI z24)), (7, .int (zI q)), (6, .int (zI sa2)), (5, .int (zI fw2)), (4, .ref a), (0, .ref (ad 0)), (1, .int (zI p1)), (2, .int (zI p2)), (3, .int (zI p3))]) hx hb dX11_best_133 hl (k := 1) rfl (by decide) rfl (fun ls hl => ?_)
                        refine lv_goto (tgt := 71) hx hb dX11_best_136 (by decide) ?_
                        exact ih71 (b + 1) fw2 sa2 u22 _ _ _ (by omega) (by omega) (by omega) (by exact hI3) (by rw [hT2, cBestI, if_pos (by omega)]; simp only [← hz24, ← hu22]; (repeat (first | rw [if_pos (by omega)] | rw [if_neg (by omega)]))) hG hS (lv_sub hl [0, 2, 3, 4, 5, 6, 7, 8, 9] rfl)
                      · refine lv_aload_n hx hb dX11_best_102 rfl (lv_at hl 6 rfl) ?_
                        refine g_get (C := RX11) (T := TX11) (N := 14) (ci := 10) hx hb hts (fun _ h => (List.mem_cons_of_mem _ (List.mem_append_left _ (List.mem_append_left _ (List.mem_append_left _ (List.mem_append_left _ (List.mem_append_left _ (List.mem_append_left _ (List.mem_append_right _ h))))))))) hown hC.1 hG 0 (by decide) rfl rfl 6 (by decide) (hts (.fieldLink RX11 39 "StraitSwim" "trial" "LStraitSwim$Swim;") (List.mem_cons_of_mem _ (List.mem_append_left _ (List.mem_append_left _ (List.mem_append_left _ (List.mem_append_left _ (List.mem_append_left _ (List.mem_append_left _ (List.mem_append_left _ (List.mem_append_left _ (List.mem_of_getElem? (i := 1) rfl))))))))))) (fun _ h9 => h9) rfl dX11_best_103 ?_
                        refine g_get (C := RX9) (T := TX9) (N := 9) (ci := 8) hx hb hts (fun _ h => (List.mem_cons_of_mem _ (List.mem_append_left _ (List.mem_append_left _ (List.mem_append_left _ (List.mem_append_left _ (List.mem_append_left _ (List.mem_append_right _ h)))))))) hown hC.1 hG 3 (by decide) rfl rfl 1 (by decide) (hts (.fieldLink RX11 148 "StraitSwim$Swim" "quarters" "I") (List.mem_cons_of_mem _ (List.mem_append_left _ (List.mem_append_left _ (List.mem_append_left _ (List.mem_append_left _ (List.mem_append_left _ (List.mem_append_left _ (List.mem_append_left _ (List.mem_append_left _ (List.mem_of_getElem? (i := 3) rfl))))))))))) (fun _ h9 => h9) rfl dX11_best_106 ?_
                        refine lv_iload hx hb dX11_best_109 (lv_at hl 4 rfl) ?_
                        refine z_icmp_ge (tgt := 133) hx hb dX11_best_111 (by decide) (by omega) (by omega) (by omega) (by omega) (fun c_26 => ?_) (fun c_26 => ?_)
                        · refine z_iinc (lv' := [(8, .int (zI (b + 1))), (9, .int (zI z24)), (7, .int (zI q)), (6, .int (zI sa2)), (5, .int (zI fw2)), (4, .ref a), (0, .ref (ad 0)), (1, .int (zI p1)), (2, .int (zI p2)), (3, .int (zI p3))]) hx hb dX11_best_133 hl (k := 1) rfl (by decide) rfl (fun ls hl => ?_)
                          refine lv_goto (tgt := 71) hx hb dX11_best_136 (by decide) ?_
                          exact ih71 (b + 1) fw2 sa2 u22 _ _ _ (by omega) (by omega) (by omega) (by exact hI3) (by rw [hT2, cBestI, if_pos (by omega)]; simp only [← hz24, ← hu22]; (repeat (first | rw [if_pos (by omega)] | rw [if_neg (by omega)]))) hG hS (lv_sub hl [0, 2, 3, 4, 5, 6, 7, 8, 9] rfl)
                        · refine lv_aload_n hx hb dX11_best_114 rfl (lv_at hl 6 rfl) ?_
                          refine g_get (C := RX11) (T := TX11) (N := 14) (ci := 10) hx hb hts (fun _ h => (List.mem_cons_of_mem _ (List.mem_append_left _ (List.mem_append_left _ (List.mem_append_left _ (List.mem_append_left _ (List.mem_append_left _ (List.mem_append_left _ (List.mem_append_right _ h))))))))) hown hC.1 hG 0 (by decide) rfl rfl 6 (by decide) (hts (.fieldLink RX11 39 "StraitSwim" "trial" "LStraitSwim$Swim;") (List.mem_cons_of_mem _ (List.mem_append_left _ (List.mem_append_left _ (List.mem_append_left _ (List.mem_append_left _ (List.mem_append_left _ (List.mem_append_left _ (List.mem_append_left _ (List.mem_append_left _ (List.mem_of_getElem? (i := 1) rfl))))))))))) (fun _ h9 => h9) rfl dX11_best_115 ?_
                          refine g_get (C := RX9) (T := TX9) (N := 9) (ci := 8) hx hb hts (fun _ h => (List.mem_cons_of_mem _ (List.mem_append_left _ (List.mem_append_left _ (List.mem_append_left _ (List.mem_append_left _ (List.mem_append_left _ (List.mem_append_right _ h)))))))) hown hC.1 hG 3 (by decide) rfl rfl 1 (by decide) (hts (.fieldLink RX11 148 "StraitSwim$Swim" "quarters" "I") (List.mem_cons_of_mem _ (List.mem_append_left _ (List.mem_append_left _ (List.mem_append_left _ (List.mem_append_left _ (List.mem_append_left _ (List.mem_append_left _ (List.mem_append_left _ (List.mem_append_left _ (List.mem_of_getElem? (i := 3) rfl))))))))))) (fun _ h9 => h9) rfl dX11_best_118 ?_
                          refine lv_istore (lv' := [(5, .int (zI (u22.1 11))), (9, .int (zI z24)), (8, .int (zI b)), (7, .int (zI q)), (6, .int (zI sa2)), (4, .ref a), (0, .ref (ad 0)), (1, .int (zI p1)), (2, .int (zI p2)), (3, .int (zI p3))]) hx hb dX11_best_121 hl (by decide) rfl (fun ls hl => ?_)
                          refine z_bipush hx hb dX11_best_123 (by decide) ?_
                          refine lv_iload hx hb dX11_best_125 (lv_at hl 3 rfl) ?_
                          refine z_imul hx hb dX11_best_127 ?_
                          refine lv_iload hx hb dX11_best_128 (lv_at hl 2 rfl) ?_
                          refine z_iadd hx hb dX11_best_130 ?_
                          refine lv_istore (lv' := [(6, .int (zI ((10 * q) + b))), (5, .int (zI (u22.1 11))), (9, .int (zI z24)), (8, .int (zI b)), (7, .int (zI q)), (4, .ref a), (0, .ref (ad 0)), (1, .int (zI p1)), (2, .int (zI p2)), (3, .int (zI p3))]) hx hb dX11_best_131 hl (by decide) rfl (fun ls hl => ?_)
                          refine z_iinc (lv' := [(8, .int (zI (b + 1))), (6, .int (zI ((10 * q) + b))), (5, .int (zI (u22.1 11))), (9, .int (zI z24)), (7, .int (zI q)), (4, .ref a), (0, .ref (ad 0)), (1, .int (zI p1)), (2, .int (zI p2)), (3, .int (zI p3))]) hx hb dX11_best_133 hl (k := 3) rfl (by decide) rfl (fun ls hl => ?_)
                          refine lv_goto (tgt := 71) hx hb dX11_best_136 (by decide) ?_
                          exact ih71 (b + 1) (u22.1 11) ((10 * q) + b) u22 _ _ _ (by omega) (by omega) (by omega) (by exact hI3) (by rw [hT2, cBestI, if_pos (by omega)]; simp only [← hz24, ← hu22]; (repeat (first | rw [if_pos (by omega)] | rw [if_neg (by omega)]))) hG hS (lv_sub hl [0, 4, 1, 2, 5, 6, 7, 8, 9] rfl)
                exact loop71 9 0 fw sa w _ _ _ (by omega) (by omega) (by omega) (by exact hI) (by rfl) hG hS (lv_sub hl [0, 1, 2, 3, 4, 5, 6, 7, 8] rfl)
          exact loop61 49 0 101 ((-4)) u17 _ _ _ (by omega) (by omega) (by omega) (by exact hI) (by rfl) hG hS (lv_sub hl [0, 1, 2, 3, 4, 5, 6, 7] rfl)
        · refine z_bipush hx hb dX11_best_34 (by decide) ?_
          exact W.iret (v := zI ((-4))) hx hb hr (fun t9 ht9_ hW => ⟨⟨zI ((-4)), u, rfl, (by unfold cBest; (first | (rw [if_neg (by omega)]; exact ⟨rfl, rfl⟩) | (rw [if_pos (by omega), if_neg (by omega)]; exact ⟨rfl, rfl⟩))), gB.mk' hG hC hS ht9_ hW⟩, hS.F ht9_⟩) hS.2.2 dX11_best_36
      · refine z_iconst hx hb dX11_best_20 ?_
        exact W.iret (v := zI ((-1))) hx hb hr (fun t9 ht9_ hW => ⟨⟨zI ((-1)), u, rfl, (by unfold cBest; (first | (rw [if_neg (by omega)]; exact ⟨rfl, rfl⟩) | (rw [if_pos (by omega), if_neg (by omega)]; exact ⟨rfl, rfl⟩))), gB.mk' hG hC hS ht9_ hW⟩, hS.F ht9_⟩) hS.2.2 dX11_best_21
    · have hE : u.2.2.2.2 a = .inr (0, [.int (zI (p1.toNat : Int)), .int (zI (S9 p1.toNat)), .int (zI (L9 p1.toNat)), .int (zI (F9 p1.toNat))]) := by rw [hE0, hk0]; rfl
      simp only [va_rf]
      refine lv_astore (lv' := [(4, .ref a), (0, .ref (ad 0)), (1, .int (zI p1)), (2, .int (zI p2)), (3, .int (zI p3))]) hx hb dX11_best_5 hl (by decide) rfl (fun ls hl => ?_)
      refine lv_aload hx hb dX11_best_7 (lv_at hl 0 rfl) ?_
      refine lv_ifnull hx hb dX11_best_9 ?_
      refine lv_iload_n hx hb dX11_best_12 rfl (lv_at hl 3 rfl) ?_
      refine lv_iload_n hx hb dX11_best_13 rfl (lv_at hl 4 rfl) ?_
      refine g_calli (va_runS (As := [.int (zI p2), .int (zI p3)]) (rest := []) ⟨hx, hb, hml, hown, hts⟩ (kX11_isPlace l D cy ad jf A u p2 p3 (by omega) (by omega)) (va_cwS 2 hts gX11_best_X11_isPlace rfl rfl rfl (by decide +kernel) ⟨by decide, by decide⟩) (g_preS hG hC hS) rfl rfl hl.1 rfl (lv_room (Nat.le_of_ble_eq_true rfl)) dX11_best_14 ⟨Nat.le_of_ble_eq_true rfl, Nat.le_of_ble_eq_true rfl⟩) hS (fun r27 u28 H locs p_29 hG hS => ?_)
      obtain ⟨⟨b30, rfl, q_31⟩, he_⟩ := p_29
      rw [he_] at hG; clear he_
      have hbb30 : 0 ≤ b30 ∧ b30 ≤ 1 := by rcases q_31 with ⟨h, _⟩ | ⟨h, _⟩ <;> omega
      refine z_if_ne (tgt := 22) hx hb dX11_best_17 (by decide) (by omega) (by omega) (fun c_32 => ?_) (fun c_32 => ?_)
      · refine lv_aload_n hx hb dX11_best_22 rfl (lv_at hl 1 rfl) ?_
        refine g_get (C := RX11) (T := TX11) (N := 14) (ci := 10) hx hb hts (fun _ h => (List.mem_cons_of_mem _ (List.mem_append_left _ (List.mem_append_left _ (List.mem_append_left _ (List.mem_append_left _ (List.mem_append_left _ (List.mem_append_left _ (List.mem_append_right _ h))))))))) hown hC.1 hG 0 (by decide) rfl rfl 0 (by decide) (hts (.fieldLink RX11 10 "StraitSwim" "strait" "LStraitSwim$Strait;") (List.mem_cons_of_mem _ (List.mem_append_left _ (List.mem_append_left _ (List.mem_append_left _ (List.mem_append_left _ (List.mem_append_left _ (List.mem_append_left _ (List.mem_append_left _ (List.mem_append_left _ (List.mem_of_getElem? (i := 0) rfl))))))))))) (fun _ h9 => h9) rfl dX11_best_23 ?_
        refine lv_iload_n hx hb dX11_best_26 rfl (lv_at hl 3 rfl) ?_
        refine lv_iload_n hx hb dX11_best_27 rfl (lv_at hl 4 rfl) ?_
        refine g_calli (va_runV (As := [.int (zI p2), .int (zI p3)]) (rest := []) ⟨hx, hb, hml, hown, hts⟩ (kX8_isDry l D cy ad jf A u p2 p3 (by omega) (by omega) hd) (cwV 2 hts gX11_best_X8_isDry rfl rfl rfl (by decide +kernel) ⟨by decide, by decide⟩) (g_preV (C := RX8) hG hC hS 1 (by decide) rfl rfl) rfl rfl hl.1 rfl (lv_room (Nat.le_of_ble_eq_true rfl)) dX11_best_28 ⟨Nat.le_of_ble_eq_true rfl, Nat.le_of_ble_eq_true rfl⟩) hS (fun r33 u34 H locs p_35 hG hS => ?_)
        obtain ⟨rfl, he_⟩ := p_35
        rw [he_] at hG; clear he_
        obtain ⟨z37, hz37⟩ : ∃ z : Int, z = spDry (u.2.1 9) p2 p3 := ⟨_, rfl⟩
        rw [← hz37]
        have q_36 : z37 = 0 ∨ z37 = 1 := by rw [hz37]; exact hd _ (by omega)
        refine z_if_eq (tgt := 37) hx hb dX11_best_31 (by decide) (by omega) (by omega) (fun c_38 => ?_) (fun c_38 => ?_)
        · refine lv_aload_n hx hb dX11_best_37 rfl (lv_at hl 1 rfl) ?_
          refine g_get (C := RX11) (T := TX11) (N := 14) (ci := 10) hx hb hts (fun _ h => (List.mem_cons_of_mem _ (List.mem_append_left _ (List.mem_append_left _ (List.mem_append_left _ (List.mem_append_left _ (List.mem_append_left _ (List.mem_append_left _ (List.mem_append_right _ h))))))))) hown hC.1 hG 0 (by decide) rfl rfl 6 (by decide) (hts (.fieldLink RX11 39 "StraitSwim" "trial" "LStraitSwim$Swim;") (List.mem_cons_of_mem _ (List.mem_append_left _ (List.mem_append_left _ (List.mem_append_left _ (List.mem_append_left _ (List.mem_append_left _ (List.mem_append_left _ (List.mem_append_left _ (List.mem_append_left _ (List.mem_of_getElem? (i := 1) rfl))))))))))) (fun _ h9 => h9) rfl dX11_best_38 ?_
          refine lv_aload hx hb dX11_best_41 (lv_at hl 0 rfl) ?_
          refine lv_aload_n hx hb dX11_best_43 rfl (lv_at hl 1 rfl) ?_
          refine g_get (C := RX11) (T := TX11) (N := 14) (ci := 10) hx hb hts (fun _ h => (List.mem_cons_of_mem _ (List.mem_append_left _ (List.mem_append_left _ (List.mem_append_left _ (List.mem_append_left _ (List.mem_append_left _ (List.mem_append_left _ (List.mem_append_right _ h))))))))) hown hC.1 hG 0 (by decide) rfl rfl 3 (by decide) (hts (.fieldLink RX11 26 "StraitSwim" "chill" "I") (List.mem_cons_of_mem _ (List.mem_append_left _ (List.mem_append_left _ (List.mem_append_left _ (List.mem_append_left _ (List.mem_append_left _ (List.mem_append_left _ (List.mem_append_left _ (List.mem_append_left _ (List.mem_of_getElem? (i := 2) rfl))))))))))) (fun _ h9 => h9) rfl dX11_best_44 ?_
          refine g_callv (va_runV (As := [.ref a, .int (zI (u.1 1))]) (rest := []) ⟨hx, hb, hml, hown, hts⟩ (kX9_ready_3_X0 l D cy ad jf A u a ((p1.toNat : Int)) (S9 p1.toNat) (L9 p1.toNat) (F9 p1.toNat) (u.1 1) ha hE (by omega) (by omega) (by omega) (by omega) hrd.2.2.2.2) (cwV 2 hts gX11_best_X9_ready rfl rfl rfl (by decide +kernel) ⟨by decide, by decide⟩) (g_preV (C := RX9) hG hC hS 3 (by decide) rfl rfl) rfl rfl hl.1 rfl (lv_room (Nat.le_of_ble_eq_true rfl)) dX11_best_47 ⟨Nat.le_of_ble_eq_true rfl, Nat.le_of_ble_eq_true rfl⟩) hS (fun u40 H locs p_41 hG hS => ?_)
          obtain ⟨⟨r1_, r2_, r3_, r4_, r5_⟩, rk_, ri_, rr_⟩ := cReady_inv (u := u) (sd := 19) (cl := 20) (nu := 10) (rc := 13) (tc := 14) (by decide) (by decide) (K := 1) (nm := (p1.toNat : Int)) (sp := S9 p1.toNat) (li := L9 p1.toNat) (fd := F9 p1.toNat) (ch := u.1 1) (by omega) (by omega) (by omega) hrd
          rw [← p_41] at r1_ r2_ r3_ r4_ r5_ rk_ ri_ rr_
          have hd2 : ∀ j, j < 288 → u40.2.1 9 j = 0 ∨ u40.2.1 9 j = 1 := by rw [rk_ 9 (by decide)]; exact hd
          have i10b : ∀ j, j < 36 → -9 ≤ u40.2.1 10 j ∧ u40.2.1 10 j ≤ 9 := by rw [rk_ 10 (by decide)]; exact i10
          have i11b : ∀ j, j < 36 → -9 ≤ u40.2.1 11 j ∧ u40.2.1 11 j ≤ 9 := by rw [rk_ 11 (by decide)]; exact i11
          have hI : cI u40 := ⟨⟨r1_, r2_, r3_, r4_, r5_⟩, hd2, i10b, i11b⟩
          refine z_bipush hx hb dX11_best_50 (by decide) ?_
          refine lv_istore (lv' := [(5, .int (zI 101)), (4, .ref a), (0, .ref (ad 0)), (1, .int (zI p1)), (2, .int (zI p2)), (3, .int (zI p3))]) hx hb dX11_best_52 hl (by decide) rfl (fun ls hl => ?_)
          refine z_bipush hx hb dX11_best_54 (by decide) ?_
          refine lv_istore (lv' := [(6, .int (zI ((-4)))), (5, .int (zI 101)), (4, .ref a), (0, .ref (ad 0)), (1, .int (zI p1)), (2, .int (zI p2)), (3, .int (zI p3))]) hx hb dX11_best_56 hl (by decide) rfl (fun ls hl => ?_)
          refine z_iconst hx hb dX11_best_58 ?_
          refine lv_istore (lv' := [(7, .int (zI 0)), (6, .int (zI ((-4)))), (5, .int (zI 101)), (4, .ref a), (0, .ref (ad 0)), (1, .int (zI p1)), (2, .int (zI p2)), (3, .int (zI p3))]) hx hb dX11_best_59 hl (by decide) rfl (fun ls hl => ?_)
          have loop61 : ∀ (n : Nat) (q fw sa : Int) (w : gS) (H : Heap) (locs : List Loc) (ls : Array Slot), (48 - q).toNat < n → (0 ≤ q ∧ q ≤ 48) → (0 ≤ fw ∧ fw ≤ 101) → (cI w) → (cBestO p2 p3 49 0 101 (-4) u40 = cBestO p2 p3 n q fw sa w) → gH D cy ad jf A w H → va_S A s.heap H locs → lv_has ls 10 [(7, .int (zI q)), (6, .int (zI sa)), (5, .int (zI fw)), (4, .ref a), (0, .ref (ad 0)), (1, .int (zI p1)), (2, .int (zI p2)), (3, .int (zI p3))] → W p l e (headSpec wsX11_best ({ frames := 5, cells := 0, slots := 0, locals := 120 })).room s m ([.ref (ad 0), .int (zI p1), .int (zI p2), .int (zI p3)]).toArray below meth c H locs 0 0 (MQ below (va_Qi (fun (r : Int32) (v : gS) => r = zI (cBest u K S9 L9 F9 p1 p2 p3).1 ∧ v = (cBest u K S9 L9 F9 p1 p2 p3).2) (gB D cy ad jf A) A) ([.ref (ad 0), .int (zI p1), .int (zI p2), .int (zI p3)]).toArray s 0 0 A) (F0 m 61 ls []) := by
            intro n
            induction n with
            | zero => intro q fw sa w H locs ls hm; exact absurd hm (Nat.not_lt_zero _)
            | succ n ih61 =>
              intro q fw sa w H locs ls hm hq9 hf9 hI hT hG hS hl
              refine lv_iload hx hb dX11_best_61 (lv_at hl 0 rfl) ?_
              refine z_bipush hx hb dX11_best_63 (by decide) ?_
              refine z_icmp_ge (tgt := 145) hx hb dX11_best_65 (by decide) (by omega) (by omega) (by omega) (by omega) (fun c_42 => ?_) (fun c_42 => ?_)
              · refine lv_iload hx hb dX11_best_145 (lv_at hl 1 rfl) ?_
                exact W.iret (v := zI sa) hx hb hr (fun t9 ht9_ hW => ⟨⟨zI sa, w, rfl, (by unfold cBest; rw [if_pos (by omega), if_pos (by omega)]; unfold cRdT; rw [hk0, ← p_41, hT, cBestO, if_neg (by omega)]; exact ⟨rfl, rfl⟩), gB.mk' hG hC hS ht9_ hW⟩, hS.F ht9_⟩) hS.2.2 dX11_best_147
              · refine z_iconst hx hb dX11_best_68 ?_
                refine lv_istore (lv' := [(8, .int (zI 0)), (7, .int (zI q)), (6, .int (zI sa)), (5, .int (zI fw)), (4, .ref a), (0, .ref (ad 0)), (1, .int (zI p1)), (2, .int (zI p2)), (3, .int (zI p3))]) hx hb dX11_best_69 hl (by decide) rfl (fun ls hl => ?_)
                have loop71 : ∀ (n : Nat) (b fw2 sa2 : Int) (w2 : gS) (H : Heap) (locs : List Loc) (ls : Array Slot), (8 - b).toNat < n → (0 ≤ b ∧ b ≤ 8) → (0 ≤ fw2 ∧ fw2 ≤ 101) → (cI w2) → (cBestI p2 p3 q 9 0 fw sa w = cBestI p2 p3 q n b fw2 sa2 w2) → gH D cy ad jf A w2 H → va_S A s.heap H locs → lv_has ls 10 [(8, .int (zI b)), (7, .int (zI q)), (6, .int (zI sa2)), (5, .int (zI fw2)), (4, .ref a), (0, .ref (ad 0)), (1, .int (zI p1)), (2, .int (zI p2)), (3, .int (zI p3))] → W p l e (headSpec wsX11_best ({ frames := 5, cells := 0, slots := 0, locals := 120 })).room s m ([.ref (ad 0), .int (zI p1), .int (zI p2), .int (zI p3)]).toArray below meth c H locs 0 0 (MQ below (va_Qi (fun (r : Int32) (v : gS) => r = zI (cBest u K S9 L9 F9 p1 p2 p3).1 ∧ v = (cBest u K S9 L9 F9 p1 p2 p3).2) (gB D cy ad jf A) A) ([.ref (ad 0), .int (zI p1), .int (zI p2), .int (zI p3)]).toArray s 0 0 A) (F0 m 71 ls []) := by
                  intro n
                  induction n with
                  | zero => intro b fw2 sa2 w2 H locs ls hm; exact absurd hm (Nat.not_lt_zero _)
                  | succ n ih71 =>
                    intro b fw2 sa2 w2 H locs ls hm hb9 hf2 hI2 hT2 hG hS hl
                    obtain ⟨⟨r1_, r2_, r3_, r4_, r5_⟩, hd2, i10b, i11b⟩ := id hI2
                    refine lv_iload hx hb dX11_best_71 (lv_at hl 0 rfl) ?_
                    refine z_bipush hx hb dX11_best_73 (by decide) ?_
                    refine z_icmp_ge (tgt := 139) hx hb dX11_best_75 (by decide) (by omega) (by omega) (by omega) (by omega) (fun c_43 => ?_) (fun c_43 => ?_)
                    · refine z_iinc (lv' := [(7, .int (zI (q + 1))), (8, .int (zI b)), (6, .int (zI sa2)), (5, .int (zI fw2)), (4, .ref a), (0, .ref (ad 0)), (1, .int (zI p1)), (2, .int (zI p2)), (3, .int (zI p3))]) hx hb dX11_best_139 hl (k := 1) rfl (by decide) rfl (fun ls hl => ?_)
                      refine lv_goto (tgt := 61) hx hb dX11_best_142 (by decide) ?_
                      exact ih61 (q + 1) fw2 sa2 w2 _ _ _ (by omega) (by omega) (by omega) (by exact hI2) (by have hE8 : cBestI p2 p3 q 9 0 fw sa w = (fw2, sa2, w2) := (by rw [hT2, cBestI, if_neg (by omega)]); rw [hT, cBestO, if_pos (by omega), hE8]) hG hS (lv_sub hl [0, 2, 3, 4, 5, 6, 7, 8] rfl)
                    · refine lv_aload_n hx hb dX11_best_78 rfl (lv_at hl 5 rfl) ?_
                      refine g_get (C := RX11) (T := TX11) (N := 14) (ci := 10) hx hb hts (fun _ h => (List.mem_cons_of_mem _ (List.mem_append_left _ (List.mem_append_left _ (List.mem_append_left _ (List.mem_append_left _ (List.mem_append_left _ (List.mem_append_left _ (List.mem_append_right _ h))))))))) hown hC.1 hG 0 (by decide) rfl rfl 6 (by decide) (hts (.fieldLink RX11 39 "StraitSwim" "trial" "LStraitSwim$Swim;") (List.mem_cons_of_mem _ (List.mem_append_left _ (List.mem_append_left _ (List.mem_append_left _ (List.mem_append_left _ (List.mem_append_left _ (List.mem_append_left _ (List.mem_append_left _ (List.mem_append_left _ (List.mem_of_getElem? (i := 1) rfl))))))))))) (fun _ h9 => h9) rfl dX11_best_79 ?_
                      refine lv_aload_n hx hb dX11_best_82 rfl (lv_at hl 5 rfl) ?_
                      refine g_get (C := RX11) (T := TX11) (N := 14) (ci := 10) hx hb hts (fun _ h => (List.mem_cons_of_mem _ (List.mem_append_left _ (List.mem_append_left _ (List.mem_append_left _ (List.mem_append_left _ (List.mem_append_left _ (List.mem_append_left _ (List.mem_append_right _ h))))))))) hown hC.1 hG 0 (by decide) rfl rfl 0 (by decide) (hts (.fieldLink RX11 10 "StraitSwim" "strait" "LStraitSwim$Strait;") (List.mem_cons_of_mem _ (List.mem_append_left _ (List.mem_append_left _ (List.mem_append_left _ (List.mem_append_left _ (List.mem_append_left _ (List.mem_append_left _ (List.mem_append_left _ (List.mem_append_left _ (List.mem_of_getElem? (i := 0) rfl))))))))))) (fun _ h9 => h9) rfl dX11_best_83 ?_
                      refine lv_iload_n hx hb dX11_best_86 rfl (lv_at hl 7 rfl) ?_
                      refine lv_iload_n hx hb dX11_best_87 rfl (lv_at hl 8 rfl) ?_
                      refine lv_iload hx hb dX11_best_88 (lv_at hl 1 rfl) ?_
                      refine lv_iload hx hb dX11_best_90 (lv_at hl 0 rfl) ?_
                      refine g_calli (va_runV (As := [.ref (ad 1), .int (zI p2), .int (zI p3), .int (zI q), .int (zI b)]) (rest := []) ⟨hx, hb, hml, hown, hts⟩ (kX9_cross_3 l D cy ad jf A w2 p2 p3 q b (by omega) (by omega) (by omega) (by omega) i10b i11b r1_ r2_ hd2 r3_ r4_) (cwV 5 hts gX11_best_X9_cross rfl rfl rfl (by decide +kernel) ⟨by decide, by decide⟩) (g_preV (C := RX9) hG hC hS 3 (by decide) rfl rfl) rfl rfl hl.1 rfl (lv_room (Nat.le_of_ble_eq_true rfl)) dX11_best_92 ⟨Nat.le_of_ble_eq_true rfl, Nat.le_of_ble_eq_true rfl⟩) hS (fun r44 u45 H locs p_46 hG hS => ?_)
                      obtain ⟨rfl, hu45⟩ := p_46
                      obtain ⟨z47, hz47⟩ : ∃ z : Int, z = (cCross w2 17 18 19 20 11 12 13 14 p2 p3 q b).1 := ⟨_, rfl⟩
                      rw [← hz47]
                      have qc_ := cCross_res w2 p2 p3 q b hI2
                      rw [← hz47, ← hu45] at qc_
                      have hI3 : cI u45 := by rw [hu45]; exact cI_cross p2 p3 q b hI2
                      refine lv_istore (lv' := [(9, .int (zI z47)), (8, .int (zI b)), (7, .int (zI q)), (6, .int (zI sa2)), (5, .int (zI fw2)), (4, .ref a), (0, .ref (ad 0)), (1, .int (zI p1)), (2, .int (zI p2)), (3, .int (zI p3))]) hx hb dX11_best_95 hl (by decide) rfl (fun ls hl => ?_)
                      refine lv_iload hx hb dX11_best_97 (lv_at hl 0 rfl) ?_
                      refine z_if_ne (tgt := 133) hx hb dX11_best_99 (by decide) (by omega) (by omega) (fun c_48 => ?_) (fun c_48 => ?_)
                      · refine z_iinc (lv' := [(8, .int (zI (b + 1))), (9, .int (zI z47)), (7, .int (zI q)), (6, .int (zI sa2)), (5, .int (zI fw2)), (4, .ref a), (0, .ref (ad 0)), (1, .int (zI p1)), (2, .int (zI p2)), (3, .int (zI p3))]) hx hb dX11_best_133 hl (k := 1) rfl (by decide) rfl (fun ls hl => ?_)
                        refine lv_goto (tgt := 71) hx hb dX11_best_136 (by decide) ?_
                        exact ih71 (b + 1) fw2 sa2 u45 _ _ _ (by omega) (by omega) (by omega) (by exact hI3) (by rw [hT2, cBestI, if_pos (by omega)]; simp only [← hz47, ← hu45]; (repeat (first | rw [if_pos (by omega)] | rw [if_neg (by omega)]))) hG hS (lv_sub hl [0, 2, 3, 4, 5, 6, 7, 8, 9] rfl)
                      · refine lv_aload_n hx hb dX11_best_102 rfl (lv_at hl 6 rfl) ?_
                        refine g_get (C := RX11) (T := TX11) (N := 14) (ci := 10) hx hb hts (fun _ h => (List.mem_cons_of_mem _ (List.mem_append_left _ (List.mem_append_left _ (List.mem_append_left _ (List.mem_append_left _ (List.mem_append_left _ (List.mem_append_left _ (List.mem_append_right _ h))))))))) hown hC.1 hG 0 (by decide) rfl rfl 6 (by decide) (hts (.fieldLink RX11 39 "StraitSwim" "trial" "LStraitSwim$Swim;") (List.mem_cons_of_mem _ (List.mem_append_left _ (List.mem_append_left _ (List.mem_append_left _ (List.mem_append_left _ (List.mem_append_left _ (List.mem_append_left _ (List.mem_append_left _ (List.mem_append_left _ (List.mem_of_getElem? (i := 1) rfl))))))))))) (fun _ h9 => h9) rfl dX11_best_103 ?_
                        refine g_get (C := RX9) (T := TX9) (N := 9) (ci := 8) hx hb hts (fun _ h => (List.mem_cons_of_mem _ (List.mem_append_left _ (List.mem_append_left _ (List.mem_append_left _ (List.mem_append_left _ (List.mem_append_left _ (List.mem_append_right _ h)))))))) hown hC.1 hG 3 (by decide) rfl rfl 1 (by decide) (hts (.fieldLink RX11 148 "StraitSwim$Swim" "quarters" "I") (List.mem_cons_of_mem _ (List.mem_append_left _ (List.mem_append_left _ (List.mem_append_left _ (List.mem_append_left _ (List.mem_append_left _ (List.mem_append_left _ (List.mem_append_left _ (List.mem_append_left _ (List.mem_of_getElem? (i := 3) rfl))))))))))) (fun _ h9 => h9) rfl dX11_best_106 ?_
                        refine lv_iload hx hb dX11_best_109 (lv_at hl 4 rfl) ?_
                        refine z_icmp_ge (tgt := 133) hx hb dX11_best_111 (by decide) (by omega) (by omega) (by omega) (by omega) (fun c_49 => ?_) (fun c_49 => ?_)
                        · refine z_iinc (lv' := [(8, .int (zI (b + 1))), (9, .int (zI z47)), (7, .int (zI q)), (6, .int (zI sa2)), (5, .int (zI fw2)), (4, .ref a), (0, .ref (ad 0)), (1, .int (zI p1)), (2, .int (zI p2)), (3, .int (zI p3))]) hx hb dX11_best_133 hl (k := 1) rfl (by decide) rfl (fun ls hl => ?_)
                          refine lv_goto (tgt := 71) hx hb dX11_best_136 (by decide) ?_
                          exact ih71 (b + 1) fw2 sa2 u45 _ _ _ (by omega) (by omega) (by omega) (by exact hI3) (by rw [hT2, cBestI, if_pos (by omega)]; simp only [← hz47, ← hu45]; (repeat (first | rw [if_pos (by omega)] | rw [if_neg (by omega)]))) hG hS (lv_sub hl [0, 2, 3, 4, 5, 6, 7, 8, 9] rfl)
                        · refine lv_aload_n hx hb dX11_best_114 rfl (lv_at hl 6 rfl) ?_
                          refine g_get (C := RX11) (T := TX11) (N := 14) (ci := 10) hx hb hts (fun _ h => (List.mem_cons_of_mem _ (List.mem_append_left _ (List.mem_append_left _ (List.mem_append_left _ (List.mem_append_left _ (List.mem_append_left _ (List.mem_append_left _ (List.mem_append_right _ h))))))))) hown hC.1 hG 0 (by decide) rfl rfl 6 (by decide) (hts (.fieldLink RX11 39 "StraitSwim" "trial" "LStraitSwim$Swim;") (List.mem_cons_of_mem _ (List.mem_append_left _ (List.mem_append_left _ (List.mem_append_left _ (List.mem_append_left _ (List.mem_append_left _ (List.mem_append_left _ (List.mem_append_left _ (List.mem_append_left _ (List.mem_of_getElem? (i := 1) rfl))))))))))) (fun _ h9 => h9) rfl dX11_best_115 ?_
                          refine g_get (C := RX9) (T := TX9) (N := 9) (ci := 8) hx hb hts (fun _ h => (List.mem_cons_of_mem _ (List.mem_append_left _ (List.mem_append_left _ (List.mem_append_left _ (List.mem_append_left _ (List.mem_append_left _ (List.mem_append_right _ h)))))))) hown hC.1 hG 3 (by decide) rfl rfl 1 (by decide) (hts (.fieldLink RX11 148 "StraitSwim$Swim" "quarters" "I") (List.mem_cons_of_mem _ (List.mem_append_left _ (List.mem_append_left _ (List.mem_append_left _ (List.mem_append_left _ (List.mem_append_left _ (List.mem_append_left _ (List.mem_append_left _ (List.mem_append_left _ (List.mem_of_getElem? (i := 3) rfl))))))))))) (fun _ h9 => h9) rfl dX11_best_118 ?_
                          refine lv_istore (lv' := [(5, .int (zI (u45.1 11))), (9, .int (zI z47)), (8, .int (zI b)), (7, .int (zI q)), (6, .int (zI sa2)), (4, .ref a), (0, .ref (ad 0)), (1, .int (zI p1)), (2, .int (zI p2)), (3, .int (zI p3))]) hx hb dX11_best_121 hl (by decide) rfl (fun ls hl => ?_)
                          refine z_bipush hx hb dX11_best_123 (by decide) ?_
                          refine lv_iload hx hb dX11_best_125 (lv_at hl 3 rfl) ?_
                          refine z_imul hx hb dX11_best_127 ?_
                          refine lv_iload hx hb dX11_best_128 (lv_at hl 2 rfl) ?_
                          refine z_iadd hx hb dX11_best_130 ?_
                          refine lv_istore (lv' := [(6, .int (zI ((10 * q) + b))), (5, .int (zI (u45.1 11))), (9, .int (zI z47)), (8, .int (zI b)), (7, .int (zI q)), (4, .ref a), (0, .ref (ad 0)), (1, .int (zI p1)), (2, .int (zI p2)), (3, .int (zI p3))]) hx hb dX11_best_131 hl (by decide) rfl (fun ls hl => ?_)
                          refine z_iinc (lv' := [(8, .int (zI (b + 1))), (6, .int (zI ((10 * q) + b))), (5, .int (zI (u45.1 11))), (9, .int (zI z47)), (7, .int (zI q)), (4, .ref a), (0, .ref (ad 0)), (1, .int (zI p1)), (2, .int (zI p2)), (3, .int (zI p3))]) hx hb dX11_best_133 hl (k := 3) rfl (by decide) rfl (fun ls hl => ?_)
                          refine lv_goto (tgt := 71) hx hb dX11_best_136 (by decide) ?_
                          exact ih71 (b + 1) (u45.1 11) ((10 * q) + b) u45 _ _ _ (by omega) (by omega) (by omega) (by exact hI3) (by rw [hT2, cBestI, if_pos (by omega)]; simp only [← hz47, ← hu45]; (repeat (first | rw [if_pos (by omega)] | rw [if_neg (by omega)]))) hG hS (lv_sub hl [0, 4, 1, 2, 5, 6, 7, 8, 9] rfl)
                exact loop71 9 0 fw sa w _ _ _ (by omega) (by omega) (by omega) (by exact hI) (by rfl) hG hS (lv_sub hl [0, 1, 2, 3, 4, 5, 6, 7, 8] rfl)
          exact loop61 49 0 101 ((-4)) u40 _ _ _ (by omega) (by omega) (by omega) (by exact hI) (by rfl) hG hS (lv_sub hl [0, 1, 2, 3, 4, 5, 6, 7] rfl)
        · refine z_bipush hx hb dX11_best_34 (by decide) ?_
          exact W.iret (v := zI ((-4))) hx hb hr (fun t9 ht9_ hW => ⟨⟨zI ((-4)), u, rfl, (by unfold cBest; (first | (rw [if_neg (by omega)]; exact ⟨rfl, rfl⟩) | (rw [if_pos (by omega), if_neg (by omega)]; exact ⟨rfl, rfl⟩))), gB.mk' hG hC hS ht9_ hW⟩, hS.F ht9_⟩) hS.2.2 dX11_best_36
      · refine z_iconst hx hb dX11_best_20 ?_
        exact W.iret (v := zI ((-1))) hx hb hr (fun t9 ht9_ hW => ⟨⟨zI ((-1)), u, rfl, (by unfold cBest; (first | (rw [if_neg (by omega)]; exact ⟨rfl, rfl⟩) | (rw [if_pos (by omega), if_neg (by omega)]; exact ⟨rfl, rfl⟩))), gB.mk' hG hC hS ht9_ hW⟩, hS.F ht9_⟩) hS.2.2 dX11_best_21
    · have hE : u.2.2.2.2 a = .inr (3, [.int (zI (p1.toNat : Int)), .int (zI (S9 p1.toNat)), .int (zI (L9 p1.toNat)), .int (zI (F9 p1.toNat))]) := by rw [hE0, hk0]; rfl
      simp only [va_rf]
      refine lv_astore (lv' := [(4, .ref a), (0, .ref (ad 0)), (1, .int (zI p1)), (2, .int (zI p2)), (3, .int (zI p3))]) hx hb dX11_best_5 hl (by decide) rfl (fun ls hl => ?_)
      refine lv_aload hx hb dX11_best_7 (lv_at hl 0 rfl) ?_
      refine lv_ifnull hx hb dX11_best_9 ?_
      refine lv_iload_n hx hb dX11_best_12 rfl (lv_at hl 3 rfl) ?_
      refine lv_iload_n hx hb dX11_best_13 rfl (lv_at hl 4 rfl) ?_
      refine g_calli (va_runS (As := [.int (zI p2), .int (zI p3)]) (rest := []) ⟨hx, hb, hml, hown, hts⟩ (kX11_isPlace l D cy ad jf A u p2 p3 (by omega) (by omega)) (va_cwS 2 hts gX11_best_X11_isPlace rfl rfl rfl (by decide +kernel) ⟨by decide, by decide⟩) (g_preS hG hC hS) rfl rfl hl.1 rfl (lv_room (Nat.le_of_ble_eq_true rfl)) dX11_best_14 ⟨Nat.le_of_ble_eq_true rfl, Nat.le_of_ble_eq_true rfl⟩) hS (fun r50 u51 H locs p_52 hG hS => ?_)
      obtain ⟨⟨b53, rfl, q_54⟩, he_⟩ := p_52
      rw [he_] at hG; clear he_
      have hbb53 : 0 ≤ b53 ∧ b53 ≤ 1 := by rcases q_54 with ⟨h, _⟩ | ⟨h, _⟩ <;> omega
      refine z_if_ne (tgt := 22) hx hb dX11_best_17 (by decide) (by omega) (by omega) (fun c_55 => ?_) (fun c_55 => ?_)
      · refine lv_aload_n hx hb dX11_best_22 rfl (lv_at hl 1 rfl) ?_
        refine g_get (C := RX11) (T := TX11) (N := 14) (ci := 10) hx hb hts (fun _ h => (List.mem_cons_of_mem _ (List.mem_append_left _ (List.mem_append_left _ (List.mem_append_left _ (List.mem_append_left _ (List.mem_append_left _ (List.mem_append_left _ (List.mem_append_right _ h))))))))) hown hC.1 hG 0 (by decide) rfl rfl 0 (by decide) (hts (.fieldLink RX11 10 "StraitSwim" "strait" "LStraitSwim$Strait;") (List.mem_cons_of_mem _ (List.mem_append_left _ (List.mem_append_left _ (List.mem_append_left _ (List.mem_append_left _ (List.mem_append_left _ (List.mem_append_left _ (List.mem_append_left _ (List.mem_append_left _ (List.mem_of_getElem? (i := 0) rfl))))))))))) (fun _ h9 => h9) rfl dX11_best_23 ?_
        refine lv_iload_n hx hb dX11_best_26 rfl (lv_at hl 3 rfl) ?_
        refine lv_iload_n hx hb dX11_best_27 rfl (lv_at hl 4 rfl) ?_
        refine g_calli (va_runV (As := [.int (zI p2), .int (zI p3)]) (rest := []) ⟨hx, hb, hml, hown, hts⟩ (kX8_isDry l D cy ad jf A u p2 p3 (by omega) (by omega) hd) (cwV 2 hts gX11_best_X8_isDry rfl rfl rfl (by decide +kernel) ⟨by decide, by decide⟩) (g_preV (C := RX8) hG hC hS 1 (by decide) rfl rfl) rfl rfl hl.1 rfl (lv_room (Nat.le_of_ble_eq_true rfl)) dX11_best_28 ⟨Nat.le_of_ble_eq_true rfl, Nat.le_of_ble_eq_true rfl⟩) hS (fun r56 u57 H locs p_58 hG hS => ?_)
        obtain ⟨rfl, he_⟩ := p_58
        rw [he_] at hG; clear he_
        obtain ⟨z60, hz60⟩ : ∃ z : Int, z = spDry (u.2.1 9) p2 p3 := ⟨_, rfl⟩
        rw [← hz60]
        have q_59 : z60 = 0 ∨ z60 = 1 := by rw [hz60]; exact hd _ (by omega)
        refine z_if_eq (tgt := 37) hx hb dX11_best_31 (by decide) (by omega) (by omega) (fun c_61 => ?_) (fun c_61 => ?_)
        · refine lv_aload_n hx hb dX11_best_37 rfl (lv_at hl 1 rfl) ?_
          refine g_get (C := RX11) (T := TX11) (N := 14) (ci := 10) hx hb hts (fun _ h => (List.mem_cons_of_mem _ (List.mem_append_left _ (List.mem_append_left _ (List.mem_append_left _ (List.mem_append_left _ (List.mem_append_left _ (List.mem_append_left _ (List.mem_append_right _ h))))))))) hown hC.1 hG 0 (by decide) rfl rfl 6 (by decide) (hts (.fieldLink RX11 39 "StraitSwim" "trial" "LStraitSwim$Swim;") (List.mem_cons_of_mem _ (List.mem_append_left _ (List.mem_append_left _ (List.mem_append_left _ (List.mem_append_left _ (List.mem_append_left _ (List.mem_append_left _ (List.mem_append_left _ (List.mem_append_left _ (List.mem_of_getElem? (i := 1) rfl))))))))))) (fun _ h9 => h9) rfl dX11_best_38 ?_
          refine lv_aload hx hb dX11_best_41 (lv_at hl 0 rfl) ?_
          refine lv_aload_n hx hb dX11_best_43 rfl (lv_at hl 1 rfl) ?_
          refine g_get (C := RX11) (T := TX11) (N := 14) (ci := 10) hx hb hts (fun _ h => (List.mem_cons_of_mem _ (List.mem_append_left _ (List.mem_append_left _ (List.mem_append_left _ (List.mem_append_left _ (List.mem_append_left _ (List.mem_append_left _ (List.mem_append_right _ h))))))))) hown hC.1 hG 0 (by decide) rfl rfl 3 (by decide) (hts (.fieldLink RX11 26 "StraitSwim" "chill" "I") (List.mem_cons_of_mem _ (List.mem_append_left _ (List.mem_append_left _ (List.mem_append_left _ (List.mem_append_left _ (List.mem_append_left _ (List.mem_append_left _ (List.mem_append_left _ (List.mem_append_left _ (List.mem_of_getElem? (i := 2) rfl))))))))))) (fun _ h9 => h9) rfl dX11_best_44 ?_
          refine g_callv (va_runV (As := [.ref a, .int (zI (u.1 1))]) (rest := []) ⟨hx, hb, hml, hown, hts⟩ (kX9_ready_3_X4 l D cy ad jf A u a ((p1.toNat : Int)) (S9 p1.toNat) (L9 p1.toNat) (F9 p1.toNat) (u.1 1) ha hE (by omega) (by omega) (by omega) (by omega) hrd.2.2.2.2) (cwV 2 hts gX11_best_X9_ready rfl rfl rfl (by decide +kernel) ⟨by decide, by decide⟩) (g_preV (C := RX9) hG hC hS 3 (by decide) rfl rfl) rfl rfl hl.1 rfl (lv_room (Nat.le_of_ble_eq_true rfl)) dX11_best_47 ⟨Nat.le_of_ble_eq_true rfl, Nat.le_of_ble_eq_true rfl⟩) hS (fun u63 H locs p_64 hG hS => ?_)
          obtain ⟨⟨r1_, r2_, r3_, r4_, r5_⟩, rk_, ri_, rr_⟩ := cReady_inv (u := u) (sd := 19) (cl := 20) (nu := 10) (rc := 13) (tc := 14) (by decide) (by decide) (K := 2) (nm := (p1.toNat : Int)) (sp := S9 p1.toNat) (li := L9 p1.toNat) (fd := F9 p1.toNat) (ch := u.1 1) (by omega) (by omega) (by omega) hrd
          rw [← p_64] at r1_ r2_ r3_ r4_ r5_ rk_ ri_ rr_
          have hd2 : ∀ j, j < 288 → u63.2.1 9 j = 0 ∨ u63.2.1 9 j = 1 := by rw [rk_ 9 (by decide)]; exact hd
          have i10b : ∀ j, j < 36 → -9 ≤ u63.2.1 10 j ∧ u63.2.1 10 j ≤ 9 := by rw [rk_ 10 (by decide)]; exact i10
          have i11b : ∀ j, j < 36 → -9 ≤ u63.2.1 11 j ∧ u63.2.1 11 j ≤ 9 := by rw [rk_ 11 (by decide)]; exact i11
          have hI : cI u63 := ⟨⟨r1_, r2_, r3_, r4_, r5_⟩, hd2, i10b, i11b⟩
          refine z_bipush hx hb dX11_best_50 (by decide) ?_
          refine lv_istore (lv' := [(5, .int (zI 101)), (4, .ref a), (0, .ref (ad 0)), (1, .int (zI p1)), (2, .int (zI p2)), (3, .int (zI p3))]) hx hb dX11_best_52 hl (by decide) rfl (fun ls hl => ?_)
          refine z_bipush hx hb dX11_best_54 (by decide) ?_
          refine lv_istore (lv' := [(6, .int (zI ((-4)))), (5, .int (zI 101)), (4, .ref a), (0, .ref (ad 0)), (1, .int (zI p1)), (2, .int (zI p2)), (3, .int (zI p3))]) hx hb dX11_best_56 hl (by decide) rfl (fun ls hl => ?_)
          refine z_iconst hx hb dX11_best_58 ?_
          refine lv_istore (lv' := [(7, .int (zI 0)), (6, .int (zI ((-4)))), (5, .int (zI 101)), (4, .ref a), (0, .ref (ad 0)), (1, .int (zI p1)), (2, .int (zI p2)), (3, .int (zI p3))]) hx hb dX11_best_59 hl (by decide) rfl (fun ls hl => ?_)
          have loop61 : ∀ (n : Nat) (q fw sa : Int) (w : gS) (H : Heap) (locs : List Loc) (ls : Array Slot), (48 - q).toNat < n → (0 ≤ q ∧ q ≤ 48) → (0 ≤ fw ∧ fw ≤ 101) → (cI w) → (cBestO p2 p3 49 0 101 (-4) u63 = cBestO p2 p3 n q fw sa w) → gH D cy ad jf A w H → va_S A s.heap H locs → lv_has ls 10 [(7, .int (zI q)), (6, .int (zI sa)), (5, .int (zI fw)), (4, .ref a), (0, .ref (ad 0)), (1, .int (zI p1)), (2, .int (zI p2)), (3, .int (zI p3))] → W p l e (headSpec wsX11_best ({ frames := 5, cells := 0, slots := 0, locals := 120 })).room s m ([.ref (ad 0), .int (zI p1), .int (zI p2), .int (zI p3)]).toArray below meth c H locs 0 0 (MQ below (va_Qi (fun (r : Int32) (v : gS) => r = zI (cBest u K S9 L9 F9 p1 p2 p3).1 ∧ v = (cBest u K S9 L9 F9 p1 p2 p3).2) (gB D cy ad jf A) A) ([.ref (ad 0), .int (zI p1), .int (zI p2), .int (zI p3)]).toArray s 0 0 A) (F0 m 61 ls []) := by
            intro n
            induction n with
            | zero => intro q fw sa w H locs ls hm; exact absurd hm (Nat.not_lt_zero _)
            | succ n ih61 =>
              intro q fw sa w H locs ls hm hq9 hf9 hI hT hG hS hl
              refine lv_iload hx hb dX11_best_61 (lv_at hl 0 rfl) ?_
              refine z_bipush hx hb dX11_best_63 (by decide) ?_
              refine z_icmp_ge (tgt := 145) hx hb dX11_best_65 (by decide) (by omega) (by omega) (by omega) (by omega) (fun c_65 => ?_) (fun c_65 => ?_)
              · refine lv_iload hx hb dX11_best_145 (lv_at hl 1 rfl) ?_
                exact W.iret (v := zI sa) hx hb hr (fun t9 ht9_ hW => ⟨⟨zI sa, w, rfl, (by unfold cBest; rw [if_pos (by omega), if_pos (by omega)]; unfold cRdT; rw [hk0, ← p_64, hT, cBestO, if_neg (by omega)]; exact ⟨rfl, rfl⟩), gB.mk' hG hC hS ht9_ hW⟩, hS.F ht9_⟩) hS.2.2 dX11_best_147
              · refine z_iconst hx hb dX11_best_68 ?_
                refine lv_istore (lv' := [(8, .int (zI 0)), (7, .int (zI q)), (6, .int (zI sa)), (5, .int (zI fw)), (4, .ref a), (0, .ref (ad 0)), (1, .int (zI p1)), (2, .int (zI p2)), (3, .int (zI p3))]) hx hb dX11_best_69 hl (by decide) rfl (fun ls hl => ?_)
                have loop71 : ∀ (n : Nat) (b fw2 sa2 : Int) (w2 : gS) (H : Heap) (locs : List Loc) (ls : Array Slot), (8 - b).toNat < n → (0 ≤ b ∧ b ≤ 8) → (0 ≤ fw2 ∧ fw2 ≤ 101) → (cI w2) → (cBestI p2 p3 q 9 0 fw sa w = cBestI p2 p3 q n b fw2 sa2 w2) → gH D cy ad jf A w2 H → va_S A s.heap H locs → lv_has ls 10 [(8, .int (zI b)), (7, .int (zI q)), (6, .int (zI sa2)), (5, .int (zI fw2)), (4, .ref a), (0, .ref (ad 0)), (1, .int (zI p1)), (2, .int (zI p2)), (3, .int (zI p3))] → W p l e (headSpec wsX11_best ({ frames := 5, cells := 0, slots := 0, locals := 120 })).room s m ([.ref (ad 0), .int (zI p1), .int (zI p2), .int (zI p3)]).toArray below meth c H locs 0 0 (MQ below (va_Qi (fun (r : Int32) (v : gS) => r = zI (cBest u K S9 L9 F9 p1 p2 p3).1 ∧ v = (cBest u K S9 L9 F9 p1 p2 p3).2) (gB D cy ad jf A) A) ([.ref (ad 0), .int (zI p1), .int (zI p2), .int (zI p3)]).toArray s 0 0 A) (F0 m 71 ls []) := by
                  intro n
                  induction n with
                  | zero => intro b fw2 sa2 w2 H locs ls hm; exact absurd hm (Nat.not_lt_zero _)
                  | succ n ih71 =>
                    intro b fw2 sa2 w2 H locs ls hm hb9 hf2 hI2 hT2 hG hS hl
                    obtain ⟨⟨r1_, r2_, r3_, r4_, r5_⟩, hd2, i10b, i11b⟩ := id hI2
                    refine lv_iload hx hb dX11_best_71 (lv_at hl 0 rfl) ?_
                    refine z_bipush hx hb dX11_best_73 (by decide) ?_
                    refine z_icmp_ge (tgt := 139) hx hb dX11_best_75 (by decide) (by omega) (by omega) (by omega) (by omega) (fun c_66 => ?_) (fun c_66 => ?_)
                    · refine z_iinc (lv' := [(7, .int (zI (q + 1))), (8, .int (zI b)), (6, .int (zI sa2)), (5, .int (zI fw2)), (4, .ref a), (0, .ref (ad 0)), (1, .int (zI p1)), (2, .int (zI p2)), (3, .int (zI p3))]) hx hb dX11_best_139 hl (k := 1) rfl (by decide) rfl (fun ls hl => ?_)
                      refine lv_goto (tgt := 61) hx hb dX11_best_142 (by decide) ?_
                      exact ih61 (q + 1) fw2 sa2 w2 _ _ _ (by omega) (by omega) (by omega) (by exact hI2) (by have hE8 : cBestI p2 p3 q 9 0 fw sa w = (fw2, sa2, w2) := (by rw [hT2, cBestI, if_neg (by omega)]); rw [hT, cBestO, if_pos (by omega), hE8]) hG hS (lv_sub hl [0, 2, 3, 4, 5, 6, 7, 8] rfl)
                    · refine lv_aload_n hx hb dX11_best_78 rfl (lv_at hl 5 rfl) ?_
                      refine g_get (C := RX11) (T := TX11) (N := 14) (ci := 10) hx hb hts (fun _ h => (List.mem_cons_of_mem _ (List.mem_append_left _ (List.mem_append_left _ (List.mem_append_left _ (List.mem_append_left _ (List.mem_append_left _ (List.mem_append_left _ (List.mem_append_right _ h))))))))) hown hC.1 hG 0 (by decide) rfl rfl 6 (by decide) (hts (.fieldLink RX11 39 "StraitSwim" "trial" "LStraitSwim$Swim;") (List.mem_cons_of_mem _ (List.mem_append_left _ (List.mem_append_left _ (List.mem_append_left _ (List.mem_append_left _ (List.mem_append_left _ (List.mem_append_left _ (List.mem_append_left _ (List.mem_append_left _ (List.mem_of_getElem? (i := 1) rfl))))))))))) (fun _ h9 => h9) rfl dX11_best_79 ?_
                      refine lv_aload_n hx hb dX11_best_82 rfl (lv_at hl 5 rfl) ?_
                      refine g_get (C := RX11) (T := TX11) (N := 14) (ci := 10) hx hb hts (fun _ h => (List.mem_cons_of_mem _ (List.mem_append_left _ (List.mem_append_left _ (List.mem_append_left _ (List.mem_append_left _ (List.mem_append_left _ (List.mem_append_left _ (List.mem_append_right _ h))))))))) hown hC.1 hG 0 (by decide) rfl rfl 0 (by decide) (hts (.fieldLink RX11 10 "StraitSwim" "strait" "LStraitSwim$Strait;") (List.mem_cons_of_mem _ (List.mem_append_left _ (List.mem_append_left _ (List.mem_append_left _ (List.mem_append_left _ (List.mem_append_left _ (List.mem_append_left _ (List.mem_append_left _ (List.mem_append_left _ (List.mem_of_getElem? (i := 0) rfl))))))))))) (fun _ h9 => h9) rfl dX11_best_83 ?_
                      refine lv_iload_n hx hb dX11_best_86 rfl (lv_at hl 7 rfl) ?_
                      refine lv_iload_n hx hb dX11_best_87 rfl (lv_at hl 8 rfl) ?_
                      refine lv_iload hx hb dX11_best_88 (lv_at hl 1 rfl) ?_
                      refine lv_iload hx hb dX11_best_90 (lv_at hl 0 rfl) ?_
                      refine g_calli (va_runV (As := [.ref (ad 1), .int (zI p2), .int (zI p3), .int (zI q), .int (zI b)]) (rest := []) ⟨hx, hb, hml, hown, hts⟩ (kX9_cross_3 l D cy ad jf A w2 p2 p3 q b (by omega) (by omega) (by omega) (by omega) i10b i11b r1_ r2_ hd2 r3_ r4_) (cwV 5 hts gX11_best_X9_cross rfl rfl rfl (by decide +kernel) ⟨by decide, by decide⟩) (g_preV (C := RX9) hG hC hS 3 (by decide) rfl rfl) rfl rfl hl.1 rfl (lv_room (Nat.le_of_ble_eq_true rfl)) dX11_best_92 ⟨Nat.le_of_ble_eq_true rfl, Nat.le_of_ble_eq_true rfl⟩) hS (fun r67 u68 H locs p_69 hG hS => ?_)
                      obtain ⟨rfl, hu68⟩ := p_69
                      obtain ⟨z70, hz70⟩ : ∃ z : Int, z = (cCross w2 17 18 19 20 11 12 13 14 p2 p3 q b).1 := ⟨_, rfl⟩
                      rw [← hz70]
                      have qc_ := cCross_res w2 p2 p3 q b hI2
                      rw [← hz70, ← hu68] at qc_
                      have hI3 : cI u68 := by rw [hu68]; exact cI_cross p2 p3 q b hI2
                      refine lv_istore (lv' := [(9, .int (zI z70)), (8, .int (zI b)), (7, .int (zI q)), (6, .int (zI sa2)), (5, .int (zI fw2)), (4, .ref a), (0, .ref (ad 0)), (1, .int (zI p1)), (2, .int (zI p2)), (3, .int (zI p3))]) hx hb dX11_best_95 hl (by decide) rfl (fun ls hl => ?_)
                      refine lv_iload hx hb dX11_best_97 (lv_at hl 0 rfl) ?_
                      refine z_if_ne (tgt := 133) hx hb dX11_best_99 (by decide) (by omega) (by omega) (fun c_71 => ?_) (fun c_71 => ?_)
                      · refine z_iinc (lv' := [(8, .int (zI (b + 1))), (9, .int (zI z70)), (7, .int (zI q)), (6, .int (zI sa2)), (5, .int (zI fw2)), (4, .ref a), (0, .ref (ad 0)), (1, .int (zI p1)), (2, .int (zI p2)), (3, .int (zI p3))]) hx hb dX11_best_133 hl (k := 1) rfl (by decide) rfl (fun ls hl => ?_)
                        refine lv_goto (tgt := 71) hx hb dX11_best_136 (by decide) ?_
                        exact ih71 (b + 1) fw2 sa2 u68 _ _ _ (by omega) (by omega) (by omega) (by exact hI3) (by rw [hT2, cBestI, if_pos (by omega)]; simp only [← hz70, ← hu68]; (repeat (first | rw [if_pos (by omega)] | rw [if_neg (by omega)]))) hG hS (lv_sub hl [0, 2, 3, 4, 5, 6, 7, 8, 9] rfl)
                      · refine lv_aload_n hx hb dX11_best_102 rfl (lv_at hl 6 rfl) ?_
                        refine g_get (C := RX11) (T := TX11) (N := 14) (ci := 10) hx hb hts (fun _ h => (List.mem_cons_of_mem _ (List.mem_append_left _ (List.mem_append_left _ (List.mem_append_left _ (List.mem_append_left _ (List.mem_append_left _ (List.mem_append_left _ (List.mem_append_right _ h))))))))) hown hC.1 hG 0 (by decide) rfl rfl 6 (by decide) (hts (.fieldLink RX11 39 "StraitSwim" "trial" "LStraitSwim$Swim;") (List.mem_cons_of_mem _ (List.mem_append_left _ (List.mem_append_left _ (List.mem_append_left _ (List.mem_append_left _ (List.mem_append_left _ (List.mem_append_left _ (List.mem_append_left _ (List.mem_append_left _ (List.mem_of_getElem? (i := 1) rfl))))))))))) (fun _ h9 => h9) rfl dX11_best_103 ?_
                        refine g_get (C := RX9) (T := TX9) (N := 9) (ci := 8) hx hb hts (fun _ h => (List.mem_cons_of_mem _ (List.mem_append_left _ (List.mem_append_left _ (List.mem_append_left _ (List.mem_append_left _ (List.mem_append_left _ (List.mem_append_right _ h)))))))) hown hC.1 hG 3 (by decide) rfl rfl 1 (by decide) (hts (.fieldLink RX11 148 "StraitSwim$Swim" "quarters" "I") (List.mem_cons_of_mem _ (List.mem_append_left _ (List.mem_append_left _ (List.mem_append_left _ (List.mem_append_left _ (List.mem_append_left _ (List.mem_append_left _ (List.mem_append_left _ (List.mem_append_left _ (List.mem_of_getElem? (i := 3) rfl))))))))))) (fun _ h9 => h9) rfl dX11_best_106 ?_
                        refine lv_iload hx hb dX11_best_109 (lv_at hl 4 rfl) ?_
                        refine z_icmp_ge (tgt := 133) hx hb dX11_best_111 (by decide) (by omega) (by omega) (by omega) (by omega) (fun c_72 => ?_) (fun c_72 => ?_)
                        · refine z_iinc (lv' := [(8, .int (zI (b + 1))), (9, .int (zI z70)), (7, .int (zI q)), (6, .int (zI sa2)), (5, .int (zI fw2)), (4, .ref a), (0, .ref (ad 0)), (1, .int (zI p1)), (2, .int (zI p2)), (3, .int (zI p3))]) hx hb dX11_best_133 hl (k := 1) rfl (by decide) rfl (fun ls hl => ?_)
                          refine lv_goto (tgt := 71) hx hb dX11_best_136 (by decide) ?_
                          exact ih71 (b + 1) fw2 sa2 u68 _ _ _ (by omega) (by omega) (by omega) (by exact hI3) (by rw [hT2, cBestI, if_pos (by omega)]; simp only [← hz70, ← hu68]; (repeat (first | rw [if_pos (by omega)] | rw [if_neg (by omega)]))) hG hS (lv_sub hl [0, 2, 3, 4, 5, 6, 7, 8, 9] rfl)
                        · refine lv_aload_n hx hb dX11_best_114 rfl (lv_at hl 6 rfl) ?_
                          refine g_get (C := RX11) (T := TX11) (N := 14) (ci := 10) hx hb hts (fun _ h => (List.mem_cons_of_mem _ (List.mem_append_left _ (List.mem_append_left _ (List.mem_append_left _ (List.mem_append_left _ (List.mem_append_left _ (List.mem_append_left _ (List.mem_append_right _ h))))))))) hown hC.1 hG 0 (by decide) rfl rfl 6 (by decide) (hts (.fieldLink RX11 39 "StraitSwim" "trial" "LStraitSwim$Swim;") (List.mem_cons_of_mem _ (List.mem_append_left _ (List.mem_append_left _ (List.mem_append_left _ (List.mem_append_left _ (List.mem_append_left _ (List.mem_append_left _ (List.mem_append_left _ (List.mem_append_left _ (List.mem_of_getElem? (i := 1) rfl))))))))))) (fun _ h9 => h9) rfl dX11_best_115 ?_
                          refine g_get (C := RX9) (T := TX9) (N := 9) (ci := 8) hx hb hts (fun _ h => (List.mem_cons_of_mem _ (List.mem_append_left _ (List.mem_append_left _ (List.mem_append_left _ (List.mem_append_left _ (List.mem_append_left _ (List.mem_append_right _ h)))))))) hown hC.1 hG 3 (by decide) rfl rfl 1 (by decide) (hts (.fieldLink RX11 148 "StraitSwim$Swim" "quarters" "I") (List.mem_cons_of_mem _ (List.mem_append_left _ (List.mem_append_left _ (List.mem_append_left _ (List.mem_append_left _ (List.mem_append_left _ (List.mem_append_left _ (List.mem_append_left _ (List.mem_append_left _ (List.mem_of_getElem? (i := 3) rfl))))))))))) (fun _ h9 => h9) rfl dX11_best_118 ?_
                          refine lv_istore (lv' := [(5, .int (zI (u68.1 11))), (9, .int (zI z70)), (8, .int (zI b)), (7, .int (zI q)), (6, .int (zI sa2)), (4, .ref a), (0, .ref (ad 0)), (1, .int (zI p1)), (2, .int (zI p2)), (3, .int (zI p3))]) hx hb dX11_best_121 hl (by decide) rfl (fun ls hl => ?_)
                          refine z_bipush hx hb dX11_best_123 (by decide) ?_
                          refine lv_iload hx hb dX11_best_125 (lv_at hl 3 rfl) ?_
                          refine z_imul hx hb dX11_best_127 ?_
                          refine lv_iload hx hb dX11_best_128 (lv_at hl 2 rfl) ?_
                          refine z_iadd hx hb dX11_best_130 ?_
                          refine lv_istore (lv' := [(6, .int (zI ((10 * q) + b))), (5, .int (zI (u68.1 11))), (9, .int (zI z70)), (8, .int (zI b)), (7, .int (zI q)), (4, .ref a), (0, .ref (ad 0)), (1, .int (zI p1)), (2, .int (zI p2)), (3, .int (zI p3))]) hx hb dX11_best_131 hl (by decide) rfl (fun ls hl => ?_)
                          refine z_iinc (lv' := [(8, .int (zI (b + 1))), (6, .int (zI ((10 * q) + b))), (5, .int (zI (u68.1 11))), (9, .int (zI z70)), (7, .int (zI q)), (4, .ref a), (0, .ref (ad 0)), (1, .int (zI p1)), (2, .int (zI p2)), (3, .int (zI p3))]) hx hb dX11_best_133 hl (k := 3) rfl (by decide) rfl (fun ls hl => ?_)
                          refine lv_goto (tgt := 71) hx hb dX11_best_136 (by decide) ?_
                          exact ih71 (b + 1) (u68.1 11) ((10 * q) + b) u68 _ _ _ (by omega) (by omega) (by omega) (by exact hI3) (by rw [hT2, cBestI, if_pos (by omega)]; simp only [← hz70, ← hu68]; (repeat (first | rw [if_pos (by omega)] | rw [if_neg (by omega)]))) hG hS (lv_sub hl [0, 4, 1, 2, 5, 6, 7, 8, 9] rfl)
                exact loop71 9 0 fw sa w _ _ _ (by omega) (by omega) (by omega) (by exact hI) (by rfl) hG hS (lv_sub hl [0, 1, 2, 3, 4, 5, 6, 7, 8] rfl)
          exact loop61 49 0 101 ((-4)) u63 _ _ _ (by omega) (by omega) (by omega) (by exact hI) (by rfl) hG hS (lv_sub hl [0, 1, 2, 3, 4, 5, 6, 7] rfl)
        · refine z_bipush hx hb dX11_best_34 (by decide) ?_
          exact W.iret (v := zI ((-4))) hx hb hr (fun t9 ht9_ hW => ⟨⟨zI ((-4)), u, rfl, (by unfold cBest; (first | (rw [if_neg (by omega)]; exact ⟨rfl, rfl⟩) | (rw [if_pos (by omega), if_neg (by omega)]; exact ⟨rfl, rfl⟩))), gB.mk' hG hC hS ht9_ hW⟩, hS.F ht9_⟩) hS.2.2 dX11_best_36
      · refine z_iconst hx hb dX11_best_20 ?_
        exact W.iret (v := zI ((-1))) hx hb hr (fun t9 ht9_ hW => ⟨⟨zI ((-1)), u, rfl, (by unfold cBest; (first | (rw [if_neg (by omega)]; exact ⟨rfl, rfl⟩) | (rw [if_pos (by omega), if_neg (by omega)]; exact ⟨rfl, rfl⟩))), gB.mk' hG hC hS ht9_ hW⟩, hS.F ht9_⟩) hS.2.2 dX11_best_21
    · have hE : u.2.2.2.2 a = .inr (5, [.int (zI (p1.toNat : Int)), .int (zI (S9 p1.toNat)), .int (zI (L9 p1.toNat)), .int (zI (F9 p1.toNat))]) := by rw [hE0, hk0]; rfl
      simp only [va_rf]
      refine lv_astore (lv' := [(4, .ref a), (0, .ref (ad 0)), (1, .int (zI p1)), (2, .int (zI p2)), (3, .int (zI p3))]) hx hb dX11_best_5 hl (by decide) rfl (fun ls hl => ?_)
      refine lv_aload hx hb dX11_best_7 (lv_at hl 0 rfl) ?_
      refine lv_ifnull hx hb dX11_best_9 ?_
      refine lv_iload_n hx hb dX11_best_12 rfl (lv_at hl 3 rfl) ?_
      refine lv_iload_n hx hb dX11_best_13 rfl (lv_at hl 4 rfl) ?_
      refine g_calli (va_runS (As := [.int (zI p2), .int (zI p3)]) (rest := []) ⟨hx, hb, hml, hown, hts⟩ (kX11_isPlace l D cy ad jf A u p2 p3 (by omega) (by omega)) (va_cwS 2 hts gX11_best_X11_isPlace rfl rfl rfl (by decide +kernel) ⟨by decide, by decide⟩) (g_preS hG hC hS) rfl rfl hl.1 rfl (lv_room (Nat.le_of_ble_eq_true rfl)) dX11_best_14 ⟨Nat.le_of_ble_eq_true rfl, Nat.le_of_ble_eq_true rfl⟩) hS (fun r73 u74 H locs p_75 hG hS => ?_)
      obtain ⟨⟨b76, rfl, q_77⟩, he_⟩ := p_75
      rw [he_] at hG; clear he_
      have hbb76 : 0 ≤ b76 ∧ b76 ≤ 1 := by rcases q_77 with ⟨h, _⟩ | ⟨h, _⟩ <;> omega
      refine z_if_ne (tgt := 22) hx hb dX11_best_17 (by decide) (by omega) (by omega) (fun c_78 => ?_) (fun c_78 => ?_)
      · refine lv_aload_n hx hb dX11_best_22 rfl (lv_at hl 1 rfl) ?_
        refine g_get (C := RX11) (T := TX11) (N := 14) (ci := 10) hx hb hts (fun _ h => (List.mem_cons_of_mem _ (List.mem_append_left _ (List.mem_append_left _ (List.mem_append_left _ (List.mem_append_left _ (List.mem_append_left _ (List.mem_append_left _ (List.mem_append_right _ h))))))))) hown hC.1 hG 0 (by decide) rfl rfl 0 (by decide) (hts (.fieldLink RX11 10 "StraitSwim" "strait" "LStraitSwim$Strait;") (List.mem_cons_of_mem _ (List.mem_append_left _ (List.mem_append_left _ (List.mem_append_left _ (List.mem_append_left _ (List.mem_append_left _ (List.mem_append_left _ (List.mem_append_left _ (List.mem_append_left _ (List.mem_of_getElem? (i := 0) rfl))))))))))) (fun _ h9 => h9) rfl dX11_best_23 ?_
        refine lv_iload_n hx hb dX11_best_26 rfl (lv_at hl 3 rfl) ?_
        refine lv_iload_n hx hb dX11_best_27 rfl (lv_at hl 4 rfl) ?_
        refine g_calli (va_runV (As := [.int (zI p2), .int (zI p3)]) (rest := []) ⟨hx, hb, hml, hown, hts⟩ (kX8_isDry l D cy ad jf A u p2 p3 (by omega) (by omega) hd) (cwV 2 hts gX11_best_X8_isDry rfl rfl rfl (by decide +kernel) ⟨by decide, by decide⟩) (g_preV (C := RX8) hG hC hS 1 (by decide) rfl rfl) rfl rfl hl.1 rfl (lv_room (Nat.le_of_ble_eq_true rfl)) dX11_best_28 ⟨Nat.le_of_ble_eq_true rfl, Nat.le_of_ble_eq_true rfl⟩) hS (fun r79 u80 H locs p_81 hG hS => ?_)
        obtain ⟨rfl, he_⟩ := p_81
        rw [he_] at hG; clear he_
        obtain ⟨z83, hz83⟩ : ∃ z : Int, z = spDry (u.2.1 9) p2 p3 := ⟨_, rfl⟩
        rw [← hz83]
        have q_82 : z83 = 0 ∨ z83 = 1 := by rw [hz83]; exact hd _ (by omega)
        refine z_if_eq (tgt := 37) hx hb dX11_best_31 (by decide) (by omega) (by omega) (fun c_84 => ?_) (fun c_84 => ?_)
        · refine lv_aload_n hx hb dX11_best_37 rfl (lv_at hl 1 rfl) ?_
          refine g_get (C := RX11) (T := TX11) (N := 14) (ci := 10) hx hb hts (fun _ h => (List.mem_cons_of_mem _ (List.mem_append_left _ (List.mem_append_left _ (List.mem_append_left _ (List.mem_append_left _ (List.mem_append_left _ (List.mem_append_left _ (List.mem_append_right _ h))))))))) hown hC.1 hG 0 (by decide) rfl rfl 6 (by decide) (hts (.fieldLink RX11 39 "StraitSwim" "trial" "LStraitSwim$Swim;") (List.mem_cons_of_mem _ (List.mem_append_left _ (List.mem_append_left _ (List.mem_append_left _ (List.mem_append_left _ (List.mem_append_left _ (List.mem_append_left _ (List.mem_append_left _ (List.mem_append_left _ (List.mem_of_getElem? (i := 1) rfl))))))))))) (fun _ h9 => h9) rfl dX11_best_38 ?_
          refine lv_aload hx hb dX11_best_41 (lv_at hl 0 rfl) ?_
          refine lv_aload_n hx hb dX11_best_43 rfl (lv_at hl 1 rfl) ?_
          refine g_get (C := RX11) (T := TX11) (N := 14) (ci := 10) hx hb hts (fun _ h => (List.mem_cons_of_mem _ (List.mem_append_left _ (List.mem_append_left _ (List.mem_append_left _ (List.mem_append_left _ (List.mem_append_left _ (List.mem_append_left _ (List.mem_append_right _ h))))))))) hown hC.1 hG 0 (by decide) rfl rfl 3 (by decide) (hts (.fieldLink RX11 26 "StraitSwim" "chill" "I") (List.mem_cons_of_mem _ (List.mem_append_left _ (List.mem_append_left _ (List.mem_append_left _ (List.mem_append_left _ (List.mem_append_left _ (List.mem_append_left _ (List.mem_append_left _ (List.mem_append_left _ (List.mem_of_getElem? (i := 2) rfl))))))))))) (fun _ h9 => h9) rfl dX11_best_44 ?_
          refine g_callv (va_runV (As := [.ref a, .int (zI (u.1 1))]) (rest := []) ⟨hx, hb, hml, hown, hts⟩ (kX9_ready_3_X6 l D cy ad jf A u a ((p1.toNat : Int)) (S9 p1.toNat) (L9 p1.toNat) (F9 p1.toNat) (u.1 1) ha hE (by omega) (by omega) (by omega) (by omega) hrd.2.2.2.2) (cwV 2 hts gX11_best_X9_ready rfl rfl rfl (by decide +kernel) ⟨by decide, by decide⟩) (g_preV (C := RX9) hG hC hS 3 (by decide) rfl rfl) rfl rfl hl.1 rfl (lv_room (Nat.le_of_ble_eq_true rfl)) dX11_best_47 ⟨Nat.le_of_ble_eq_true rfl, Nat.le_of_ble_eq_true rfl⟩) hS (fun u86 H locs p_87 hG hS => ?_)
          obtain ⟨⟨r1_, r2_, r3_, r4_, r5_⟩, rk_, ri_, rr_⟩ := cReady_inv (u := u) (sd := 19) (cl := 20) (nu := 10) (rc := 13) (tc := 14) (by decide) (by decide) (K := 3) (nm := (p1.toNat : Int)) (sp := S9 p1.toNat) (li := L9 p1.toNat) (fd := F9 p1.toNat) (ch := u.1 1) (by omega) (by omega) (by omega) hrd
          rw [← p_87] at r1_ r2_ r3_ r4_ r5_ rk_ ri_ rr_
          have hd2 : ∀ j, j < 288 → u86.2.1 9 j = 0 ∨ u86.2.1 9 j = 1 := by rw [rk_ 9 (by decide)]; exact hd
          have i10b : ∀ j, j < 36 → -9 ≤ u86.2.1 10 j ∧ u86.2.1 10 j ≤ 9 := by rw [rk_ 10 (by decide)]; exact i10
          have i11b : ∀ j, j < 36 → -9 ≤ u86.2.1 11 j ∧ u86.2.1 11 j ≤ 9 := by rw [rk_ 11 (by decide)]; exact i11
          have hI : cI u86 := ⟨⟨r1_, r2_, r3_, r4_, r5_⟩, hd2, i10b, i11b⟩
          refine z_bipush hx hb dX11_best_50 (by decide) ?_
          refine lv_istore (lv' := [(5, .int (zI 101)), (4, .ref a), (0, .ref (ad 0)), (1, .int (zI p1)), (2, .int (zI p2)), (3, .int (zI p3))]) hx hb dX11_best_52 hl (by decide) rfl (fun ls hl => ?_)
          refine z_bipush hx hb dX11_best_54 (by decide) ?_
          refine lv_istore (lv' := [(6, .int (zI ((-4)))), (5, .int (zI 101)), (4, .ref a), (0, .ref (ad 0)), (1, .int (zI p1)), (2, .int (zI p2)), (3, .int (zI p3))]) hx hb dX11_best_56 hl (by decide) rfl (fun ls hl => ?_)
          refine z_iconst hx hb dX11_best_58 ?_
          refine lv_istore (lv' := [(7, .int (zI 0)), (6, .int (zI ((-4)))), (5, .int (zI 101)), (4, .ref a), (0, .ref (ad 0)), (1, .int (zI p1)), (2, .int (zI p2)), (3, .int (zI p3))]) hx hb dX11_best_59 hl (by decide) rfl (fun ls hl => ?_)
          have loop61 : ∀ (n : Nat) (q fw sa : Int) (w : gS) (H : Heap) (locs : List Loc) (ls : Array Slot), (48 - q).toNat < n → (0 ≤ q ∧ q ≤ 48) → (0 ≤ fw ∧ fw ≤ 101) → (cI w) → (cBestO p2 p3 49 0 101 (-4) u86 = cBestO p2 p3 n q fw sa w) → gH D cy ad jf A w H → va_S A s.heap H locs → lv_has ls 10 [(7, .int (zI q)), (6, .int (zI sa)), (5, .int (zI fw)), (4, .ref a), (0, .ref (ad 0)), (1, .int (zI p1)), (2, .int (zI p2)), (3, .int (zI p3))] → W p l e (headSpec wsX11_best ({ frames := 5, cells := 0, slots := 0, locals := 120 })).room s m ([.ref (ad 0), .int (zI p1), .int (zI p2), .int (zI p3)]).toArray below meth c H locs 0 0 (MQ below (va_Qi (fun (r : Int32) (v : gS) => r = zI (cBest u K S9 L9 F9 p1 p2 p3).1 ∧ v = (cBest u K S9 L9 F9 p1 p2 p3).2) (gB D cy ad jf A) A) ([.ref (ad 0), .int (zI p1), .int (zI p2), .int (zI p3)]).toArray s 0 0 A) (F0 m 61 ls []) := by
            intro n
            induction n with
            | zero => intro q fw sa w H locs ls hm; exact absurd hm (Nat.not_lt_zero _)
            | succ n ih61 =>
              intro q fw sa w H locs ls hm hq9 hf9 hI hT hG hS hl
              refine lv_iload hx hb dX11_best_61 (lv_at hl 0 rfl) ?_
              refine z_bipush hx hb dX11_best_63 (by decide) ?_
              refine z_icmp_ge (tgt := 145) hx hb dX11_best_65 (by decide) (by omega) (by omega) (by omega) (by omega) (fun c_88 => ?_) (fun c_88 => ?_)
              · refine lv_iload hx hb dX11_best_145 (lv_at hl 1 rfl) ?_
                exact W.iret (v := zI sa) hx hb hr (fun t9 ht9_ hW => ⟨⟨zI sa, w, rfl, (by unfold cBest; rw [if_pos (by omega), if_pos (by omega)]; unfold cRdT; rw [hk0, ← p_87, hT, cBestO, if_neg (by omega)]; exact ⟨rfl, rfl⟩), gB.mk' hG hC hS ht9_ hW⟩, hS.F ht9_⟩) hS.2.2 dX11_best_147
              · refine z_iconst hx hb dX11_best_68 ?_
                refine lv_istore (lv' := [(8, .int (zI 0)), (7, .int (zI q)), (6, .int (zI sa)), (5, .int (zI fw)), (4, .ref a), (0, .ref (ad 0)), (1, .int (zI p1)), (2, .int (zI p2)), (3, .int (zI p3))]) hx hb dX11_best_69 hl (by decide) rfl (fun ls hl => ?_)
                have loop71 : ∀ (n : Nat) (b fw2 sa2 : Int) (w2 : gS) (H : Heap) (locs : List Loc) (ls : Array Slot), (8 - b).toNat < n → (0 ≤ b ∧ b ≤ 8) → (0 ≤ fw2 ∧ fw2 ≤ 101) → (cI w2) → (cBestI p2 p3 q 9 0 fw sa w = cBestI p2 p3 q n b fw2 sa2 w2) → gH D cy ad jf A w2 H → va_S A s.heap H locs → lv_has ls 10 [(8, .int (zI b)), (7, .int (zI q)), (6, .int (zI sa2)), (5, .int (zI fw2)), (4, .ref a), (0, .ref (ad 0)), (1, .int (zI p1)), (2, .int (zI p2)), (3, .int (zI p3))] → W p l e (headSpec wsX11_best ({ frames := 5, cells := 0, slots := 0, locals := 120 })).room s m ([.ref (ad 0), .int (zI p1), .int (zI p2), .int (zI p3)]).toArray below meth c H locs 0 0 (MQ below (va_Qi (fun (r : Int32) (v : gS) => r = zI (cBest u K S9 L9 F9 p1 p2 p3).1 ∧ v = (cBest u K S9 L9 F9 p1 p2 p3).2) (gB D cy ad jf A) A) ([.ref (ad 0), .int (zI p1), .int (zI p2), .int (zI p3)]).toArray s 0 0 A) (F0 m 71 ls []) := by
                  intro n
                  induction n with
                  | zero => intro b fw2 sa2 w2 H locs ls hm; exact absurd hm (Nat.not_lt_zero _)
                  | succ n ih71 =>
                    intro b fw2 sa2 w2 H locs ls hm hb9 hf2 hI2 hT2 hG hS hl
                    obtain ⟨⟨r1_, r2_, r3_, r4_, r5_⟩, hd2, i10b, i11b⟩ := id hI2
                    refine lv_iload hx hb dX11_best_71 (lv_at hl 0 rfl) ?_
                    refine z_bipush hx hb dX11_best_73 (by decide) ?_
                    refine z_icmp_ge (tgt := 139) hx hb dX11_best_75 (by decide) (by omega) (by omega) (by omega) (by omega) (fun c_89 => ?_) (fun c_89 => ?_)
                    · refine z_iinc (lv' := [(7, .int (zI (q + 1))), (8, .int (zI b)), (6, .int (zI sa2)), (5, .int (zI fw2)), (4, .ref a), (0, .ref (ad 0)), (1, .int (zI p1)), (2, .int (zI p2)), (3, .int (zI p3))]) hx hb dX11_best_139 hl (k := 1) rfl (by decide) rfl (fun ls hl => ?_)
                      refine lv_goto (tgt := 61) hx hb dX11_best_142 (by decide) ?_
                      exact ih61 (q + 1) fw2 sa2 w2 _ _ _ (by omega) (by omega) (by omega) (by exact hI2) (by have hE8 : cBestI p2 p3 q 9 0 fw sa w = (fw2, sa2, w2) := (by rw [hT2, cBestI, if_neg (by omega)]); rw [hT, cBestO, if_pos (by omega), hE8]) hG hS (lv_sub hl [0, 2, 3, 4, 5, 6, 7, 8] rfl)
                    · refine lv_aload_n hx hb dX11_best_78 rfl (lv_at hl 5 rfl) ?_
                      refine g_get (C := RX11) (T := TX11) (N := 14) (ci := 10) hx hb hts (fun _ h => (List.mem_cons_of_mem _ (List.mem_append_left _ (List.mem_append_left _ (List.mem_append_left _ (List.mem_append_left _ (List.mem_append_left _ (List.mem_append_left _ (List.mem_append_right _ h))))))))) hown hC.1 hG 0 (by decide) rfl rfl 6 (by decide) (hts (.fieldLink RX11 39 "StraitSwim" "trial" "LStraitSwim$Swim;") (List.mem_cons_of_mem _ (List.mem_append_left _ (List.mem_append_left _ (List.mem_append_left _ (List.mem_append_left _ (List.mem_append_left _ (List.mem_append_left _ (List.mem_append_left _ (List.mem_append_left _ (List.mem_of_getElem? (i := 1) rfl))))))))))) (fun _ h9 => h9) rfl dX11_best_79 ?_
                      refine lv_aload_n hx hb dX11_best_82 rfl (lv_at hl 5 rfl) ?_
                      refine g_get (C := RX11) (T := TX11) (N := 14) (ci := 10) hx hb hts (fun _ h => (List.mem_cons_of_mem _ (List.mem_append_left _ (List.mem_append_left _ (List.mem_append_left _ (List.mem_append_left _ (List.mem_append_left _ (List.mem_append_left _ (List.mem_append_right _ h))))))))) hown hC.1 hG 0 (by decide) rfl rfl 0 (by decide) (hts (.fieldLink RX11 10 "StraitSwim" "strait" "LStraitSwim$Strait;") (List.mem_cons_of_mem _ (List.mem_append_left _ (List.mem_append_left _ (List.mem_append_left _ (List.mem_append_left _ (List.mem_append_left _ (List.mem_append_left _ (List.mem_append_left _ (List.mem_append_left _ (List.mem_of_getElem? (i := 0) rfl))))))))))) (fun _ h9 => h9) rfl dX11_best_83 ?_
                      refine lv_iload_n hx hb dX11_best_86 rfl (lv_at hl 7 rfl) ?_
                      refine lv_iload_n hx hb dX11_best_87 rfl (lv_at hl 8 rfl) ?_
                      refine lv_iload hx hb dX11_best_88 (lv_at hl 1 rfl) ?_
                      refine lv_iload hx hb dX11_best_90 (lv_at hl 0 rfl) ?_
                      refine g_calli (va_runV (As := [.ref (ad 1), .int (zI p2), .int (zI p3), .int (zI q), .int (zI b)]) (rest := []) ⟨hx, hb, hml, hown, hts⟩ (kX9_cross_3 l D cy ad jf A w2 p2 p3 q b (by omega) (by omega) (by omega) (by omega) i10b i11b r1_ r2_ hd2 r3_ r4_) (cwV 5 hts gX11_best_X9_cross rfl rfl rfl (by decide +kernel) ⟨by decide, by decide⟩) (g_preV (C := RX9) hG hC hS 3 (by decide) rfl rfl) rfl rfl hl.1 rfl (lv_room (Nat.le_of_ble_eq_true rfl)) dX11_best_92 ⟨Nat.le_of_ble_eq_true rfl, Nat.le_of_ble_eq_true rfl⟩) hS (fun r90 u91 H locs p_92 hG hS => ?_)
                      obtain ⟨rfl, hu91⟩ := p_92
                      obtain ⟨z93, hz93⟩ : ∃ z : Int, z = (cCross w2 17 18 19 20 11 12 13 14 p2 p3 q b).1 := ⟨_, rfl⟩
                      rw [← hz93]
                      have qc_ := cCross_res w2 p2 p3 q b hI2
                      rw [← hz93, ← hu91] at qc_
                      have hI3 : cI u91 := by rw [hu91]; exact cI_cross p2 p3 q b hI2
                      refine lv_istore (lv' := [(9, .int (zI z93)), (8, .int (zI b)), (7, .int (zI q)), (6, .int (zI sa2)), (5, .int (zI fw2)), (4, .ref a), (0, .ref (ad 0)), (1, .int (zI p1)), (2, .int (zI p2)), (3, .int (zI p3))]) hx hb dX11_best_95 hl (by decide) rfl (fun ls hl => ?_)
                      refine lv_iload hx hb dX11_best_97 (lv_at hl 0 rfl) ?_
                      refine z_if_ne (tgt := 133) hx hb dX11_best_99 (by decide) (by omega) (by omega) (fun c_94 => ?_) (fun c_94 => ?_)
                      · refine z_iinc (lv' := [(8, .int (zI (b + 1))), (9, .int (zI z93)), (7, .int (zI q)), (6, .int (zI sa2)), (5, .int (zI fw2)), (4, .ref a), (0, .ref (ad 0)), (1, .int (zI p1)), (2, .int (zI p2)), (3, .int (zI p3))]) hx hb dX11_best_133 hl (k := 1) rfl (by decide) rfl (fun ls hl => ?_)
                        refine lv_goto (tgt := 71) hx hb dX11_best_136 (by decide) ?_
                        exact ih71 (b + 1) fw2 sa2 u91 _ _ _ (by omega) (by omega) (by omega) (by exact hI3) (by rw [hT2, cBestI, if_pos (by omega)]; simp only [← hz93, ← hu91]; (repeat (first | rw [if_pos (by omega)] | rw [if_neg (by omega)]))) hG hS (lv_sub hl [0, 2, 3, 4, 5, 6, 7, 8, 9] rfl)
                      · refine lv_aload_n hx hb dX11_best_102 rfl (lv_at hl 6 rfl) ?_
                        refine g_get (C := RX11) (T := TX11) (N := 14) (ci := 10) hx hb hts (fun _ h => (List.mem_cons_of_mem _ (List.mem_append_left _ (List.mem_append_left _ (List.mem_append_left _ (List.mem_append_left _ (List.mem_append_left _ (List.mem_append_left _ (List.mem_append_right _ h))))))))) hown hC.1 hG 0 (by decide) rfl rfl 6 (by decide) (hts (.fieldLink RX11 39 "StraitSwim" "trial" "LStraitSwim$Swim;") (List.mem_cons_of_mem _ (List.mem_append_left _ (List.mem_append_left _ (List.mem_append_left _ (List.mem_append_left _ (List.mem_append_left _ (List.mem_append_left _ (List.mem_append_left _ (List.mem_append_left _ (List.mem_of_getElem? (i := 1) rfl))))))))))) (fun _ h9 => h9) rfl dX11_best_103 ?_
                        refine g_get (C := RX9) (T := TX9) (N := 9) (ci := 8) hx hb hts (fun _ h => (List.mem_cons_of_mem _ (List.mem_append_left _ (List.mem_append_left _ (List.mem_append_left _ (List.mem_append_left _ (List.mem_append_left _ (List.mem_append_right _ h)))))))) hown hC.1 hG 3 (by decide) rfl rfl 1 (by decide) (hts (.fieldLink RX11 148 "StraitSwim$Swim" "quarters" "I") (List.mem_cons_of_mem _ (List.mem_append_left _ (List.mem_append_left _ (List.mem_append_left _ (List.mem_append_left _ (List.mem_append_left _ (List.mem_append_left _ (List.mem_append_left _ (List.mem_append_left _ (List.mem_of_getElem? (i := 3) rfl))))))))))) (fun _ h9 => h9) rfl dX11_best_106 ?_
                        refine lv_iload hx hb dX11_best_109 (lv_at hl 4 rfl) ?_
                        refine z_icmp_ge (tgt := 133) hx hb dX11_best_111 (by decide) (by omega) (by omega) (by omega) (by omega) (fun c_95 => ?_) (fun c_95 => ?_)
                        · refine z_iinc (lv' := [(8, .int (zI (b + 1))), (9, .int (zI z93)), (7, .int (zI q)), (6, .int (zI sa2)), (5, .int (zI fw2)), (4, .ref a), (0, .ref (ad 0)), (1, .int (zI p1)), (2, .int (zI p2)), (3, .int (zI p3))]) hx hb dX11_best_133 hl (k := 1) rfl (by decide) rfl (fun ls hl => ?_)
                          refine lv_goto (tgt := 71) hx hb dX11_best_136 (by decide) ?_
                          exact ih71 (b + 1) fw2 sa2 u91 _ _ _ (by omega) (by omega) (by omega) (by exact hI3) (by rw [hT2, cBestI, if_pos (by omega)]; simp only [← hz93, ← hu91]; (repeat (first | rw [if_pos (by omega)] | rw [if_neg (by omega)]))) hG hS (lv_sub hl [0, 2, 3, 4, 5, 6, 7, 8, 9] rfl)
                        · refine lv_aload_n hx hb dX11_best_114 rfl (lv_at hl 6 rfl) ?_
                          refine g_get (C := RX11) (T := TX11) (N := 14) (ci := 10) hx hb hts (fun _ h => (List.mem_cons_of_mem _ (List.mem_append_left _ (List.mem_append_left _ (List.mem_append_left _ (List.mem_append_left _ (List.mem_append_left _ (List.mem_append_left _ (List.mem_append_right _ h))))))))) hown hC.1 hG 0 (by decide) rfl rfl 6 (by decide) (hts (.fieldLink RX11 39 "StraitSwim" "trial" "LStraitSwim$Swim;") (List.mem_cons_of_mem _ (List.mem_append_left _ (List.mem_append_left _ (List.mem_append_left _ (List.mem_append_left _ (List.mem_append_left _ (List.mem_append_left _ (List.mem_append_left _ (List.mem_append_left _ (List.mem_of_getElem? (i := 1) rfl))))))))))) (fun _ h9 => h9) rfl dX11_best_115 ?_
                          refine g_get (C := RX9) (T := TX9) (N := 9) (ci := 8) hx hb hts (fun _ h => (List.mem_cons_of_mem _ (List.mem_append_left _ (List.mem_append_left _ (List.mem_append_left _ (List.mem_append_left _ (List.mem_append_left _ (List.mem_append_right _ h)))))))) hown hC.1 hG 3 (by decide) rfl rfl 1 (by decide) (hts (.fieldLink RX11 148 "StraitSwim$Swim" "quarters" "I") (List.mem_cons_of_mem _ (List.mem_append_left _ (List.mem_append_left _ (List.mem_append_left _ (List.mem_append_left _ (List.mem_append_left _ (List.mem_append_left _ (List.mem_append_left _ (List.mem_append_left _ (List.mem_of_getElem? (i := 3) rfl))))))))))) (fun _ h9 => h9) rfl dX11_best_118 ?_
                          refine lv_istore (lv' := [(5, .int (zI (u91.1 11))), (9, .int (zI z93)), (8, .int (zI b)), (7, .int (zI q)), (6, .int (zI sa2)), (4, .ref a), (0, .ref (ad 0)), (1, .int (zI p1)), (2, .int (zI p2)), (3, .int (zI p3))]) hx hb dX11_best_121 hl (by decide) rfl (fun ls hl => ?_)
                          refine z_bipush hx hb dX11_best_123 (by decide) ?_
                          refine lv_iload hx hb dX11_best_125 (lv_at hl 3 rfl) ?_
                          refine z_imul hx hb dX11_best_127 ?_
                          refine lv_iload hx hb dX11_best_128 (lv_at hl 2 rfl) ?_
                          refine z_iadd hx hb dX11_best_130 ?_
                          refine lv_istore (lv' := [(6, .int (zI ((10 * q) + b))), (5, .int (zI (u91.1 11))), (9, .int (zI z93)), (8, .int (zI b)), (7, .int (zI q)), (4, .ref a), (0, .ref (ad 0)), (1, .int (zI p1)), (2, .int (zI p2)), (3, .int (zI p3))]) hx hb dX11_best_131 hl (by decide) rfl (fun ls hl => ?_)
                          refine z_iinc (lv' := [(8, .int (zI (b + 1))), (6, .int (zI ((10 * q) + b))), (5, .int (zI (u91.1 11))), (9, .int (zI z93)), (7, .int (zI q)), (4, .ref a), (0, .ref (ad 0)), (1, .int (zI p1)), (2, .int (zI p2)), (3, .int (zI p3))]) hx hb dX11_best_133 hl (k := 3) rfl (by decide) rfl (fun ls hl => ?_)
                          refine lv_goto (tgt := 71) hx hb dX11_best_136 (by decide) ?_
                          exact ih71 (b + 1) (u91.1 11) ((10 * q) + b) u91 _ _ _ (by omega) (by omega) (by omega) (by exact hI3) (by rw [hT2, cBestI, if_pos (by omega)]; simp only [← hz93, ← hu91]; (repeat (first | rw [if_pos (by omega)] | rw [if_neg (by omega)]))) hG hS (lv_sub hl [0, 4, 1, 2, 5, 6, 7, 8, 9] rfl)
                exact loop71 9 0 fw sa w _ _ _ (by omega) (by omega) (by omega) (by exact hI) (by rfl) hG hS (lv_sub hl [0, 1, 2, 3, 4, 5, 6, 7, 8] rfl)
          exact loop61 49 0 101 ((-4)) u86 _ _ _ (by omega) (by omega) (by omega) (by exact hI) (by rfl) hG hS (lv_sub hl [0, 1, 2, 3, 4, 5, 6, 7] rfl)
        · refine z_bipush hx hb dX11_best_34 (by decide) ?_
          exact W.iret (v := zI ((-4))) hx hb hr (fun t9 ht9_ hW => ⟨⟨zI ((-4)), u, rfl, (by unfold cBest; (first | (rw [if_neg (by omega)]; exact ⟨rfl, rfl⟩) | (rw [if_pos (by omega), if_neg (by omega)]; exact ⟨rfl, rfl⟩))), gB.mk' hG hC hS ht9_ hW⟩, hS.F ht9_⟩) hS.2.2 dX11_best_36
      · refine z_iconst hx hb dX11_best_20 ?_
        exact W.iret (v := zI ((-1))) hx hb hr (fun t9 ht9_ hW => ⟨⟨zI ((-1)), u, rfl, (by unfold cBest; (first | (rw [if_neg (by omega)]; exact ⟨rfl, rfl⟩) | (rw [if_pos (by omega), if_neg (by omega)]; exact ⟨rfl, rfl⟩))), gB.mk' hG hC hS ht9_ hW⟩, hS.F ht9_⟩) hS.2.2 dX11_best_21
  · rw [if_neg hk_] at hr_
    subst hr_
    simp only [va_rf]
    refine lv_astoreN (lv' := [(4, .null), (0, .ref (ad 0)), (1, .int (zI p1)), (2, .int (zI p2)), (3, .int (zI p3))]) hx hb dX11_best_5 hl (by decide) rfl (fun ls hl => ?_)
    refine lv_aloadN hx hb dX11_best_7 (lv_at hl 0 rfl) ?_
    refine lv_ifnullN (tgt := 20) hx hb dX11_best_9 (by decide) ?_
    refine z_iconst hx hb dX11_best_20 ?_
    exact W.iret (v := zI ((-1))) hx hb hr (fun t9 ht9_ hW => ⟨⟨zI ((-1)), u, rfl, (by unfold cBest; (first | (rw [if_neg (by omega)]; exact ⟨rfl, rfl⟩) | (rw [if_pos (by omega), if_neg (by omega)]; exact ⟨rfl, rfl⟩))), gB.mk' hG hC hS ht9_ hW⟩, hS.F ht9_⟩) hS.2.2 dX11_best_21
set_option maxHeartbeats 4000000 in
set_option maxRecDepth 100000 in
theorem kX11_ends (l : Launch) (D : va_G) (cy : Nat → ClassId) (ad : Nat → Nat) (jf : Nat → Int64) (A : Nat → Prop) (u : gS) (p1 p2 p3 p4 : Int) (j_p1 : -2147483648 ≤ p1 ∧ p1 < 2147483648) (j_p2 : -2147483648 ≤ p2 ∧ p2 < 2147483648) (j_p3 : -2147483648 ≤ p3 ∧ p3 < 2147483648) (j_p4 : -2147483648 ≤ p4 ∧ p4 < 2147483648) (i0 : 0 ≤ u.1 0 ∧ u.1 0 ≤ 10) (hrd : rdI u 19 20 13 14) (i1 : 0 ≤ u.1 1 ∧ u.1 1 ≤ 20) (hd : ∀ j, j < 288 → u.2.1 9 j = 0 ∨ u.2.1 9 j = 1) (i10 : ∀ j, j < 36 → -9 ≤ u.2.1 10 j ∧ u.2.1 10 j ≤ 9) (i11 : ∀ j, j < 36 → -9 ≤ u.2.1 11 j ∧ u.2.1 11 j ≤ 9) (K S9 L9 F9 : Nat → Int) (hsw : ∀ j : Nat, (j : Int) < u.1 0 → ∃ a, swAt u j a (K j) (S9 j) (L9 j) (F9 j)) : Met l yX11_ends wsX11_ends ({ frames := 5, cells := 0, slots := 0, locals := 120 }) (va_Pc [.ref (ad 0), .int (zI p1), .int (zI p2), .int (zI p3), .int (zI p4)] (gB D cy ad jf A u)) (va_Qi (fun (r : Int32) (v : gS) => r = zI (cEnds u K S9 L9 F9 p1 p2 p3 p4).1 ∧ v = (cEnds u K S9 L9 F9 p1 p2 p3 p4).2) (gB D cy ad jf A) A) 0 0 A := by
  refine Met.ofW (cc := cX11_ends) (maxL := 9) (ret := (some .int)) (by decide) rfl ?_
  intro p e s m args below meth c s₁ B hml hv
  obtain ⟨rfl, hG, hC⟩ := hv
  have hx := B.exec
  have hb := B.bytes
  have hr := B.returns
  have hts := atoms_spec (ws := wsX11_ends) B.pre
  have hown : s.vm.findClass RX11 = some m.cls := findClass_of_methodNamed B.named
  have hlocks := B.notSynchronized
  have hS : va_S A s.heap s.heap [] := va_S.rf
  have hl := lv_entry ([.ref (ad 0), .int (zI p1), .int (zI p2), .int (zI p3), .int (zI p4)]) (n := 9) (Nat.le_of_ble_eq_true rfl)
  rw [lg_entry_eq]
  generalize (lg_sl ([.ref (ad 0), .int (zI p1), .int (zI p2), .int (zI p3), .int (zI p4)]) ++ List.replicate (9 - (lg_sl ([.ref (ad 0), .int (zI p1), .int (zI p2), .int (zI p3), .int (zI p4)])).length) Slot.unset).toArray = ls at hl ⊢
  have hl : lv_has ls 9 [(0, .ref (ad 0)), (1, .int (zI p1)), (2, .int (zI p2)), (3, .int (zI p3)), (4, .int (zI p4))] := hl
  refine lv_aload_n hx hb dX11_ends_0 rfl (lv_at hl 0 rfl) ?_
  refine lv_iload_n hx hb dX11_ends_1 rfl (lv_at hl 1 rfl) ?_
  refine g_callq (va_runV (As := [.int (zI p1)]) (rest := []) ⟨hx, hb, hml, hown, hts⟩ (kX11_known l D cy ad jf A u p1 (by omega) i0) (cwV 1 hts gX11_ends_X11_known rfl rfl rfl (by decide +kernel) ⟨by decide, by decide⟩) (g_preV (C := RX11) hG hC hS 0 (by decide) rfl rfl) rfl rfl hl.1 rfl (lv_room (Nat.le_of_ble_eq_true rfl)) dX11_ends_2 ⟨Nat.le_of_ble_eq_true rfl, Nat.le_of_ble_eq_true rfl⟩) hS (fun r1 u2 H locs p_3 hG hS => ?_)
  obtain ⟨hr_, he_⟩ := p_3
  rw [he_] at hG; clear he_
  by_cases hk_ : 0 ≤ p1 ∧ p1 ≤ u.1 0 - 1
  · rw [if_pos hk_] at hr_
    obtain ⟨a, ha0, ha, hE0, hki, hsp, hli, hfd⟩ := hsw p1.toNat (by omega)
    rw [ha0] at hr_
    subst hr_
    rcases (show K p1.toNat = 0 ∨ K p1.toNat = 1 ∨ K p1.toNat = 2 ∨ K p1.toNat = 3 by omega) with hk0 | hk0 | hk0 | hk0
    · have hE : u.2.2.2.2 a = .inr (2, [.int (zI (p1.toNat : Int)), .int (zI (S9 p1.toNat)), .int (zI (L9 p1.toNat)), .int (zI (F9 p1.toNat))]) := by rw [hE0, hk0]; rfl
      simp only [va_rf]
      refine lv_astore (lv' := [(5, .ref a), (0, .ref (ad 0)), (1, .int (zI p1)), (2, .int (zI p2)), (3, .int (zI p3)), (4, .int (zI p4))]) hx hb dX11_ends_5 hl (by decide) rfl (fun ls hl => ?_)
      refine lv_aload hx hb dX11_ends_7 (lv_at hl 0 rfl) ?_
      refine lv_ifnull hx hb dX11_ends_9 ?_
      refine lv_iload_n hx hb dX11_ends_12 rfl (lv_at hl 3 rfl) ?_
      refine lv_iload_n hx hb dX11_ends_13 rfl (lv_at hl 4 rfl) ?_
      refine g_calli (va_runS (As := [.int (zI p2), .int (zI p3)]) (rest := []) ⟨hx, hb, hml, hown, hts⟩ (kX11_isPlace l D cy ad jf A u p2 p3 (by omega) (by omega)) (va_cwS 2 hts gX11_ends_X11_isPlace rfl rfl rfl (by decide +kernel) ⟨by decide, by decide⟩) (g_preS hG hC hS) rfl rfl hl.1 rfl (lv_room (Nat.le_of_ble_eq_true rfl)) dX11_ends_14 ⟨Nat.le_of_ble_eq_true rfl, Nat.le_of_ble_eq_true rfl⟩) hS (fun r4 u5 H locs p_6 hG hS => ?_)
      obtain ⟨⟨b7, rfl, q_8⟩, he_⟩ := p_6
      rw [he_] at hG; clear he_
      have hbb7 : 0 ≤ b7 ∧ b7 ≤ 1 := by rcases q_8 with ⟨h, _⟩ | ⟨h, _⟩ <;> omega
      refine z_if_eq (tgt := 30) hx hb dX11_ends_17 (by decide) (by omega) (by omega) (fun c_9 => ?_) (fun c_9 => ?_)
      · refine z_iconst hx hb dX11_ends_30 ?_
        exact W.iret (v := zI ((-1))) hx hb hr (fun t9 ht9_ hW => ⟨⟨zI ((-1)), u, rfl, (by unfold cEnds; (first | (rw [if_neg (by omega)]; exact ⟨rfl, rfl⟩) | (rw [if_pos (by omega), if_neg (by omega)]; exact ⟨rfl, rfl⟩))), gB.mk' hG hC hS ht9_ hW⟩, hS.F ht9_⟩) hS.2.2 dX11_ends_31
      · refine lv_iload hx hb dX11_ends_20 (lv_at hl 5 rfl) ?_
        refine z_iconst hx hb dX11_ends_22 ?_
        refine z_iconst hx hb dX11_ends_23 ?_
        refine g_calli (va_runS (As := [.int (zI p4), .int (zI 0), .int (zI 3)]) (rest := []) ⟨hx, hb, hml, hown, hts⟩ (kX11_isWithin l D cy ad jf A u p4 0 3 (by omega) (by omega) (by omega)) (va_cwS 3 hts gX11_ends_X11_isWithin rfl rfl rfl (by decide +kernel) ⟨by decide, by decide⟩) (g_preS hG hC hS) rfl rfl hl.1 rfl (lv_room (Nat.le_of_ble_eq_true rfl)) dX11_ends_24 ⟨Nat.le_of_ble_eq_true rfl, Nat.le_of_ble_eq_true rfl⟩) hS (fun r10 u11 H locs p_12 hG hS => ?_)
        obtain ⟨⟨b13, rfl, q_14⟩, he_⟩ := p_12
        rw [he_] at hG; clear he_
        have hbb13 : 0 ≤ b13 ∧ b13 ≤ 1 := by rcases q_14 with ⟨h, _⟩ | ⟨h, _⟩ <;> omega
        refine z_if_ne (tgt := 32) hx hb dX11_ends_27 (by decide) (by omega) (by omega) (fun c_15 => ?_) (fun c_15 => ?_)
        · refine lv_aload_n hx hb dX11_ends_32 rfl (lv_at hl 1 rfl) ?_
          refine g_get (C := RX11) (T := TX11) (N := 14) (ci := 10) hx hb hts (fun _ h => (List.mem_cons_of_mem _ (List.mem_append_left _ (List.mem_append_left _ (List.mem_append_left _ (List.mem_append_left _ (List.mem_append_left _ (List.mem_append_left _ (List.mem_append_right _ h))))))))) hown hC.1 hG 0 (by decide) rfl rfl 0 (by decide) (hts (.fieldLink RX11 10 "StraitSwim" "strait" "LStraitSwim$Strait;") (List.mem_cons_of_mem _ (List.mem_append_left _ (List.mem_append_left _ (List.mem_append_left _ (List.mem_append_left _ (List.mem_append_left _ (List.mem_append_left _ (List.mem_append_left _ (List.mem_append_left _ (List.mem_of_getElem? (i := 0) rfl))))))))))) (fun _ h9 => h9) rfl dX11_ends_33 ?_
          refine lv_iload_n hx hb dX11_ends_36 rfl (lv_at hl 3 rfl) ?_
          refine lv_iload_n hx hb dX11_ends_37 rfl (lv_at hl 4 rfl) ?_
          refine g_calli (va_runV (As := [.int (zI p2), .int (zI p3)]) (rest := []) ⟨hx, hb, hml, hown, hts⟩ (kX8_isDry l D cy ad jf A u p2 p3 (by omega) (by omega) hd) (cwV 2 hts gX11_ends_X8_isDry rfl rfl rfl (by decide +kernel) ⟨by decide, by decide⟩) (g_preV (C := RX8) hG hC hS 1 (by decide) rfl rfl) rfl rfl hl.1 rfl (lv_room (Nat.le_of_ble_eq_true rfl)) dX11_ends_38 ⟨Nat.le_of_ble_eq_true rfl, Nat.le_of_ble_eq_true rfl⟩) hS (fun r16 u17 H locs p_18 hG hS => ?_)
          obtain ⟨rfl, he_⟩ := p_18
          rw [he_] at hG; clear he_
          obtain ⟨z20, hz20⟩ : ∃ z : Int, z = spDry (u.2.1 9) p2 p3 := ⟨_, rfl⟩
          rw [← hz20]
          have q_19 : z20 = 0 ∨ z20 = 1 := by rw [hz20]; exact hd _ (by omega)
          refine z_if_eq (tgt := 47) hx hb dX11_ends_41 (by decide) (by omega) (by omega) (fun c_21 => ?_) (fun c_21 => ?_)
          · refine lv_aload_n hx hb dX11_ends_47 rfl (lv_at hl 1 rfl) ?_
            refine g_get (C := RX11) (T := TX11) (N := 14) (ci := 10) hx hb hts (fun _ h => (List.mem_cons_of_mem _ (List.mem_append_left _ (List.mem_append_left _ (List.mem_append_left _ (List.mem_append_left _ (List.mem_append_left _ (List.mem_append_left _ (List.mem_append_right _ h))))))))) hown hC.1 hG 0 (by decide) rfl rfl 6 (by decide) (hts (.fieldLink RX11 39 "StraitSwim" "trial" "LStraitSwim$Swim;") (List.mem_cons_of_mem _ (List.mem_append_left _ (List.mem_append_left _ (List.mem_append_left _ (List.mem_append_left _ (List.mem_append_left _ (List.mem_append_left _ (List.mem_append_left _ (List.mem_append_left _ (List.mem_of_getElem? (i := 1) rfl))))))))))) (fun _ h9 => h9) rfl dX11_ends_48 ?_
            refine lv_aload hx hb dX11_ends_51 (lv_at hl 0 rfl) ?_
            refine lv_aload_n hx hb dX11_ends_53 rfl (lv_at hl 1 rfl) ?_
            refine g_get (C := RX11) (T := TX11) (N := 14) (ci := 10) hx hb hts (fun _ h => (List.mem_cons_of_mem _ (List.mem_append_left _ (List.mem_append_left _ (List.mem_append_left _ (List.mem_append_left _ (List.mem_append_left _ (List.mem_append_left _ (List.mem_append_right _ h))))))))) hown hC.1 hG 0 (by decide) rfl rfl 3 (by decide) (hts (.fieldLink RX11 26 "StraitSwim" "chill" "I") (List.mem_cons_of_mem _ (List.mem_append_left _ (List.mem_append_left _ (List.mem_append_left _ (List.mem_append_left _ (List.mem_append_left _ (List.mem_append_left _ (List.mem_append_left _ (List.mem_append_left _ (List.mem_of_getElem? (i := 2) rfl))))))))))) (fun _ h9 => h9) rfl dX11_ends_54 ?_
            refine g_callv (va_runV (As := [.ref a, .int (zI (u.1 1))]) (rest := []) ⟨hx, hb, hml, hown, hts⟩ (kX9_ready_3_X3 l D cy ad jf A u a ((p1.toNat : Int)) (S9 p1.toNat) (L9 p1.toNat) (F9 p1.toNat) (u.1 1) ha hE (by omega) (by omega) (by omega) (by omega) hrd.2.2.2.2) (cwV 2 hts gX11_ends_X9_ready rfl rfl rfl (by decide +kernel) ⟨by decide, by decide⟩) (g_preV (C := RX9) hG hC hS 3 (by decide) rfl rfl) rfl rfl hl.1 rfl (lv_room (Nat.le_of_ble_eq_true rfl)) dX11_ends_57 ⟨Nat.le_of_ble_eq_true rfl, Nat.le_of_ble_eq_true rfl⟩) hS (fun u23 H locs p_24 hG hS => ?_)
            obtain ⟨⟨r1_, r2_, r3_, r4_, r5_⟩, rk_, ri_, rr_⟩ := cReady_inv (u := u) (sd := 19) (cl := 20) (nu := 10) (rc := 13) (tc := 14) (by decide) (by decide) (K := 0) (nm := (p1.toNat : Int)) (sp := S9 p1.toNat) (li := L9 p1.toNat) (fd := F9 p1.toNat) (ch := u.1 1) (by omega) (by omega) (by omega) hrd
            rw [← p_24] at r1_ r2_ r3_ r4_ r5_ rk_ ri_ rr_
            have hd2 : ∀ j, j < 288 → u23.2.1 9 j = 0 ∨ u23.2.1 9 j = 1 := by rw [rk_ 9 (by decide)]; exact hd
            have i10b : ∀ j, j < 36 → -9 ≤ u23.2.1 10 j ∧ u23.2.1 10 j ≤ 9 := by rw [rk_ 10 (by decide)]; exact i10
            have i11b : ∀ j, j < 36 → -9 ≤ u23.2.1 11 j ∧ u23.2.1 11 j ≤ 9 := by rw [rk_ 11 (by decide)]; exact i11
            have hI : cI u23 := ⟨⟨r1_, r2_, r3_, r4_, r5_⟩, hd2, i10b, i11b⟩
            refine z_iconst hx hb dX11_ends_60 ?_
            refine lv_istore (lv' := [(6, .int (zI 0)), (5, .ref a), (0, .ref (ad 0)), (1, .int (zI p1)), (2, .int (zI p2)), (3, .int (zI p3)), (4, .int (zI p4))]) hx hb dX11_ends_61 hl (by decide) rfl (fun ls hl => ?_)
            refine z_iconst hx hb dX11_ends_63 ?_
            refine lv_istore (lv' := [(7, .int (zI 0)), (6, .int (zI 0)), (5, .ref a), (0, .ref (ad 0)), (1, .int (zI p1)), (2, .int (zI p2)), (3, .int (zI p3)), (4, .int (zI p4))]) hx hb dX11_ends_64 hl (by decide) rfl (fun ls hl => ?_)
            have loop66 : ∀ (n : Nat) (q k : Int) (w : gS) (H : Heap) (locs : List Loc) (ls : Array Slot), (48 - q).toNat < n → (0 ≤ q ∧ q ≤ 48) → (cI w) → (cEndsO p2 p3 p4 49 0 0 u23 = cEndsO p2 p3 p4 n q k w) → gH D cy ad jf A w H → va_S A s.heap H locs → lv_has ls 9 [(7, .int (zI q)), (6, .int (zI k)), (5, .ref a), (0, .ref (ad 0)), (1, .int (zI p1)), (2, .int (zI p2)), (3, .int (zI p3)), (4, .int (zI p4))] → W p l e (headSpec wsX11_ends ({ frames := 5, cells := 0, slots := 0, locals := 120 })).room s m ([.ref (ad 0), .int (zI p1), .int (zI p2), .int (zI p3), .int (zI p4)]).toArray below meth c H locs 0 0 (MQ below (va_Qi (fun (r : Int32) (v : gS) => r = zI (cEnds u K S9 L9 F9 p1 p2 p3 p4).1 ∧ v = (cEnds u K S9 L9 F9 p1 p2 p3 p4).2) (gB D cy ad jf A) A) ([.ref (ad 0), .int (zI p1), .int (zI p2), .int (zI p3), .int (zI p4)]).toArray s 0 0 A) (F0 m 66 ls []) := by
              intro n
              induction n with
              | zero => intro q k w H locs ls hm; exact absurd hm (Nat.not_lt_zero _)
              | succ n ih66 =>
                intro q k w H locs ls hm hq9 hI hT hG hS hl
                refine lv_iload hx hb dX11_ends_66 (lv_at hl 0 rfl) ?_
                refine z_bipush hx hb dX11_ends_68 (by decide) ?_
                refine z_icmp_ge (tgt := 120) hx hb dX11_ends_70 (by decide) (by omega) (by omega) (by omega) (by omega) (fun c_25 => ?_) (fun c_25 => ?_)
                · refine lv_iload hx hb dX11_ends_120 (lv_at hl 1 rfl) ?_
                  exact W.iret (v := zI k) hx hb hr (fun t9 ht9_ hW => ⟨⟨zI k, w, rfl, (by unfold cEnds; rw [if_pos (by omega), if_pos (by omega)]; unfold cRdT; rw [hk0, ← p_24, hT, cEndsO, if_neg (by omega)]; exact ⟨rfl, rfl⟩), gB.mk' hG hC hS ht9_ hW⟩, hS.F ht9_⟩) hS.2.2 dX11_ends_122
                · refine z_iconst hx hb dX11_ends_73 ?_
                  refine lv_istore (lv' := [(8, .int (zI 0)), (7, .int (zI q)), (6, .int (zI k)), (5, .ref a), (0, .ref (ad 0)), (1, .int (zI p1)), (2, .int (zI p2)), (3, .int (zI p3)), (4, .int (zI p4))]) hx hb dX11_ends_74 hl (by decide) rfl (fun ls hl => ?_)
                  have loop76 : ∀ (n : Nat) (b k2 : Int) (w2 : gS) (H : Heap) (locs : List Loc) (ls : Array Slot), (8 - b).toNat < n → (0 ≤ b ∧ b ≤ 8) → (cI w2) → (cEndsI p2 p3 p4 q 9 0 k w = cEndsI p2 p3 p4 q n b k2 w2) → gH D cy ad jf A w2 H → va_S A s.heap H locs → lv_has ls 9 [(8, .int (zI b)), (7, .int (zI q)), (6, .int (zI k2)), (5, .ref a), (0, .ref (ad 0)), (1, .int (zI p1)), (2, .int (zI p2)), (3, .int (zI p3)), (4, .int (zI p4))] → W p l e (headSpec wsX11_ends ({ frames := 5, cells := 0, slots := 0, locals := 120 })).room s m ([.ref (ad 0), .int (zI p1), .int (zI p2), .int (zI p3), .int (zI p4)]).toArray below meth c H locs 0 0 (MQ below (va_Qi (fun (r : Int32) (v : gS) => r = zI (cEnds u K S9 L9 F9 p1 p2 p3 p4).1 ∧ v = (cEnds u K S9 L9 F9 p1 p2 p3 p4).2) (gB D cy ad jf A) A) ([.ref (ad 0), .int (zI p1), .int (zI p2), .int (zI p3), .int (zI p4)]).toArray s 0 0 A) (F0 m 76 ls []) := by
                    intro n
                    induction n with
                    | zero => intro b k2 w2 H locs ls hm; exact absurd hm (Nat.not_lt_zero _)
                    | succ n ih76 =>
                      intro b k2 w2 H locs ls hm hb9 hI2 hT2 hG hS hl
                      obtain ⟨⟨r1_, r2_, r3_, r4_, r5_⟩, hd2, i10b, i11b⟩ := id hI2
                      refine lv_iload hx hb dX11_ends_76 (lv_at hl 0 rfl) ?_
                      refine z_bipush hx hb dX11_ends_78 (by decide) ?_
                      refine z_icmp_ge (tgt := 114) hx hb dX11_ends_80 (by decide) (by omega) (by omega) (by omega) (by omega) (fun c_26 => ?_) (fun c_26 => ?_)
                      · refine z_iinc (lv' := [(7, .int (zI (q + 1))), (8, .int (zI b)), (6, .int (zI k2)), (5, .ref a), (0, .ref (ad 0)), (1, .int (zI p1)), (2, .int (zI p2)), (3, .int (zI p3)), (4, .int (zI p4))]) hx hb dX11_ends_114 hl (k := 1) rfl (by decide) rfl (fun ls hl => ?_)
                        refine lv_goto (tgt := 66) hx hb dX11_ends_117 (by decide) ?_
                        exact ih66 (q + 1) k2 w2 _ _ _ (by omega) (by omega) (by exact hI2) (by have hE8 : cEndsI p2 p3 p4 q 9 0 k w = (k2, w2) := (by rw [hT2, cEndsI, if_neg (by omega)]); rw [hT, cEndsO, if_pos (by omega), hE8]) hG hS (lv_sub hl [0, 2, 3, 4, 5, 6, 7, 8] rfl)
                      · refine lv_aload_n hx hb dX11_ends_83 rfl (lv_at hl 4 rfl) ?_
                        refine g_get (C := RX11) (T := TX11) (N := 14) (ci := 10) hx hb hts (fun _ h => (List.mem_cons_of_mem _ (List.mem_append_left _ (List.mem_append_left _ (List.mem_append_left _ (List.mem_append_left _ (List.mem_append_left _ (List.mem_append_left _ (List.mem_append_right _ h))))))))) hown hC.1 hG 0 (by decide) rfl rfl 6 (by decide) (hts (.fieldLink RX11 39 "StraitSwim" "trial" "LStraitSwim$Swim;") (List.mem_cons_of_mem _ (List.mem_append_left _ (List.mem_append_left _ (List.mem_append_left _ (List.mem_append_left _ (List.mem_append_left _ (List.mem_append_left _ (List.mem_append_left _ (List.mem_append_left _ (List.mem_of_getElem? (i := 1) rfl))))))))))) (fun _ h9 => h9) rfl dX11_ends_84 ?_
                        refine lv_aload_n hx hb dX11_ends_87 rfl (lv_at hl 4 rfl) ?_
                        refine g_get (C := RX11) (T := TX11) (N := 14) (ci := 10) hx hb hts (fun _ h => (List.mem_cons_of_mem _ (List.mem_append_left _ (List.mem_append_left _ (List.mem_append_left _ (List.mem_append_left _ (List.mem_append_left _ (List.mem_append_left _ (List.mem_append_right _ h))))))))) hown hC.1 hG 0 (by decide) rfl rfl 0 (by decide) (hts (.fieldLink RX11 10 "StraitSwim" "strait" "LStraitSwim$Strait;") (List.mem_cons_of_mem _ (List.mem_append_left _ (List.mem_append_left _ (List.mem_append_left _ (List.mem_append_left _ (List.mem_append_left _ (List.mem_append_left _ (List.mem_append_left _ (List.mem_append_left _ (List.mem_of_getElem? (i := 0) rfl))))))))))) (fun _ h9 => h9) rfl dX11_ends_88 ?_
                        refine lv_iload_n hx hb dX11_ends_91 rfl (lv_at hl 6 rfl) ?_
                        refine lv_iload_n hx hb dX11_ends_92 rfl (lv_at hl 7 rfl) ?_
                        refine lv_iload hx hb dX11_ends_93 (lv_at hl 1 rfl) ?_
                        refine lv_iload hx hb dX11_ends_95 (lv_at hl 0 rfl) ?_
                        refine g_calli (va_runV (As := [.ref (ad 1), .int (zI p2), .int (zI p3), .int (zI q), .int (zI b)]) (rest := []) ⟨hx, hb, hml, hown, hts⟩ (kX9_cross_3 l D cy ad jf A w2 p2 p3 q b (by omega) (by omega) (by omega) (by omega) i10b i11b r1_ r2_ hd2 r3_ r4_) (cwV 5 hts gX11_ends_X9_cross rfl rfl rfl (by decide +kernel) ⟨by decide, by decide⟩) (g_preV (C := RX9) hG hC hS 3 (by decide) rfl rfl) rfl rfl hl.1 rfl (lv_room (Nat.le_of_ble_eq_true rfl)) dX11_ends_97 ⟨Nat.le_of_ble_eq_true rfl, Nat.le_of_ble_eq_true rfl⟩) hS (fun r27 u28 H locs p_29 hG hS => ?_)
                        obtain ⟨rfl, hu28⟩ := p_29
                        obtain ⟨z30, hz30⟩ : ∃ z : Int, z = (cCross w2 17 18 19 20 11 12 13 14 p2 p3 q b).1 := ⟨_, rfl⟩
                        rw [← hz30]
                        have qc_ := cCross_res w2 p2 p3 q b hI2
                        rw [← hz30, ← hu28] at qc_
                        have hI3 : cI u28 := by rw [hu28]; exact cI_cross p2 p3 q b hI2
                        refine lv_iload hx hb dX11_ends_100 (lv_at hl 8 rfl) ?_
                        refine z_icmp_ne (tgt := 108) hx hb dX11_ends_102 (by decide) (by omega) (by omega) (by omega) (by omega) (fun c_31 => ?_) (fun c_31 => ?_)
                        · refine z_iinc (lv' := [(8, .int (zI (b + 1))), (7, .int (zI q)), (6, .int (zI k2)), (5, .ref a), (0, .ref (ad 0)), (1, .int (zI p1)), (2, .int (zI p2)), (3, .int (zI p3)), (4, .int (zI p4))]) hx hb dX11_ends_108 hl (k := 0) rfl (by decide) rfl (fun ls hl => ?_)
                          refine lv_goto (tgt := 76) hx hb dX11_ends_111 (by decide) ?_
                          exact ih76 (b + 1) k2 u28 _ _ _ (by omega) (by omega) (by exact hI3) (by rw [hT2, cEndsI, if_pos (by omega)]; simp only [← hz30, ← hu28]; (repeat (first | rw [if_pos (by omega)] | rw [if_neg (by omega)]))) hG hS (lv_sub hl [0, 1, 2, 3, 4, 5, 6, 7, 8] rfl)
                        · refine z_iinc (lv' := [(6, .int (zI (k2 + 1))), (8, .int (zI b)), (7, .int (zI q)), (5, .ref a), (0, .ref (ad 0)), (1, .int (zI p1)), (2, .int (zI p2)), (3, .int (zI p3)), (4, .int (zI p4))]) hx hb dX11_ends_105 hl (k := 2) rfl (by decide) rfl (fun ls hl => ?_)
                          refine z_iinc (lv' := [(8, .int (zI (b + 1))), (6, .int (zI (k2 + 1))), (7, .int (zI q)), (5, .ref a), (0, .ref (ad 0)), (1, .int (zI p1)), (2, .int (zI p2)), (3, .int (zI p3)), (4, .int (zI p4))]) hx hb dX11_ends_108 hl (k := 1) rfl (by decide) rfl (fun ls hl => ?_)
                          refine lv_goto (tgt := 76) hx hb dX11_ends_111 (by decide) ?_
                          exact ih76 (b + 1) (k2 + 1) u28 _ _ _ (by omega) (by omega) (by exact hI3) (by rw [hT2, cEndsI, if_pos (by omega)]; simp only [← hz30, ← hu28]; (repeat (first | rw [if_pos (by omega)] | rw [if_neg (by omega)]))) hG hS (lv_sub hl [0, 2, 1, 3, 4, 5, 6, 7, 8] rfl)
                  exact loop76 9 0 k w _ _ _ (by omega) (by omega) (by exact hI) (by rfl) hG hS (lv_sub hl [0, 1, 2, 3, 4, 5, 6, 7, 8] rfl)
            exact loop66 49 0 0 u23 _ _ _ (by omega) (by omega) (by exact hI) (by rfl) hG hS (lv_sub hl [0, 1, 2, 3, 4, 5, 6, 7] rfl)
          · refine z_bipush hx hb dX11_ends_44 (by decide) ?_
            exact W.iret (v := zI ((-4))) hx hb hr (fun t9 ht9_ hW => ⟨⟨zI ((-4)), u, rfl, (by unfold cEnds; (first | (rw [if_neg (by omega)]; exact ⟨rfl, rfl⟩) | (rw [if_pos (by omega), if_neg (by omega)]; exact ⟨rfl, rfl⟩))), gB.mk' hG hC hS ht9_ hW⟩, hS.F ht9_⟩) hS.2.2 dX11_ends_46
        · refine z_iconst hx hb dX11_ends_30 ?_
          exact W.iret (v := zI ((-1))) hx hb hr (fun t9 ht9_ hW => ⟨⟨zI ((-1)), u, rfl, (by unfold cEnds; (first | (rw [if_neg (by omega)]; exact ⟨rfl, rfl⟩) | (rw [if_pos (by omega), if_neg (by omega)]; exact ⟨rfl, rfl⟩))), gB.mk' hG hC hS ht9_ hW⟩, hS.F ht9_⟩) hS.2.2 dX11_ends_31
    · have hE : u.2.2.2.2 a = .inr (0, [.int (zI (p1.toNat : Int)), .int (zI (S9 p1.toNat)), .int (zI (L9 p1.toNat)), .int (zI (F9 p1.toNat))]) := by rw [hE0, hk0]; rfl
      simp only [va_rf]
      refine lv_astore (lv' := [(5, .ref a), (0, .ref (ad 0)), (1, .int (zI p1)), (2, .int (zI p2)), (3, .int (zI p3)), (4, .int (zI p4))]) hx hb dX11_ends_5 hl (by decide) rfl (fun ls hl => ?_)
      refine lv_aload hx hb dX11_ends_7 (lv_at hl 0 rfl) ?_
      refine lv_ifnull hx hb dX11_ends_9 ?_
      refine lv_iload_n hx hb dX11_ends_12 rfl (lv_at hl 3 rfl) ?_
      refine lv_iload_n hx hb dX11_ends_13 rfl (lv_at hl 4 rfl) ?_
      refine g_calli (va_runS (As := [.int (zI p2), .int (zI p3)]) (rest := []) ⟨hx, hb, hml, hown, hts⟩ (kX11_isPlace l D cy ad jf A u p2 p3 (by omega) (by omega)) (va_cwS 2 hts gX11_ends_X11_isPlace rfl rfl rfl (by decide +kernel) ⟨by decide, by decide⟩) (g_preS hG hC hS) rfl rfl hl.1 rfl (lv_room (Nat.le_of_ble_eq_true rfl)) dX11_ends_14 ⟨Nat.le_of_ble_eq_true rfl, Nat.le_of_ble_eq_true rfl⟩) hS (fun r32 u33 H locs p_34 hG hS => ?_)
      obtain ⟨⟨b35, rfl, q_36⟩, he_⟩ := p_34
      rw [he_] at hG; clear he_
      have hbb35 : 0 ≤ b35 ∧ b35 ≤ 1 := by rcases q_36 with ⟨h, _⟩ | ⟨h, _⟩ <;> omega
      refine z_if_eq (tgt := 30) hx hb dX11_ends_17 (by decide) (by omega) (by omega) (fun c_37 => ?_) (fun c_37 => ?_)
      · refine z_iconst hx hb dX11_ends_30 ?_
        exact W.iret (v := zI ((-1))) hx hb hr (fun t9 ht9_ hW => ⟨⟨zI ((-1)), u, rfl, (by unfold cEnds; (first | (rw [if_neg (by omega)]; exact ⟨rfl, rfl⟩) | (rw [if_pos (by omega), if_neg (by omega)]; exact ⟨rfl, rfl⟩))), gB.mk' hG hC hS ht9_ hW⟩, hS.F ht9_⟩) hS.2.2 dX11_ends_31
      · refine lv_iload hx hb dX11_ends_20 (lv_at hl 5 rfl) ?_
        refine z_iconst hx hb dX11_ends_22 ?_
        refine z_iconst hx hb dX11_ends_23 ?_
        refine g_calli (va_runS (As := [.int (zI p4), .int (zI 0), .int (zI 3)]) (rest := []) ⟨hx, hb, hml, hown, hts⟩ (kX11_isWithin l D cy ad jf A u p4 0 3 (by omega) (by omega) (by omega)) (va_cwS 3 hts gX11_ends_X11_isWithin rfl rfl rfl (by decide +kernel) ⟨by decide, by decide⟩) (g_preS hG hC hS) rfl rfl hl.1 rfl (lv_room (Nat.le_of_ble_eq_true rfl)) dX11_ends_24 ⟨Nat.le_of_ble_eq_true rfl, Nat.le_of_ble_eq_true rfl⟩) hS (fun r38 u39 H locs p_40 hG hS => ?_)
        obtain ⟨⟨b41, rfl, q_42⟩, he_⟩ := p_40
        rw [he_] at hG; clear he_
        have hbb41 : 0 ≤ b41 ∧ b41 ≤ 1 := by rcases q_42 with ⟨h, _⟩ | ⟨h, _⟩ <;> omega
        refine z_if_ne (tgt := 32) hx hb dX11_ends_27 (by decide) (by omega) (by omega) (fun c_43 => ?_) (fun c_43 => ?_)
        · refine lv_aload_n hx hb dX11_ends_32 rfl (lv_at hl 1 rfl) ?_
          refine g_get (C := RX11) (T := TX11) (N := 14) (ci := 10) hx hb hts (fun _ h => (List.mem_cons_of_mem _ (List.mem_append_left _ (List.mem_append_left _ (List.mem_append_left _ (List.mem_append_left _ (List.mem_append_left _ (List.mem_append_left _ (List.mem_append_right _ h))))))))) hown hC.1 hG 0 (by decide) rfl rfl 0 (by decide) (hts (.fieldLink RX11 10 "StraitSwim" "strait" "LStraitSwim$Strait;") (List.mem_cons_of_mem _ (List.mem_append_left _ (List.mem_append_left _ (List.mem_append_left _ (List.mem_append_left _ (List.mem_append_left _ (List.mem_append_left _ (List.mem_append_left _ (List.mem_append_left _ (List.mem_of_getElem? (i := 0) rfl))))))))))) (fun _ h9 => h9) rfl dX11_ends_33 ?_
          refine lv_iload_n hx hb dX11_ends_36 rfl (lv_at hl 3 rfl) ?_
          refine lv_iload_n hx hb dX11_ends_37 rfl (lv_at hl 4 rfl) ?_
          refine g_calli (va_runV (As := [.int (zI p2), .int (zI p3)]) (rest := []) ⟨hx, hb, hml, hown, hts⟩ (kX8_isDry l D cy ad jf A u p2 p3 (by omega) (by omega) hd) (cwV 2 hts gX11_ends_X8_isDry rfl rfl rfl (by decide +kernel) ⟨by decide, by decide⟩) (g_preV (C := RX8) hG hC hS 1 (by decide) rfl rfl) rfl rfl hl.1 rfl (lv_room (Nat.le_of_ble_eq_true rfl)) dX11_ends_38 ⟨Nat.le_of_ble_eq_true rfl, Nat.le_of_ble_eq_true rfl⟩) hS (fun r44 u45 H locs p_46 hG hS => ?_)
          obtain ⟨rfl, he_⟩ := p_46
          rw [he_] at hG; clear he_
          obtain ⟨z48, hz48⟩ : ∃ z : Int, z = spDry (u.2.1 9) p2 p3 := ⟨_, rfl⟩
          rw [← hz48]
          have q_47 : z48 = 0 ∨ z48 = 1 := by rw [hz48]; exact hd _ (by omega)
          refine z_if_eq (tgt := 47) hx hb dX11_ends_41 (by decide) (by omega) (by omega) (fun c_49 => ?_) (fun c_49 => ?_)
          · refine lv_aload_n hx hb dX11_ends_47 rfl (lv_at hl 1 rfl) ?_
            refine g_get (C := RX11) (T := TX11) (N := 14) (ci := 10) hx hb hts (fun _ h => (List.mem_cons_of_mem _ (List.mem_append_left _ (List.mem_append_left _ (List.mem_append_left _ (List.mem_append_left _ (List.mem_append_left _ (List.mem_append_left _ (List.mem_append_right _ h))))))))) hown hC.1 hG 0 (by decide) rfl rfl 6 (by decide) (hts (.fieldLink RX11 39 "StraitSwim" "trial" "LStraitSwim$Swim;") (List.mem_cons_of_mem _ (List.mem_append_left _ (List.mem_append_left _ (List.mem_append_left _ (List.mem_append_left _ (List.mem_append_left _ (List.mem_append_left _ (List.mem_append_left _ (List.mem_append_left _ (List.mem_of_getElem? (i := 1) rfl))))))))))) (fun _ h9 => h9) rfl dX11_ends_48 ?_
            refine lv_aload hx hb dX11_ends_51 (lv_at hl 0 rfl) ?_
            refine lv_aload_n hx hb dX11_ends_53 rfl (lv_at hl 1 rfl) ?_
            refine g_get (C := RX11) (T := TX11) (N := 14) (ci := 10) hx hb hts (fun _ h => (List.mem_cons_of_mem _ (List.mem_append_left _ (List.mem_append_left _ (List.mem_append_left _ (List.mem_append_left _ (List.mem_append_left _ (List.mem_append_left _ (List.mem_append_right _ h))))))))) hown hC.1 hG 0 (by decide) rfl rfl 3 (by decide) (hts (.fieldLink RX11 26 "StraitSwim" "chill" "I") (List.mem_cons_of_mem _ (List.mem_append_left _ (List.mem_append_left _ (List.mem_append_left _ (List.mem_append_left _ (List.mem_append_left _ (List.mem_append_left _ (List.mem_append_left _ (List.mem_append_left _ (List.mem_of_getElem? (i := 2) rfl))))))))))) (fun _ h9 => h9) rfl dX11_ends_54 ?_
            refine g_callv (va_runV (As := [.ref a, .int (zI (u.1 1))]) (rest := []) ⟨hx, hb, hml, hown, hts⟩ (kX9_ready_3_X0 l D cy ad jf A u a ((p1.toNat : Int)) (S9 p1.toNat) (L9 p1.toNat) (F9 p1.toNat) (u.1 1) ha hE (by omega) (by omega) (by omega) (by omega) hrd.2.2.2.2) (cwV 2 hts gX11_ends_X9_ready rfl rfl rfl (by decide +kernel) ⟨by decide, by decide⟩) (g_preV (C := RX9) hG hC hS 3 (by decide) rfl rfl) rfl rfl hl.1 rfl (lv_room (Nat.le_of_ble_eq_true rfl)) dX11_ends_57 ⟨Nat.le_of_ble_eq_true rfl, Nat.le_of_ble_eq_true rfl⟩) hS (fun u51 H locs p_52 hG hS => ?_)
            obtain ⟨⟨r1_, r2_, r3_, r4_, r5_⟩, rk_, ri_, rr_⟩ := cReady_inv (u := u) (sd := 19) (cl := 20) (nu := 10) (rc := 13) (tc := 14) (by decide) (by decide) (K := 1) (nm := (p1.toNat : Int)) (sp := S9 p1.toNat) (li := L9 p1.toNat) (fd := F9 p1.toNat) (ch := u.1 1) (by omega) (by omega) (by omega) hrd
            rw [← p_52] at r1_ r2_ r3_ r4_ r5_ rk_ ri_ rr_
            have hd2 : ∀ j, j < 288 → u51.2.1 9 j = 0 ∨ u51.2.1 9 j = 1 := by rw [rk_ 9 (by decide)]; exact hd
            have i10b : ∀ j, j < 36 → -9 ≤ u51.2.1 10 j ∧ u51.2.1 10 j ≤ 9 := by rw [rk_ 10 (by decide)]; exact i10
            have i11b : ∀ j, j < 36 → -9 ≤ u51.2.1 11 j ∧ u51.2.1 11 j ≤ 9 := by rw [rk_ 11 (by decide)]; exact i11
            have hI : cI u51 := ⟨⟨r1_, r2_, r3_, r4_, r5_⟩, hd2, i10b, i11b⟩
            refine z_iconst hx hb dX11_ends_60 ?_
            refine lv_istore (lv' := [(6, .int (zI 0)), (5, .ref a), (0, .ref (ad 0)), (1, .int (zI p1)), (2, .int (zI p2)), (3, .int (zI p3)), (4, .int (zI p4))]) hx hb dX11_ends_61 hl (by decide) rfl (fun ls hl => ?_)
            refine z_iconst hx hb dX11_ends_63 ?_
            refine lv_istore (lv' := [(7, .int (zI 0)), (6, .int (zI 0)), (5, .ref a), (0, .ref (ad 0)), (1, .int (zI p1)), (2, .int (zI p2)), (3, .int (zI p3)), (4, .int (zI p4))]) hx hb dX11_ends_64 hl (by decide) rfl (fun ls hl => ?_)
            have loop66 : ∀ (n : Nat) (q k : Int) (w : gS) (H : Heap) (locs : List Loc) (ls : Array Slot), (48 - q).toNat < n → (0 ≤ q ∧ q ≤ 48) → (cI w) → (cEndsO p2 p3 p4 49 0 0 u51 = cEndsO p2 p3 p4 n q k w) → gH D cy ad jf A w H → va_S A s.heap H locs → lv_has ls 9 [(7, .int (zI q)), (6, .int (zI k)), (5, .ref a), (0, .ref (ad 0)), (1, .int (zI p1)), (2, .int (zI p2)), (3, .int (zI p3)), (4, .int (zI p4))] → W p l e (headSpec wsX11_ends ({ frames := 5, cells := 0, slots := 0, locals := 120 })).room s m ([.ref (ad 0), .int (zI p1), .int (zI p2), .int (zI p3), .int (zI p4)]).toArray below meth c H locs 0 0 (MQ below (va_Qi (fun (r : Int32) (v : gS) => r = zI (cEnds u K S9 L9 F9 p1 p2 p3 p4).1 ∧ v = (cEnds u K S9 L9 F9 p1 p2 p3 p4).2) (gB D cy ad jf A) A) ([.ref (ad 0), .int (zI p1), .int (zI p2), .int (zI p3), .int (zI p4)]).toArray s 0 0 A) (F0 m 66 ls []) := by
              intro n
              induction n with
              | zero => intro q k w H locs ls hm; exact absurd hm (Nat.not_lt_zero _)
              | succ n ih66 =>
                intro q k w H locs ls hm hq9 hI hT hG hS hl
                refine lv_iload hx hb dX11_ends_66 (lv_at hl 0 rfl) ?_
                refine z_bipush hx hb dX11_ends_68 (by decide) ?_
                refine z_icmp_ge (tgt := 120) hx hb dX11_ends_70 (by decide) (by omega) (by omega) (by omega) (by omega) (fun c_53 => ?_) (fun c_53 => ?_)
                · refine lv_iload hx hb dX11_ends_120 (lv_at hl 1 rfl) ?_
                  exact W.iret (v := zI k) hx hb hr (fun t9 ht9_ hW => ⟨⟨zI k, w, rfl, (by unfold cEnds; rw [if_pos (by omega), if_pos (by omega)]; unfold cRdT; rw [hk0, ← p_52, hT, cEndsO, if_neg (by omega)]; exact ⟨rfl, rfl⟩), gB.mk' hG hC hS ht9_ hW⟩, hS.F ht9_⟩) hS.2.2 dX11_ends_122
                · refine z_iconst hx hb dX11_ends_73 ?_
                  refine lv_istore (lv' := [(8, .int (zI 0)), (7, .int (zI q)), (6, .int (zI k)), (5, .ref a), (0, .ref (ad 0)), (1, .int (zI p1)), (2, .int (zI p2)), (3, .int (zI p3)), (4, .int (zI p4))]) hx hb dX11_ends_74 hl (by decide) rfl (fun ls hl => ?_)
                  have loop76 : ∀ (n : Nat) (b k2 : Int) (w2 : gS) (H : Heap) (locs : List Loc) (ls : Array Slot), (8 - b).toNat < n → (0 ≤ b ∧ b ≤ 8) → (cI w2) → (cEndsI p2 p3 p4 q 9 0 k w = cEndsI p2 p3 p4 q n b k2 w2) → gH D cy ad jf A w2 H → va_S A s.heap H locs → lv_has ls 9 [(8, .int (zI b)), (7, .int (zI q)), (6, .int (zI k2)), (5, .ref a), (0, .ref (ad 0)), (1, .int (zI p1)), (2, .int (zI p2)), (3, .int (zI p3)), (4, .int (zI p4))] → W p l e (headSpec wsX11_ends ({ frames := 5, cells := 0, slots := 0, locals := 120 })).room s m ([.ref (ad 0), .int (zI p1), .int (zI p2), .int (zI p3), .int (zI p4)]).toArray below meth c H locs 0 0 (MQ below (va_Qi (fun (r : Int32) (v : gS) => r = zI (cEnds u K S9 L9 F9 p1 p2 p3 p4).1 ∧ v = (cEnds u K S9 L9 F9 p1 p2 p3 p4).2) (gB D cy ad jf A) A) ([.ref (ad 0), .int (zI p1), .int (zI p2), .int (zI p3), .int (zI p4)]).toArray s 0 0 A) (F0 m 76 ls []) := by
                    intro n
                    induction n with
                    | zero => intro b k2 w2 H locs ls hm; exact absurd hm (Nat.not_lt_zero _)
                    | succ n ih76 =>
                      intro b k2 w2 H locs ls hm hb9 hI2 hT2 hG hS hl
                      obtain ⟨⟨r1_, r2_, r3_, r4_, r5_⟩, hd2, i10b, i11b⟩ := id hI2
                      refine lv_iload hx hb dX11_ends_76 (lv_at hl 0 rfl) ?_
                      refine z_bipush hx hb dX11_ends_78 (by decide) ?_
                      refine z_icmp_ge (tgt := 114) hx hb dX11_ends_80 (by decide) (by omega) (by omega) (by omega) (by omega) (fun c_54 => ?_) (fun c_54 => ?_)
                      · refine z_iinc (lv' := [(7, .int (zI (q + 1))), (8, .int (zI b)), (6, .int (zI k2)), (5, .ref a), (0, .ref (ad 0)), (1, .int (zI p1)), (2, .int (zI p2)), (3, .int (zI p3)), (4, .int (zI p4))]) hx hb dX11_ends_114 hl (k := 1) rfl (by decide) rfl (fun ls hl => ?_)
                        refine lv_goto (tgt := 66) hx hb dX11_ends_117 (by decide) ?_
                        exact ih66 (q + 1) k2 w2 _ _ _ (by omega) (by omega) (by exact hI2) (by have hE8 : cEndsI p2 p3 p4 q 9 0 k w = (k2, w2) := (by rw [hT2, cEndsI, if_neg (by omega)]); rw [hT, cEndsO, if_pos (by omega), hE8]) hG hS (lv_sub hl [0, 2, 3, 4, 5, 6, 7, 8] rfl)
                      · refine lv_aload_n hx hb dX11_ends_83 rfl (lv_at hl 4 rfl) ?_
                        refine g_get (C := RX11) (T := TX11) (N := 14) (ci := 10) hx hb hts (fun _ h => (List.mem_cons_of_mem _ (List.mem_append_left _ (List.mem_append_left _ (List.mem_append_left _ (List.mem_append_left _ (List.mem_append_left _ (List.mem_append_left _ (List.mem_append_right _ h))))))))) hown hC.1 hG 0 (by decide) rfl rfl 6 (by decide) (hts (.fieldLink RX11 39 "StraitSwim" "trial" "LStraitSwim$Swim;") (List.mem_cons_of_mem _ (List.mem_append_left _ (List.mem_append_left _ (List.mem_append_left _ (List.mem_append_left _ (List.mem_append_left _ (List.mem_append_left _ (List.mem_append_left _ (List.mem_append_left _ (List.mem_of_getElem? (i := 1) rfl))))))))))) (fun _ h9 => h9) rfl dX11_ends_84 ?_
                        refine lv_aload_n hx hb dX11_ends_87 rfl (lv_at hl 4 rfl) ?_
                        refine g_get (C := RX11) (T := TX11) (N := 14) (ci := 10) hx hb hts (fun _ h => (List.mem_cons_of_mem _ (List.mem_append_left _ (List.mem_append_left _ (List.mem_append_left _ (List.mem_append_left _ (List.mem_append_left _ (List.mem_append_left _ (List.mem_append_right _ h))))))))) hown hC.1 hG 0 (by decide) rfl rfl 0 (by decide) (hts (.fieldLink RX11 10 "StraitSwim" "strait" "LStraitSwim$Strait;") (List.mem_cons_of_mem _ (List.mem_append_left _ (List.mem_append_left _ (List.mem_append_left _ (List.mem_append_left _ (List.mem_append_left _ (List.mem_append_left _ (List.mem_append_left _ (List.mem_append_left _ (List.mem_of_getElem? (i := 0) rfl))))))))))) (fun _ h9 => h9) rfl dX11_ends_88 ?_
                        refine lv_iload_n hx hb dX11_ends_91 rfl (lv_at hl 6 rfl) ?_
                        refine lv_iload_n hx hb dX11_ends_92 rfl (lv_at hl 7 rfl) ?_
                        refine lv_iload hx hb dX11_ends_93 (lv_at hl 1 rfl) ?_
                        refine lv_iload hx hb dX11_ends_95 (lv_at hl 0 rfl) ?_
                        refine g_calli (va_runV (As := [.ref (ad 1), .int (zI p2), .int (zI p3), .int (zI q), .int (zI b)]) (rest := []) ⟨hx, hb, hml, hown, hts⟩ (kX9_cross_3 l D cy ad jf A w2 p2 p3 q b (by omega) (by omega) (by omega) (by omega) i10b i11b r1_ r2_ hd2 r3_ r4_) (cwV 5 hts gX11_ends_X9_cross rfl rfl rfl (by decide +kernel) ⟨by decide, by decide⟩) (g_preV (C := RX9) hG hC hS 3 (by decide) rfl rfl) rfl rfl hl.1 rfl (lv_room (Nat.le_of_ble_eq_true rfl)) dX11_ends_97 ⟨Nat.le_of_ble_eq_true rfl, Nat.le_of_ble_eq_true rfl⟩) hS (fun r55 u56 H locs p_57 hG hS => ?_)
                        obtain ⟨rfl, hu56⟩ := p_57
                        obtain ⟨z58, hz58⟩ : ∃ z : Int, z = (cCross w2 17 18 19 20 11 12 13 14 p2 p3 q b).1 := ⟨_, rfl⟩
                        rw [← hz58]
                        have qc_ := cCross_res w2 p2 p3 q b hI2
                        rw [← hz58, ← hu56] at qc_
                        have hI3 : cI u56 := by rw [hu56]; exact cI_cross p2 p3 q b hI2
                        refine lv_iload hx hb dX11_ends_100 (lv_at hl 8 rfl) ?_
                        refine z_icmp_ne (tgt := 108) hx hb dX11_ends_102 (by decide) (by omega) (by omega) (by omega) (by omega) (fun c_59 => ?_) (fun c_59 => ?_)
                        · refine z_iinc (lv' := [(8, .int (zI (b + 1))), (7, .int (zI q)), (6, .int (zI k2)), (5, .ref a), (0, .ref (ad 0)), (1, .int (zI p1)), (2, .int (zI p2)), (3, .int (zI p3)), (4, .int (zI p4))]) hx hb dX11_ends_108 hl (k := 0) rfl (by decide) rfl (fun ls hl => ?_)
                          refine lv_goto (tgt := 76) hx hb dX11_ends_111 (by decide) ?_
                          exact ih76 (b + 1) k2 u56 _ _ _ (by omega) (by omega) (by exact hI3) (by rw [hT2, cEndsI, if_pos (by omega)]; simp only [← hz58, ← hu56]; (repeat (first | rw [if_pos (by omega)] | rw [if_neg (by omega)]))) hG hS (lv_sub hl [0, 1, 2, 3, 4, 5, 6, 7, 8] rfl)
                        · refine z_iinc (lv' := [(6, .int (zI (k2 + 1))), (8, .int (zI b)), (7, .int (zI q)), (5, .ref a), (0, .ref (ad 0)), (1, .int (zI p1)), (2, .int (zI p2)), (3, .int (zI p3)), (4, .int (zI p4))]) hx hb dX11_ends_105 hl (k := 2) rfl (by decide) rfl (fun ls hl => ?_)
                          refine z_iinc (lv' := [(8, .int (zI (b + 1))), (6, .int (zI (k2 + 1))), (7, .int (zI q)), (5, .ref a), (0, .ref (ad 0)), (1, .int (zI p1)), (2, .int (zI p2)), (3, .int (zI p3)), (4, .int (zI p4))]) hx hb dX11_ends_108 hl (k := 1) rfl (by decide) rfl (fun ls hl => ?_)
                          refine lv_goto (tgt := 76) hx hb dX11_ends_111 (by decide) ?_
                          exact ih76 (b + 1) (k2 + 1) u56 _ _ _ (by omega) (by omega) (by exact hI3) (by rw [hT2, cEndsI, if_pos (by omega)]; simp only [← hz58, ← hu56]; (repeat (first | rw [if_pos (by omega)] | rw [if_neg (by omega)]))) hG hS (lv_sub hl [0, 2, 1, 3, 4, 5, 6, 7, 8] rfl)
                  exact loop76 9 0 k w _ _ _ (by omega) (by omega) (by exact hI) (by rfl) hG hS (lv_sub hl [0, 1, 2, 3, 4, 5, 6, 7, 8] rfl)
            exact loop66 49 0 0 u51 _ _ _ (by omega) (by omega) (by exact hI) (by rfl) hG hS (lv_sub hl [0, 1, 2, 3, 4, 5, 6, 7] rfl)
          · refine z_bipush hx hb dX11_ends_44 (by decide) ?_
            exact W.iret (v := zI ((-4))) hx hb hr (fun t9 ht9_ hW => ⟨⟨zI ((-4)), u, rfl, (by unfold cEnds; (first | (rw [if_neg (by omega)]; exact ⟨rfl, rfl⟩) | (rw [if_pos (by omega), if_neg (by omega)]; exact ⟨rfl, rfl⟩))), gB.mk' hG hC hS ht9_ hW⟩, hS.F ht9_⟩) hS.2.2 dX11_ends_46
        · refine z_iconst hx hb dX11_ends_30 ?_
          exact W.iret (v := zI ((-1))) hx hb hr (fun t9 ht9_ hW => ⟨⟨zI ((-1)), u, rfl, (by unfold cEnds; (first | (rw [if_neg (by omega)]; exact ⟨rfl, rfl⟩) | (rw [if_pos (by omega), if_neg (by omega)]; exact ⟨rfl, rfl⟩))), gB.mk' hG hC hS ht9_ hW⟩, hS.F ht9_⟩) hS.2.2 dX11_ends_31
    · have hE : u.2.2.2.2 a = .inr (3, [.int (zI (p1.toNat : Int)), .int (zI (S9 p1.toNat)), .int (zI (L9 p1.toNat)), .int (zI (F9 p1.toNat))]) := by rw [hE0, hk0]; rfl
      simp only [va_rf]
      refine lv_astore (lv' := [(5, .ref a), (0, .ref (ad 0)), (1, .int (zI p1)), (2, .int (zI p2)), (3, .int (zI p3)), (4, .int (zI p4))]) hx hb dX11_ends_5 hl (by decide) rfl (fun ls hl => ?_)
      refine lv_aload hx hb dX11_ends_7 (lv_at hl 0 rfl) ?_
      refine lv_ifnull hx hb dX11_ends_9 ?_
      refine lv_iload_n hx hb dX11_ends_12 rfl (lv_at hl 3 rfl) ?_
      refine lv_iload_n hx hb dX11_ends_13 rfl (lv_at hl 4 rfl) ?_
      refine g_calli (va_runS (As := [.int (zI p2), .int (zI p3)]) (rest := []) ⟨hx, hb, hml, hown, hts⟩ (kX11_isPlace l D cy ad jf A u p2 p3 (by omega) (by omega)) (va_cwS 2 hts gX11_ends_X11_isPlace rfl rfl rfl (by decide +kernel) ⟨by decide, by decide⟩) (g_preS hG hC hS) rfl rfl hl.1 rfl (lv_room (Nat.le_of_ble_eq_true rfl)) dX11_ends_14 ⟨Nat.le_of_ble_eq_true rfl, Nat.le_of_ble_eq_true rfl⟩) hS (fun r60 u61 H locs p_62 hG hS => ?_)
      obtain ⟨⟨b63, rfl, q_64⟩, he_⟩ := p_62
      rw [he_] at hG; clear he_
      have hbb63 : 0 ≤ b63 ∧ b63 ≤ 1 := by rcases q_64 with ⟨h, _⟩ | ⟨h, _⟩ <;> omega
      refine z_if_eq (tgt := 30) hx hb dX11_ends_17 (by decide) (by omega) (by omega) (fun c_65 => ?_) (fun c_65 => ?_)
      · refine z_iconst hx hb dX11_ends_30 ?_
        exact W.iret (v := zI ((-1))) hx hb hr (fun t9 ht9_ hW => ⟨⟨zI ((-1)), u, rfl, (by unfold cEnds; (first | (rw [if_neg (by omega)]; exact ⟨rfl, rfl⟩) | (rw [if_pos (by omega), if_neg (by omega)]; exact ⟨rfl, rfl⟩))), gB.mk' hG hC hS ht9_ hW⟩, hS.F ht9_⟩) hS.2.2 dX11_ends_31
      · refine lv_iload hx hb dX11_ends_20 (lv_at hl 5 rfl) ?_
        refine z_iconst hx hb dX11_ends_22 ?_
        refine z_iconst hx hb dX11_ends_23 ?_
        refine g_calli (va_runS (As := [.int (zI p4), .int (zI 0), .int (zI 3)]) (rest := []) ⟨hx, hb, hml, hown, hts⟩ (kX11_isWithin l D cy ad jf A u p4 0 3 (by omega) (by omega) (by omega)) (va_cwS 3 hts gX11_ends_X11_isWithin rfl rfl rfl (by decide +kernel) ⟨by decide, by decide⟩) (g_preS hG hC hS) rfl rfl hl.1 rfl (lv_room (Nat.le_of_ble_eq_true rfl)) dX11_ends_24 ⟨Nat.le_of_ble_eq_true rfl, Nat.le_of_ble_eq_true rfl⟩) hS (fun r66 u67 H locs p_68 hG hS => ?_)
        obtain ⟨⟨b69, rfl, q_70⟩, he_⟩ := p_68
        rw [he_] at hG; clear he_
        have hbb69 : 0 ≤ b69 ∧ b69 ≤ 1 := by rcases q_70 with ⟨h, _⟩ | ⟨h, _⟩ <;> omega
        refine z_if_ne (tgt := 32) hx hb dX11_ends_27 (by decide) (by omega) (by omega) (fun c_71 => ?_) (fun c_71 => ?_)
        · refine lv_aload_n hx hb dX11_ends_32 rfl (lv_at hl 1 rfl) ?_
          refine g_get (C := RX11) (T := TX11) (N := 14) (ci := 10) hx hb hts (fun _ h => (List.mem_cons_of_mem _ (List.mem_append_left _ (List.mem_append_left _ (List.mem_append_left _ (List.mem_append_left _ (List.mem_append_left _ (List.mem_append_left _ (List.mem_append_right _ h))))))))) hown hC.1 hG 0 (by decide) rfl rfl 0 (by decide) (hts (.fieldLink RX11 10 "StraitSwim" "strait" "LStraitSwim$Strait;") (List.mem_cons_of_mem _ (List.mem_append_left _ (List.mem_append_left _ (List.mem_append_left _ (List.mem_append_left _ (List.mem_append_left _ (List.mem_append_left _ (List.mem_append_left _ (List.mem_append_left _ (List.mem_of_getElem? (i := 0) rfl))))))))))) (fun _ h9 => h9) rfl dX11_ends_33 ?_
          refine lv_iload_n hx hb dX11_ends_36 rfl (lv_at hl 3 rfl) ?_
          refine lv_iload_n hx hb dX11_ends_37 rfl (lv_at hl 4 rfl) ?_
          refine g_calli (va_runV (As := [.int (zI p2), .int (zI p3)]) (rest := []) ⟨hx, hb, hml, hown, hts⟩ (kX8_isDry l D cy ad jf A u p2 p3 (by omega) (by omega) hd) (cwV 2 hts gX11_ends_X8_isDry rfl rfl rfl (by decide +kernel) ⟨by decide, by decide⟩) (g_preV (C := RX8) hG hC hS 1 (by decide) rfl rfl) rfl rfl hl.1 rfl (lv_room (Nat.le_of_ble_eq_true rfl)) dX11_ends_38 ⟨Nat.le_of_ble_eq_true rfl, Nat.le_of_ble_eq_true rfl⟩) hS (fun r72 u73 H locs p_74 hG hS => ?_)
          obtain ⟨rfl, he_⟩ := p_74
          rw [he_] at hG; clear he_
          obtain ⟨z76, hz76⟩ : ∃ z : Int, z = spDry (u.2.1 9) p2 p3 := ⟨_, rfl⟩
          rw [← hz76]
          have q_75 : z76 = 0 ∨ z76 = 1 := by rw [hz76]; exact hd _ (by omega)
          refine z_if_eq (tgt := 47) hx hb dX11_ends_41 (by decide) (by omega) (by omega) (fun c_77 => ?_) (fun c_77 => ?_)
          · refine lv_aload_n hx hb dX11_ends_47 rfl (lv_at hl 1 rfl) ?_
            refine g_get (C := RX11) (T := TX11) (N := 14) (ci := 10) hx hb hts (fun _ h => (List.mem_cons_of_mem _ (List.mem_append_left _ (List.mem_append_left _ (List.mem_append_left _ (List.mem_append_left _ (List.mem_append_left _ (List.mem_append_left _ (List.mem_append_right _ h))))))))) hown hC.1 hG 0 (by decide) rfl rfl 6 (by decide) (hts (.fieldLink RX11 39 "StraitSwim" "trial" "LStraitSwim$Swim;") (List.mem_cons_of_mem _ (List.mem_append_left _ (List.mem_append_left _ (List.mem_append_left _ (List.mem_append_left _ (List.mem_append_left _ (List.mem_append_left _ (List.mem_append_left _ (List.mem_append_left _ (List.mem_of_getElem? (i := 1) rfl))))))))))) (fun _ h9 => h9) rfl dX11_ends_48 ?_
            refine lv_aload hx hb dX11_ends_51 (lv_at hl 0 rfl) ?_
            refine lv_aload_n hx hb dX11_ends_53 rfl (lv_at hl 1 rfl) ?_
            refine g_get (C := RX11) (T := TX11) (N := 14) (ci := 10) hx hb hts (fun _ h => (List.mem_cons_of_mem _ (List.mem_append_left _ (List.mem_append_left _ (List.mem_append_left _ (List.mem_append_left _ (List.mem_append_left _ (List.mem_append_left _ (List.mem_append_right _ h))))))))) hown hC.1 hG 0 (by decide) rfl rfl 3 (by decide) (hts (.fieldLink RX11 26 "StraitSwim" "chill" "I") (List.mem_cons_of_mem _ (List.mem_append_left _ (List.mem_append_left _ (List.mem_append_left _ (List.mem_append_left _ (List.mem_append_left _ (List.mem_append_left _ (List.mem_append_left _ (List.mem_append_left _ (List.mem_of_getElem? (i := 2) rfl))))))))))) (fun _ h9 => h9) rfl dX11_ends_54 ?_
            refine g_callv (va_runV (As := [.ref a, .int (zI (u.1 1))]) (rest := []) ⟨hx, hb, hml, hown, hts⟩ (kX9_ready_3_X4 l D cy ad jf A u a ((p1.toNat : Int)) (S9 p1.toNat) (L9 p1.toNat) (F9 p1.toNat) (u.1 1) ha hE (by omega) (by omega) (by omega) (by omega) hrd.2.2.2.2) (cwV 2 hts gX11_ends_X9_ready rfl rfl rfl (by decide +kernel) ⟨by decide, by decide⟩) (g_preV (C := RX9) hG hC hS 3 (by decide) rfl rfl) rfl rfl hl.1 rfl (lv_room (Nat.le_of_ble_eq_true rfl)) dX11_ends_57 ⟨Nat.le_of_ble_eq_true rfl, Nat.le_of_ble_eq_true rfl⟩) hS (fun u79 H locs p_80 hG hS => ?_)
            obtain ⟨⟨r1_, r2_, r3_, r4_, r5_⟩, rk_, ri_, rr_⟩ := cReady_inv (u := u) (sd := 19) (cl := 20) (nu := 10) (rc := 13) (tc := 14) (by decide) (by decide) (K := 2) (nm := (p1.toNat : Int)) (sp := S9 p1.toNat) (li := L9 p1.toNat) (fd := F9 p1.toNat) (ch := u.1 1) (by omega) (by omega) (by omega) hrd
            rw [← p_80] at r1_ r2_ r3_ r4_ r5_ rk_ ri_ rr_
            have hd2 : ∀ j, j < 288 → u79.2.1 9 j = 0 ∨ u79.2.1 9 j = 1 := by rw [rk_ 9 (by decide)]; exact hd
            have i10b : ∀ j, j < 36 → -9 ≤ u79.2.1 10 j ∧ u79.2.1 10 j ≤ 9 := by rw [rk_ 10 (by decide)]; exact i10
            have i11b : ∀ j, j < 36 → -9 ≤ u79.2.1 11 j ∧ u79.2.1 11 j ≤ 9 := by rw [rk_ 11 (by decide)]; exact i11
            have hI : cI u79 := ⟨⟨r1_, r2_, r3_, r4_, r5_⟩, hd2, i10b, i11b⟩
            refine z_iconst hx hb dX11_ends_60 ?_
            refine lv_istore (lv' := [(6, .int (zI 0)), (5, .ref a), (0, .ref (ad 0)), (1, .int (zI p1)), (2, .int (zI p2)), (3, .int (zI p3)), (4, .int (zI p4))]) hx hb dX11_ends_61 hl (by decide) rfl (fun ls hl => ?_)
            refine z_iconst hx hb dX11_ends_63 ?_
            refine lv_istore (lv' := [(7, .int (zI 0)), (6, .int (zI 0)), (5, .ref a), (0, .ref (ad 0)), (1, .int (zI p1)), (2, .int (zI p2)), (3, .int (zI p3)), (4, .int (zI p4))]) hx hb dX11_ends_64 hl (by decide) rfl (fun ls hl => ?_)
            have loop66 : ∀ (n : Nat) (q k : Int) (w : gS) (H : Heap) (locs : List Loc) (ls : Array Slot), (48 - q).toNat < n → (0 ≤ q ∧ q ≤ 48) → (cI w) → (cEndsO p2 p3 p4 49 0 0 u79 = cEndsO p2 p3 p4 n q k w) → gH D cy ad jf A w H → va_S A s.heap H locs → lv_has ls 9 [(7, .int (zI q)), (6, .int (zI k)), (5, .ref a), (0, .ref (ad 0)), (1, .int (zI p1)), (2, .int (zI p2)), (3, .int (zI p3)), (4, .int (zI p4))] → W p l e (headSpec wsX11_ends ({ frames := 5, cells := 0, slots := 0, locals := 120 })).room s m ([.ref (ad 0), .int (zI p1), .int (zI p2), .int (zI p3), .int (zI p4)]).toArray below meth c H locs 0 0 (MQ below (va_Qi (fun (r : Int32) (v : gS) => r = zI (cEnds u K S9 L9 F9 p1 p2 p3 p4).1 ∧ v = (cEnds u K S9 L9 F9 p1 p2 p3 p4).2) (gB D cy ad jf A) A) ([.ref (ad 0), .int (zI p1), .int (zI p2), .int (zI p3), .int (zI p4)]).toArray s 0 0 A) (F0 m 66 ls []) := by
              intro n
              induction n with
              | zero => intro q k w H locs ls hm; exact absurd hm (Nat.not_lt_zero _)
              | succ n ih66 =>
                intro q k w H locs ls hm hq9 hI hT hG hS hl
                refine lv_iload hx hb dX11_ends_66 (lv_at hl 0 rfl) ?_
                refine z_bipush hx hb dX11_ends_68 (by decide) ?_
                refine z_icmp_ge (tgt := 120) hx hb dX11_ends_70 (by decide) (by omega) (by omega) (by omega) (by omega) (fun c_81 => ?_) (fun c_81 => ?_)
                · refine lv_iload hx hb dX11_ends_120 (lv_at hl 1 rfl) ?_
                  exact W.iret (v := zI k) hx hb hr (fun t9 ht9_ hW => ⟨⟨zI k, w, rfl, (by unfold cEnds; rw [if_pos (by omega), if_pos (by omega)]; unfold cRdT; rw [hk0, ← p_80, hT, cEndsO, if_neg (by omega)]; exact ⟨rfl, rfl⟩), gB.mk' hG hC hS ht9_ hW⟩, hS.F ht9_⟩) hS.2.2 dX11_ends_122
                · refine z_iconst hx hb dX11_ends_73 ?_
                  refine lv_istore (lv' := [(8, .int (zI 0)), (7, .int (zI q)), (6, .int (zI k)), (5, .ref a), (0, .ref (ad 0)), (1, .int (zI p1)), (2, .int (zI p2)), (3, .int (zI p3)), (4, .int (zI p4))]) hx hb dX11_ends_74 hl (by decide) rfl (fun ls hl => ?_)
                  have loop76 : ∀ (n : Nat) (b k2 : Int) (w2 : gS) (H : Heap) (locs : List Loc) (ls : Array Slot), (8 - b).toNat < n → (0 ≤ b ∧ b ≤ 8) → (cI w2) → (cEndsI p2 p3 p4 q 9 0 k w = cEndsI p2 p3 p4 q n b k2 w2) → gH D cy ad jf A w2 H → va_S A s.heap H locs → lv_has ls 9 [(8, .int (zI b)), (7, .int (zI q)), (6, .int (zI k2)), (5, .ref a), (0, .ref (ad 0)), (1, .int (zI p1)), (2, .int (zI p2)), (3, .int (zI p3)), (4, .int (zI p4))] → W p l e (headSpec wsX11_ends ({ frames := 5, cells := 0, slots := 0, locals := 120 })).room s m ([.ref (ad 0), .int (zI p1), .int (zI p2), .int (zI p3), .int (zI p4)]).toArray below meth c H locs 0 0 (MQ below (va_Qi (fun (r : Int32) (v : gS) => r = zI (cEnds u K S9 L9 F9 p1 p2 p3 p4).1 ∧ v = (cEnds u K S9 L9 F9 p1 p2 p3 p4).2) (gB D cy ad jf A) A) ([.ref (ad 0), .int (zI p1), .int (zI p2), .int (zI p3), .int (zI p4)]).toArray s 0 0 A) (F0 m 76 ls []) := by
                    intro n
                    induction n with
                    | zero => intro b k2 w2 H locs ls hm; exact absurd hm (Nat.not_lt_zero _)
                    | succ n ih76 =>
                      intro b k2 w2 H locs ls hm hb9 hI2 hT2 hG hS hl
                      obtain ⟨⟨r1_, r2_, r3_, r4_, r5_⟩, hd2, i10b, i11b⟩ := id hI2
                      refine lv_iload hx hb dX11_ends_76 (lv_at hl 0 rfl) ?_
                      refine z_bipush hx hb dX11_ends_78 (by decide) ?_
                      refine z_icmp_ge (tgt := 114) hx hb dX11_ends_80 (by decide) (by omega) (by omega) (by omega) (by omega) (fun c_82 => ?_) (fun c_82 => ?_)
                      · refine z_iinc (lv' := [(7, .int (zI (q + 1))), (8, .int (zI b)), (6, .int (zI k2)), (5, .ref a), (0, .ref (ad 0)), (1, .int (zI p1)), (2, .int (zI p2)), (3, .int (zI p3)), (4, .int (zI p4))]) hx hb dX11_ends_114 hl (k := 1) rfl (by decide) rfl (fun ls hl => ?_)
                        refine lv_goto (tgt := 66) hx hb dX11_ends_117 (by decide) ?_
                        exact ih66 (q + 1) k2 w2 _ _ _ (by omega) (by omega) (by exact hI2) (by have hE8 : cEndsI p2 p3 p4 q 9 0 k w = (k2, w2) := (by rw [hT2, cEndsI, if_neg (by omega)]); rw [hT, cEndsO, if_pos (by omega), hE8]) hG hS (lv_sub hl [0, 2, 3, 4, 5, 6, 7, 8] rfl)
                      · refine lv_aload_n hx hb dX11_ends_83 rfl (lv_at hl 4 rfl) ?_
                        refine g_get (C := RX11) (T := TX11) (N := 14) (ci := 10) hx hb hts (fun _ h => (List.mem_cons_of_mem _ (List.mem_append_left _ (List.mem_append_left _ (List.mem_append_left _ (List.mem_append_left _ (List.mem_append_left _ (List.mem_append_left _ (List.mem_append_right _ h))))))))) hown hC.1 hG 0 (by decide) rfl rfl 6 (by decide) (hts (.fieldLink RX11 39 "StraitSwim" "trial" "LStraitSwim$Swim;") (List.mem_cons_of_mem _ (List.mem_append_left _ (List.mem_append_left _ (List.mem_append_left _ (List.mem_append_left _ (List.mem_append_left _ (List.mem_append_left _ (List.mem_append_left _ (List.mem_append_left _ (List.mem_of_getElem? (i := 1) rfl))))))))))) (fun _ h9 => h9) rfl dX11_ends_84 ?_
                        refine lv_aload_n hx hb dX11_ends_87 rfl (lv_at hl 4 rfl) ?_
                        refine g_get (C := RX11) (T := TX11) (N := 14) (ci := 10) hx hb hts (fun _ h => (List.mem_cons_of_mem _ (List.mem_append_left _ (List.mem_append_left _ (List.mem_append_left _ (List.mem_append_left _ (List.mem_append_left _ (List.mem_append_left _ (List.mem_append_right _ h))))))))) hown hC.1 hG 0 (by decide) rfl rfl 0 (by decide) (hts (.fieldLink RX11 10 "StraitSwim" "strait" "LStraitSwim$Strait;") (List.mem_cons_of_mem _ (List.mem_append_left _ (List.mem_append_left _ (List.mem_append_left _ (List.mem_append_left _ (List.mem_append_left _ (List.mem_append_left _ (List.mem_append_left _ (List.mem_append_left _ (List.mem_of_getElem? (i := 0) rfl))))))))))) (fun _ h9 => h9) rfl dX11_ends_88 ?_
                        refine lv_iload_n hx hb dX11_ends_91 rfl (lv_at hl 6 rfl) ?_
                        refine lv_iload_n hx hb dX11_ends_92 rfl (lv_at hl 7 rfl) ?_
                        refine lv_iload hx hb dX11_ends_93 (lv_at hl 1 rfl) ?_
                        refine lv_iload hx hb dX11_ends_95 (lv_at hl 0 rfl) ?_
                        refine g_calli (va_runV (As := [.ref (ad 1), .int (zI p2), .int (zI p3), .int (zI q), .int (zI b)]) (rest := []) ⟨hx, hb, hml, hown, hts⟩ (kX9_cross_3 l D cy ad jf A w2 p2 p3 q b (by omega) (by omega) (by omega) (by omega) i10b i11b r1_ r2_ hd2 r3_ r4_) (cwV 5 hts gX11_ends_X9_cross rfl rfl rfl (by decide +kernel) ⟨by decide, by decide⟩) (g_preV (C := RX9) hG hC hS 3 (by decide) rfl rfl) rfl rfl hl.1 rfl (lv_room (Nat.le_of_ble_eq_true rfl)) dX11_ends_97 ⟨Nat.le_of_ble_eq_true rfl, Nat.le_of_ble_eq_true rfl⟩) hS (fun r83 u84 H locs p_85 hG hS => ?_)
                        obtain ⟨rfl, hu84⟩ := p_85
                        obtain ⟨z86, hz86⟩ : ∃ z : Int, z = (cCross w2 17 18 19 20 11 12 13 14 p2 p3 q b).1 := ⟨_, rfl⟩
                        rw [← hz86]
                        have qc_ := cCross_res w2 p2 p3 q b hI2
                        rw [← hz86, ← hu84] at qc_
                        have hI3 : cI u84 := by rw [hu84]; exact cI_cross p2 p3 q b hI2
                        refine lv_iload hx hb dX11_ends_100 (lv_at hl 8 rfl) ?_
                        refine z_icmp_ne (tgt := 108) hx hb dX11_ends_102 (by decide) (by omega) (by omega) (by omega) (by omega) (fun c_87 => ?_) (fun c_87 => ?_)
                        · refine z_iinc (lv' := [(8, .int (zI (b + 1))), (7, .int (zI q)), (6, .int (zI k2)), (5, .ref a), (0, .ref (ad 0)), (1, .int (zI p1)), (2, .int (zI p2)), (3, .int (zI p3)), (4, .int (zI p4))]) hx hb dX11_ends_108 hl (k := 0) rfl (by decide) rfl (fun ls hl => ?_)
                          refine lv_goto (tgt := 76) hx hb dX11_ends_111 (by decide) ?_
                          exact ih76 (b + 1) k2 u84 _ _ _ (by omega) (by omega) (by exact hI3) (by rw [hT2, cEndsI, if_pos (by omega)]; simp only [← hz86, ← hu84]; (repeat (first | rw [if_pos (by omega)] | rw [if_neg (by omega)]))) hG hS (lv_sub hl [0, 1, 2, 3, 4, 5, 6, 7, 8] rfl)
                        · refine z_iinc (lv' := [(6, .int (zI (k2 + 1))), (8, .int (zI b)), (7, .int (zI q)), (5, .ref a), (0, .ref (ad 0)), (1, .int (zI p1)), (2, .int (zI p2)), (3, .int (zI p3)), (4, .int (zI p4))]) hx hb dX11_ends_105 hl (k := 2) rfl (by decide) rfl (fun ls hl => ?_)
                          refine z_iinc (lv' := [(8, .int (zI (b + 1))), (6, .int (zI (k2 + 1))), (7, .int (zI q)), (5, .ref a), (0, .ref (ad 0)), (1, .int (zI p1)), (2, .int (zI p2)), (3, .int (zI p3)), (4, .int (zI p4))]) hx hb dX11_ends_108 hl (k := 1) rfl (by decide) rfl (fun ls hl => ?_)
                          refine lv_goto (tgt := 76) hx hb dX11_ends_111 (by decide) ?_
                          exact ih76 (b + 1) (k2 + 1) u84 _ _ _ (by omega) (by omega) (by exact hI3) (by rw [hT2, cEndsI, if_pos (by omega)]; simp only [← hz86, ← hu84]; (repeat (first | rw [if_pos (by omega)] | rw [if_neg (by omega)]))) hG hS (lv_sub hl [0, 2, 1, 3, 4, 5, 6, 7, 8] rfl)
                  exact loop76 9 0 k w _ _ _ (by omega) (by omega) (by exact hI) (by rfl) hG hS (lv_sub hl [0, 1, 2, 3, 4, 5, 6, 7, 8] rfl)
            exact loop66 49 0 0 u79 _ _ _ (by omega) (by omega) (by exact hI) (by rfl) hG hS (lv_sub hl [0, 1, 2, 3, 4, 5, 6, 7] rfl)
          · refine z_bipush hx hb dX11_ends_44 (by decide) ?_
            exact W.iret (v := zI ((-4))) hx hb hr (fun t9 ht9_ hW => ⟨⟨zI ((-4)), u, rfl, (by unfold cEnds; (first | (rw [if_neg (by omega)]; exact ⟨rfl, rfl⟩) | (rw [if_pos (by omega), if_neg (by omega)]; exact ⟨rfl, rfl⟩))), gB.mk' hG hC hS ht9_ hW⟩, hS.F ht9_⟩) hS.2.2 dX11_ends_46
        · refine z_iconst hx hb dX11_ends_30 ?_
          exact W.iret (v := zI ((-1))) hx hb hr (fun t9 ht9_ hW => ⟨⟨zI ((-1)), u, rfl, (by unfold cEnds; (first | (rw [if_neg (by omega)]; exact ⟨rfl, rfl⟩) | (rw [if_pos (by omega), if_neg (by omega)]; exact ⟨rfl, rfl⟩))), gB.mk' hG hC hS ht9_ hW⟩, hS.F ht9_⟩) hS.2.2 dX11_ends_31
    · have hE : u.2.2.2.2 a = .inr (5, [.int (zI (p1.toNat : Int)), .int (zI (S9 p1.toNat)), .int (zI (L9 p1.toNat)), .int (zI (F9 p1.toNat))]) := by rw [hE0, hk0]; rfl
      simp only [va_rf]
      refine lv_astore (lv' := [(5, .ref a), (0, .ref (ad 0)), (1, .int (zI p1)), (2, .int (zI p2)), (3, .int (zI p3)), (4, .int (zI p4))]) hx hb dX11_ends_5 hl (by decide) rfl (fun ls hl => ?_)
      refine lv_aload hx hb dX11_ends_7 (lv_at hl 0 rfl) ?_
      refine lv_ifnull hx hb dX11_ends_9 ?_
      refine lv_iload_n hx hb dX11_ends_12 rfl (lv_at hl 3 rfl) ?_
      refine lv_iload_n hx hb dX11_ends_13 rfl (lv_at hl 4 rfl) ?_
      refine g_calli (va_runS (As := [.int (zI p2), .int (zI p3)]) (rest := []) ⟨hx, hb, hml, hown, hts⟩ (kX11_isPlace l D cy ad jf A u p2 p3 (by omega) (by omega)) (va_cwS 2 hts gX11_ends_X11_isPlace rfl rfl rfl (by decide +kernel) ⟨by decide, by decide⟩) (g_preS hG hC hS) rfl rfl hl.1 rfl (lv_room (Nat.le_of_ble_eq_true rfl)) dX11_ends_14 ⟨Nat.le_of_ble_eq_true rfl, Nat.le_of_ble_eq_true rfl⟩) hS (fun r88 u89 H locs p_90 hG hS => ?_)
      obtain ⟨⟨b91, rfl, q_92⟩, he_⟩ := p_90
      rw [he_] at hG; clear he_
      have hbb91 : 0 ≤ b91 ∧ b91 ≤ 1 := by rcases q_92 with ⟨h, _⟩ | ⟨h, _⟩ <;> omega
      refine z_if_eq (tgt := 30) hx hb dX11_ends_17 (by decide) (by omega) (by omega) (fun c_93 => ?_) (fun c_93 => ?_)
      · refine z_iconst hx hb dX11_ends_30 ?_
        exact W.iret (v := zI ((-1))) hx hb hr (fun t9 ht9_ hW => ⟨⟨zI ((-1)), u, rfl, (by unfold cEnds; (first | (rw [if_neg (by omega)]; exact ⟨rfl, rfl⟩) | (rw [if_pos (by omega), if_neg (by omega)]; exact ⟨rfl, rfl⟩))), gB.mk' hG hC hS ht9_ hW⟩, hS.F ht9_⟩) hS.2.2 dX11_ends_31
      · refine lv_iload hx hb dX11_ends_20 (lv_at hl 5 rfl) ?_
        refine z_iconst hx hb dX11_ends_22 ?_
        refine z_iconst hx hb dX11_ends_23 ?_
        refine g_calli (va_runS (As := [.int (zI p4), .int (zI 0), .int (zI 3)]) (rest := []) ⟨hx, hb, hml, hown, hts⟩ (kX11_isWithin l D cy ad jf A u p4 0 3 (by omega) (by omega) (by omega)) (va_cwS 3 hts gX11_ends_X11_isWithin rfl rfl rfl (by decide +kernel) ⟨by decide, by decide⟩) (g_preS hG hC hS) rfl rfl hl.1 rfl (lv_room (Nat.le_of_ble_eq_true rfl)) dX11_ends_24 ⟨Nat.le_of_ble_eq_true rfl, Nat.le_of_ble_eq_true rfl⟩) hS (fun r94 u95 H locs p_96 hG hS => ?_)
        obtain ⟨⟨b97, rfl, q_98⟩, he_⟩ := p_96
        rw [he_] at hG; clear he_
        have hbb97 : 0 ≤ b97 ∧ b97 ≤ 1 := by rcases q_98 with ⟨h, _⟩ | ⟨h, _⟩ <;> omega
        refine z_if_ne (tgt := 32) hx hb dX11_ends_27 (by decide) (by omega) (by omega) (fun c_99 => ?_) (fun c_99 => ?_)
        · refine lv_aload_n hx hb dX11_ends_32 rfl (lv_at hl 1 rfl) ?_
          refine g_get (C := RX11) (T := TX11) (N := 14) (ci := 10) hx hb hts (fun _ h => (List.mem_cons_of_mem _ (List.mem_append_left _ (List.mem_append_left _ (List.mem_append_left _ (List.mem_append_left _ (List.mem_append_left _ (List.mem_append_left _ (List.mem_append_right _ h))))))))) hown hC.1 hG 0 (by decide) rfl rfl 0 (by decide) (hts (.fieldLink RX11 10 "StraitSwim" "strait" "LStraitSwim$Strait;") (List.mem_cons_of_mem _ (List.mem_append_left _ (List.mem_append_left _ (List.mem_append_left _ (List.mem_append_left _ (List.mem_append_left _ (List.mem_append_left _ (List.mem_append_left _ (List.mem_append_left _ (List.mem_of_getElem? (i := 0) rfl))))))))))) (fun _ h9 => h9) rfl dX11_ends_33 ?_
          refine lv_iload_n hx hb dX11_ends_36 rfl (lv_at hl 3 rfl) ?_
          refine lv_iload_n hx hb dX11_ends_37 rfl (lv_at hl 4 rfl) ?_
          refine g_calli (va_runV (As := [.int (zI p2), .int (zI p3)]) (rest := []) ⟨hx, hb, hml, hown, hts⟩ (kX8_isDry l D cy ad jf A u p2 p3 (by omega) (by omega) hd) (cwV 2 hts gX11_ends_X8_isDry rfl rfl rfl (by decide +kernel) ⟨by decide, by decide⟩) (g_preV (C := RX8) hG hC hS 1 (by decide) rfl rfl) rfl rfl hl.1 rfl (lv_room (Nat.le_of_ble_eq_true rfl)) dX11_ends_38 ⟨Nat.le_of_ble_eq_true rfl, Nat.le_of_ble_eq_true rfl⟩) hS (fun r100 u101 H locs p_102 hG hS => ?_)
          obtain ⟨rfl, he_⟩ := p_102
          rw [he_] at hG; clear he_
          obtain ⟨z104, hz104⟩ : ∃ z : Int, z = spDry (u.2.1 9) p2 p3 := ⟨_, rfl⟩
          rw [← hz104]
          have q_103 : z104 = 0 ∨ z104 = 1 := by rw [hz104]; exact hd _ (by omega)
          refine z_if_eq (tgt := 47) hx hb dX11_ends_41 (by decide) (by omega) (by omega) (fun c_105 => ?_) (fun c_105 => ?_)
          · refine lv_aload_n hx hb dX11_ends_47 rfl (lv_at hl 1 rfl) ?_
            refine g_get (C := RX11) (T := TX11) (N := 14) (ci := 10) hx hb hts (fun _ h => (List.mem_cons_of_mem _ (List.mem_append_left _ (List.mem_append_left _ (List.mem_append_left _ (List.mem_append_left _ (List.mem_append_left _ (List.mem_append_left _ (List.mem_append_right _ h))))))))) hown hC.1 hG 0 (by decide) rfl rfl 6 (by decide) (hts (.fieldLink RX11 39 "StraitSwim" "trial" "LStraitSwim$Swim;") (List.mem_cons_of_mem _ (List.mem_append_left _ (List.mem_append_left _ (List.mem_append_left _ (List.mem_append_left _ (List.mem_append_left _ (List.mem_append_left _ (List.mem_append_left _ (List.mem_append_left _ (List.mem_of_getElem? (i := 1) rfl))))))))))) (fun _ h9 => h9) rfl dX11_ends_48 ?_
            refine lv_aload hx hb dX11_ends_51 (lv_at hl 0 rfl) ?_
            refine lv_aload_n hx hb dX11_ends_53 rfl (lv_at hl 1 rfl) ?_
            refine g_get (C := RX11) (T := TX11) (N := 14) (ci := 10) hx hb hts (fun _ h => (List.mem_cons_of_mem _ (List.mem_append_left _ (List.mem_append_left _ (List.mem_append_left _ (List.mem_append_left _ (List.mem_append_left _ (List.mem_append_left _ (List.mem_append_right _ h))))))))) hown hC.1 hG 0 (by decide) rfl rfl 3 (by decide) (hts (.fieldLink RX11 26 "StraitSwim" "chill" "I") (List.mem_cons_of_mem _ (List.mem_append_left _ (List.mem_append_left _ (List.mem_append_left _ (List.mem_append_left _ (List.mem_append_left _ (List.mem_append_left _ (List.mem_append_left _ (List.mem_append_left _ (List.mem_of_getElem? (i := 2) rfl))))))))))) (fun _ h9 => h9) rfl dX11_ends_54 ?_
            refine g_callv (va_runV (As := [.ref a, .int (zI (u.1 1))]) (rest := []) ⟨hx, hb, hml, hown, hts⟩ (kX9_ready_3_X6 l D cy ad jf A u a ((p1.toNat : Int)) (S9 p1.toNat) (L9 p1.toNat) (F9 p1.toNat) (u.1 1) ha hE (by omega) (by omega) (by omega) (by omega) hrd.2.2.2.2) (cwV 2 hts gX11_ends_X9_ready rfl rfl rfl (by decide +kernel) ⟨by decide, by decide⟩) (g_preV (C := RX9) hG hC hS 3 (by decide) rfl rfl) rfl rfl hl.1 rfl (lv_room (Nat.le_of_ble_eq_true rfl)) dX11_ends_57 ⟨Nat.le_of_ble_eq_true rfl, Nat.le_of_ble_eq_true rfl⟩) hS (fun u107 H locs p_108 hG hS => ?_)
            obtain ⟨⟨r1_, r2_, r3_, r4_, r5_⟩, rk_, ri_, rr_⟩ := cReady_inv (u := u) (sd := 19) (cl := 20) (nu := 10) (rc := 13) (tc := 14) (by decide) (by decide) (K := 3) (nm := (p1.toNat : Int)) (sp := S9 p1.toNat) (li := L9 p1.toNat) (fd := F9 p1.toNat) (ch := u.1 1) (by omega) (by omega) (by omega) hrd
            rw [← p_108] at r1_ r2_ r3_ r4_ r5_ rk_ ri_ rr_
            have hd2 : ∀ j, j < 288 → u107.2.1 9 j = 0 ∨ u107.2.1 9 j = 1 := by rw [rk_ 9 (by decide)]; exact hd
            have i10b : ∀ j, j < 36 → -9 ≤ u107.2.1 10 j ∧ u107.2.1 10 j ≤ 9 := by rw [rk_ 10 (by decide)]; exact i10
            have i11b : ∀ j, j < 36 → -9 ≤ u107.2.1 11 j ∧ u107.2.1 11 j ≤ 9 := by rw [rk_ 11 (by decide)]; exact i11
            have hI : cI u107 := ⟨⟨r1_, r2_, r3_, r4_, r5_⟩, hd2, i10b, i11b⟩
            refine z_iconst hx hb dX11_ends_60 ?_
            refine lv_istore (lv' := [(6, .int (zI 0)), (5, .ref a), (0, .ref (ad 0)), (1, .int (zI p1)), (2, .int (zI p2)), (3, .int (zI p3)), (4, .int (zI p4))]) hx hb dX11_ends_61 hl (by decide) rfl (fun ls hl => ?_)
            refine z_iconst hx hb dX11_ends_63 ?_
            refine lv_istore (lv' := [(7, .int (zI 0)), (6, .int (zI 0)), (5, .ref a), (0, .ref (ad 0)), (1, .int (zI p1)), (2, .int (zI p2)), (3, .int (zI p3)), (4, .int (zI p4))]) hx hb dX11_ends_64 hl (by decide) rfl (fun ls hl => ?_)
            have loop66 : ∀ (n : Nat) (q k : Int) (w : gS) (H : Heap) (locs : List Loc) (ls : Array Slot), (48 - q).toNat < n → (0 ≤ q ∧ q ≤ 48) → (cI w) → (cEndsO p2 p3 p4 49 0 0 u107 = cEndsO p2 p3 p4 n q k w) → gH D cy ad jf A w H → va_S A s.heap H locs → lv_has ls 9 [(7, .int (zI q)), (6, .int (zI k)), (5, .ref a), (0, .ref (ad 0)), (1, .int (zI p1)), (2, .int (zI p2)), (3, .int (zI p3)), (4, .int (zI p4))] → W p l e (headSpec wsX11_ends ({ frames := 5, cells := 0, slots := 0, locals := 120 })).room s m ([.ref (ad 0), .int (zI p1), .int (zI p2), .int (zI p3), .int (zI p4)]).toArray below meth c H locs 0 0 (MQ below (va_Qi (fun (r : Int32) (v : gS) => r = zI (cEnds u K S9 L9 F9 p1 p2 p3 p4).1 ∧ v = (cEnds u K S9 L9 F9 p1 p2 p3 p4).2) (gB D cy ad jf A) A) ([.ref (ad 0), .int (zI p1), .int (zI p2), .int (zI p3), .int (zI p4)]).toArray s 0 0 A) (F0 m 66 ls []) := by
              intro n
              induction n with
              | zero => intro q k w H locs ls hm; exact absurd hm (Nat.not_lt_zero _)
              | succ n ih66 =>
                intro q k w H locs ls hm hq9 hI hT hG hS hl
                refine lv_iload hx hb dX11_ends_66 (lv_at hl 0 rfl) ?_
                refine z_bipush hx hb dX11_ends_68 (by decide) ?_
                refine z_icmp_ge (tgt := 120) hx hb dX11_ends_70 (by decide) (by omega) (by omega) (by omega) (by omega) (fun c_109 => ?_) (fun c_109 => ?_)
                · refine lv_iload hx hb dX11_ends_120 (lv_at hl 1 rfl) ?_
                  exact W.iret (v := zI k) hx hb hr (fun t9 ht9_ hW => ⟨⟨zI k, w, rfl, (by unfold cEnds; rw [if_pos (by omega), if_pos (by omega)]; unfold cRdT; rw [hk0, ← p_108, hT, cEndsO, if_neg (by omega)]; exact ⟨rfl, rfl⟩), gB.mk' hG hC hS ht9_ hW⟩, hS.F ht9_⟩) hS.2.2 dX11_ends_122
                · refine z_iconst hx hb dX11_ends_73 ?_
                  refine lv_istore (lv' := [(8, .int (zI 0)), (7, .int (zI q)), (6, .int (zI k)), (5, .ref a), (0, .ref (ad 0)), (1, .int (zI p1)), (2, .int (zI p2)), (3, .int (zI p3)), (4, .int (zI p4))]) hx hb dX11_ends_74 hl (by decide) rfl (fun ls hl => ?_)
                  have loop76 : ∀ (n : Nat) (b k2 : Int) (w2 : gS) (H : Heap) (locs : List Loc) (ls : Array Slot), (8 - b).toNat < n → (0 ≤ b ∧ b ≤ 8) → (cI w2) → (cEndsI p2 p3 p4 q 9 0 k w = cEndsI p2 p3 p4 q n b k2 w2) → gH D cy ad jf A w2 H → va_S A s.heap H locs → lv_has ls 9 [(8, .int (zI b)), (7, .int (zI q)), (6, .int (zI k2)), (5, .ref a), (0, .ref (ad 0)), (1, .int (zI p1)), (2, .int (zI p2)), (3, .int (zI p3)), (4, .int (zI p4))] → W p l e (headSpec wsX11_ends ({ frames := 5, cells := 0, slots := 0, locals := 120 })).room s m ([.ref (ad 0), .int (zI p1), .int (zI p2), .int (zI p3), .int (zI p4)]).toArray below meth c H locs 0 0 (MQ below (va_Qi (fun (r : Int32) (v : gS) => r = zI (cEnds u K S9 L9 F9 p1 p2 p3 p4).1 ∧ v = (cEnds u K S9 L9 F9 p1 p2 p3 p4).2) (gB D cy ad jf A) A) ([.ref (ad 0), .int (zI p1), .int (zI p2), .int (zI p3), .int (zI p4)]).toArray s 0 0 A) (F0 m 76 ls []) := by
                    intro n
                    induction n with
                    | zero => intro b k2 w2 H locs ls hm; exact absurd hm (Nat.not_lt_zero _)
                    | succ n ih76 =>
                      intro b k2 w2 H locs ls hm hb9 hI2 hT2 hG hS hl
                      obtain ⟨⟨r1_, r2_, r3_, r4_, r5_⟩, hd2, i10b, i11b⟩ := id hI2
                      refine lv_iload hx hb dX11_ends_76 (lv_at hl 0 rfl) ?_
                      refine z_bipush hx hb dX11_ends_78 (by decide) ?_
                      refine z_icmp_ge (tgt := 114) hx hb dX11_ends_80 (by decide) (by omega) (by omega) (by omega) (by omega) (fun c_110 => ?_) (fun c_110 => ?_)
                      · refine z_iinc (lv' := [(7, .int (zI (q + 1))), (8, .int (zI b)), (6, .int (zI k2)), (5, .ref a), (0, .ref (ad 0)), (1, .int (zI p1)), (2, .int (zI p2)), (3, .int (zI p3)), (4, .int (zI p4))]) hx hb dX11_ends_114 hl (k := 1) rfl (by decide) rfl (fun ls hl => ?_)
                        refine lv_goto (tgt := 66) hx hb dX11_ends_117 (by decide) ?_
                        exact ih66 (q + 1) k2 w2 _ _ _ (by omega) (by omega) (by exact hI2) (by have hE8 : cEndsI p2 p3 p4 q 9 0 k w = (k2, w2) := (by rw [hT2, cEndsI, if_neg (by omega)]); rw [hT, cEndsO, if_pos (by omega), hE8]) hG hS (lv_sub hl [0, 2, 3, 4, 5, 6, 7, 8] rfl)
                      · refine lv_aload_n hx hb dX11_ends_83 rfl (lv_at hl 4 rfl) ?_
                        refine g_get (C := RX11) (T := TX11) (N := 14) (ci := 10) hx hb hts (fun _ h => (List.mem_cons_of_mem _ (List.mem_append_left _ (List.mem_append_left _ (List.mem_append_left _ (List.mem_append_left _ (List.mem_append_left _ (List.mem_append_left _ (List.mem_append_right _ h))))))))) hown hC.1 hG 0 (by decide) rfl rfl 6 (by decide) (hts (.fieldLink RX11 39 "StraitSwim" "trial" "LStraitSwim$Swim;") (List.mem_cons_of_mem _ (List.mem_append_left _ (List.mem_append_left _ (List.mem_append_left _ (List.mem_append_left _ (List.mem_append_left _ (List.mem_append_left _ (List.mem_append_left _ (List.mem_append_left _ (List.mem_of_getElem? (i := 1) rfl))))))))))) (fun _ h9 => h9) rfl dX11_ends_84 ?_
                        refine lv_aload_n hx hb dX11_ends_87 rfl (lv_at hl 4 rfl) ?_
                        refine g_get (C := RX11) (T := TX11) (N := 14) (ci := 10) hx hb hts (fun _ h => (List.mem_cons_of_mem _ (List.mem_append_left _ (List.mem_append_left _ (List.mem_append_left _ (List.mem_append_left _ (List.mem_append_left _ (List.mem_append_left _ (List.mem_append_right _ h))))))))) hown hC.1 hG 0 (by decide) rfl rfl 0 (by decide) (hts (.fieldLink RX11 10 "StraitSwim" "strait" "LStraitSwim$Strait;") (List.mem_cons_of_mem _ (List.mem_append_left _ (List.mem_append_left _ (List.mem_append_left _ (List.mem_append_left _ (List.mem_append_left _ (List.mem_append_left _ (List.mem_append_left _ (List.mem_append_left _ (List.mem_of_getElem? (i := 0) rfl))))))))))) (fun _ h9 => h9) rfl dX11_ends_88 ?_
                        refine lv_iload_n hx hb dX11_ends_91 rfl (lv_at hl 6 rfl) ?_
                        refine lv_iload_n hx hb dX11_ends_92 rfl (lv_at hl 7 rfl) ?_
                        refine lv_iload hx hb dX11_ends_93 (lv_at hl 1 rfl) ?_
                        refine lv_iload hx hb dX11_ends_95 (lv_at hl 0 rfl) ?_
                        refine g_calli (va_runV (As := [.ref (ad 1), .int (zI p2), .int (zI p3), .int (zI q), .int (zI b)]) (rest := []) ⟨hx, hb, hml, hown, hts⟩ (kX9_cross_3 l D cy ad jf A w2 p2 p3 q b (by omega) (by omega) (by omega) (by omega) i10b i11b r1_ r2_ hd2 r3_ r4_) (cwV 5 hts gX11_ends_X9_cross rfl rfl rfl (by decide +kernel) ⟨by decide, by decide⟩) (g_preV (C := RX9) hG hC hS 3 (by decide) rfl rfl) rfl rfl hl.1 rfl (lv_room (Nat.le_of_ble_eq_true rfl)) dX11_ends_97 ⟨Nat.le_of_ble_eq_true rfl, Nat.le_of_ble_eq_true rfl⟩) hS (fun r111 u112 H locs p_113 hG hS => ?_)
                        obtain ⟨rfl, hu112⟩ := p_113
                        obtain ⟨z114, hz114⟩ : ∃ z : Int, z = (cCross w2 17 18 19 20 11 12 13 14 p2 p3 q b).1 := ⟨_, rfl⟩
                        rw [← hz114]
                        have qc_ := cCross_res w2 p2 p3 q b hI2
                        rw [← hz114, ← hu112] at qc_
                        have hI3 : cI u112 := by rw [hu112]; exact cI_cross p2 p3 q b hI2
                        refine lv_iload hx hb dX11_ends_100 (lv_at hl 8 rfl) ?_
                        refine z_icmp_ne (tgt := 108) hx hb dX11_ends_102 (by decide) (by omega) (by omega) (by omega) (by omega) (fun c_115 => ?_) (fun c_115 => ?_)
                        · refine z_iinc (lv' := [(8, .int (zI (b + 1))), (7, .int (zI q)), (6, .int (zI k2)), (5, .ref a), (0, .ref (ad 0)), (1, .int (zI p1)), (2, .int (zI p2)), (3, .int (zI p3)), (4, .int (zI p4))]) hx hb dX11_ends_108 hl (k := 0) rfl (by decide) rfl (fun ls hl => ?_)
                          refine lv_goto (tgt := 76) hx hb dX11_ends_111 (by decide) ?_
                          exact ih76 (b + 1) k2 u112 _ _ _ (by omega) (by omega) (by exact hI3) (by rw [hT2, cEndsI, if_pos (by omega)]; simp only [← hz114, ← hu112]; (repeat (first | rw [if_pos (by omega)] | rw [if_neg (by omega)]))) hG hS (lv_sub hl [0, 1, 2, 3, 4, 5, 6, 7, 8] rfl)
                        · refine z_iinc (lv' := [(6, .int (zI (k2 + 1))), (8, .int (zI b)), (7, .int (zI q)), (5, .ref a), (0, .ref (ad 0)), (1, .int (zI p1)), (2, .int (zI p2)), (3, .int (zI p3)), (4, .int (zI p4))]) hx hb dX11_ends_105 hl (k := 2) rfl (by decide) rfl (fun ls hl => ?_)
                          refine z_iinc (lv' := [(8, .int (zI (b + 1))), (6, .int (zI (k2 + 1))), (7, .int (zI q)), (5, .ref a), (0, .ref (ad 0)), (1, .int (zI p1)), (2, .int (zI p2)), (3, .int (zI p3)), (4, .int (zI p4))]) hx hb dX11_ends_108 hl (k := 1) rfl (by decide) rfl (fun ls hl => ?_)
                          refine lv_goto (tgt := 76) hx hb dX11_ends_111 (by decide) ?_
                          exact ih76 (b + 1) (k2 + 1) u112 _ _ _ (by omega) (by omega) (by exact hI3) (by rw [hT2, cEndsI, if_pos (by omega)]; simp only [← hz114, ← hu112]; (repeat (first | rw [if_pos (by omega)] | rw [if_neg (by omega)]))) hG hS (lv_sub hl [0, 2, 1, 3, 4, 5, 6, 7, 8] rfl)
                  exact loop76 9 0 k w _ _ _ (by omega) (by omega) (by exact hI) (by rfl) hG hS (lv_sub hl [0, 1, 2, 3, 4, 5, 6, 7, 8] rfl)
            exact loop66 49 0 0 u107 _ _ _ (by omega) (by omega) (by exact hI) (by rfl) hG hS (lv_sub hl [0, 1, 2, 3, 4, 5, 6, 7] rfl)
          · refine z_bipush hx hb dX11_ends_44 (by decide) ?_
            exact W.iret (v := zI ((-4))) hx hb hr (fun t9 ht9_ hW => ⟨⟨zI ((-4)), u, rfl, (by unfold cEnds; (first | (rw [if_neg (by omega)]; exact ⟨rfl, rfl⟩) | (rw [if_pos (by omega), if_neg (by omega)]; exact ⟨rfl, rfl⟩))), gB.mk' hG hC hS ht9_ hW⟩, hS.F ht9_⟩) hS.2.2 dX11_ends_46
        · refine z_iconst hx hb dX11_ends_30 ?_
          exact W.iret (v := zI ((-1))) hx hb hr (fun t9 ht9_ hW => ⟨⟨zI ((-1)), u, rfl, (by unfold cEnds; (first | (rw [if_neg (by omega)]; exact ⟨rfl, rfl⟩) | (rw [if_pos (by omega), if_neg (by omega)]; exact ⟨rfl, rfl⟩))), gB.mk' hG hC hS ht9_ hW⟩, hS.F ht9_⟩) hS.2.2 dX11_ends_31
  · rw [if_neg hk_] at hr_
    subst hr_
    simp only [va_rf]
    refine lv_astoreN (lv' := [(5, .null), (0, .ref (ad 0)), (1, .int (zI p1)), (2, .int (zI p2)), (3, .int (zI p3)), (4, .int (zI p4))]) hx hb dX11_ends_5 hl (by decide) rfl (fun ls hl => ?_)
    refine lv_aloadN hx hb dX11_ends_7 (lv_at hl 0 rfl) ?_
    refine lv_ifnullN (tgt := 30) hx hb dX11_ends_9 (by decide) ?_
    refine z_iconst hx hb dX11_ends_30 ?_
    exact W.iret (v := zI ((-1))) hx hb hr (fun t9 ht9_ hW => ⟨⟨zI ((-1)), u, rfl, (by unfold cEnds; (first | (rw [if_neg (by omega)]; exact ⟨rfl, rfl⟩) | (rw [if_pos (by omega), if_neg (by omega)]; exact ⟨rfl, rfl⟩))), gB.mk' hG hC hS ht9_ hW⟩, hS.F ht9_⟩) hS.2.2 dX11_ends_31
